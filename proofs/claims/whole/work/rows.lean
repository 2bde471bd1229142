section
-- ===== PART A: goes FIRST, ahead of the names: the tables' words, and 'selects' of the private methods out of them =====
/-- a private method of a class that the tables say can be made, by its rows of tables_1 -/
def lw_okq (q : MethodName × Nat) : Prop := (q.1.cls ≠ "java/lang/invoke/MethodHandle" ∧ q.1.cls ≠ "java/lang/invoke/VarHandle") ∧ Cond.instantiable q.1.cls q.2 ∈ tables_1 ∧ Cond.privateMethod q.1 ∈ tables_1 ∧ Cond.instanceMethod q.1 ∈ tables_1
theorem lw_p0 : lw_okq (⟨"BuyAsAsked$Sheets", "isRow", "(III)Z"⟩, 3) := ⟨⟨by decide +kernel, by decide +kernel⟩, List.mem_of_getElem? (i := 20) (by decide +kernel), List.mem_of_getElem? (i := 237) (by decide +kernel), List.mem_of_getElem? (i := 238) (by decide +kernel)⟩
theorem lw_p1 : lw_okq (⟨"BuyAsAsked$Sets", "leastGap", "(I)I"⟩, 9) := ⟨⟨by decide +kernel, by decide +kernel⟩, List.mem_of_getElem? (i := 39) (by decide +kernel), List.mem_of_getElem? (i := 300) (by decide +kernel), List.mem_of_getElem? (i := 301) (by decide +kernel)⟩
theorem lw_p2 : lw_okq (⟨"BuyAsAsked$Sets", "pricesOf", "(I)I"⟩, 9) := ⟨⟨by decide +kernel, by decide +kernel⟩, List.mem_of_getElem? (i := 39) (by decide +kernel), List.mem_of_getElem? (i := 308) (by decide +kernel), List.mem_of_getElem? (i := 309) (by decide +kernel)⟩
theorem lw_p3 : lw_okq (⟨"BuyAsAsked$Sets", "buyTight", "(I)I"⟩, 9) := ⟨⟨by decide +kernel, by decide +kernel⟩, List.mem_of_getElem? (i := 39) (by decide +kernel), List.mem_of_getElem? (i := 315) (by decide +kernel), List.mem_of_getElem? (i := 316) (by decide +kernel)⟩
theorem lw_p4 : lw_okq (⟨"BuyAsAsked", "meetItems", "(III)I"⟩, 6) := ⟨⟨by decide +kernel, by decide +kernel⟩, List.mem_of_getElem? (i := 12) (by decide +kernel), List.mem_of_getElem? (i := 323) (by decide +kernel), List.mem_of_getElem? (i := 324) (by decide +kernel)⟩
theorem lw_p5 : lw_okq (⟨"BuyAsAsked$Sets", "havers", "(I)I"⟩, 9) := ⟨⟨by decide +kernel, by decide +kernel⟩, List.mem_of_getElem? (i := 39) (by decide +kernel), List.mem_of_getElem? (i := 351) (by decide +kernel), List.mem_of_getElem? (i := 352) (by decide +kernel)⟩
theorem lw_p6 : lw_okq (⟨"BuyAsAsked$Leases", "start", "(II)I"⟩, 11) := ⟨⟨by decide +kernel, by decide +kernel⟩, List.mem_of_getElem? (i := 82) (by decide +kernel), List.mem_of_getElem? (i := 403) (by decide +kernel), List.mem_of_getElem? (i := 404) (by decide +kernel)⟩
theorem lw_p7 : lw_okq (⟨"BuyAsAsked$Leases", "leastGap", "(I)I"⟩, 11) := ⟨⟨by decide +kernel, by decide +kernel⟩, List.mem_of_getElem? (i := 82) (by decide +kernel), List.mem_of_getElem? (i := 408) (by decide +kernel), List.mem_of_getElem? (i := 409) (by decide +kernel)⟩
theorem lw_p8 : lw_okq (⟨"BuyAsAsked$Leases", "filled", "(II)I"⟩, 11) := ⟨⟨by decide +kernel, by decide +kernel⟩, List.mem_of_getElem? (i := 82) (by decide +kernel), List.mem_of_getElem? (i := 412) (by decide +kernel), List.mem_of_getElem? (i := 413) (by decide +kernel)⟩
theorem lw_p9 : lw_okq (⟨"BuyAsAsked$Leases", "buyTight", "(I)I"⟩, 11) := ⟨⟨by decide +kernel, by decide +kernel⟩, List.mem_of_getElem? (i := 82) (by decide +kernel), List.mem_of_getElem? (i := 421) (by decide +kernel), List.mem_of_getElem? (i := 422) (by decide +kernel)⟩
theorem lw_p10 : lw_okq (⟨"BuyAsAsked$Leases", "closeSpans", "(I)V"⟩, 11) := ⟨⟨by decide +kernel, by decide +kernel⟩, List.mem_of_getElem? (i := 82) (by decide +kernel), List.mem_of_getElem? (i := 435) (by decide +kernel), List.mem_of_getElem? (i := 436) (by decide +kernel)⟩
theorem lw_p11 : lw_okq (⟨"BuyAsAsked$Sites", "weighRows", "()V"⟩, 12) := ⟨⟨by decide +kernel, by decide +kernel⟩, List.mem_of_getElem? (i := 128) (by decide +kernel), List.mem_of_getElem? (i := 479) (by decide +kernel), List.mem_of_getElem? (i := 480) (by decide +kernel)⟩
theorem lw_p12 : lw_okq (⟨"BuyAsAsked$Sites", "leastWeight", "(I)I"⟩, 12) := ⟨⟨by decide +kernel, by decide +kernel⟩, List.mem_of_getElem? (i := 128) (by decide +kernel), List.mem_of_getElem? (i := 484) (by decide +kernel), List.mem_of_getElem? (i := 485) (by decide +kernel)⟩
theorem lw_p13 : lw_okq (⟨"BuyAsAsked$Sites", "weightOf", "(II)I"⟩, 12) := ⟨⟨by decide +kernel, by decide +kernel⟩, List.mem_of_getElem? (i := 128) (by decide +kernel), List.mem_of_getElem? (i := 488) (by decide +kernel), List.mem_of_getElem? (i := 489) (by decide +kernel)⟩
theorem lw_p14 : lw_okq (⟨"BuyAsAsked$Sites", "buyRow", "(I)I"⟩, 12) := ⟨⟨by decide +kernel, by decide +kernel⟩, List.mem_of_getElem? (i := 128) (by decide +kernel), List.mem_of_getElem? (i := 494) (by decide +kernel), List.mem_of_getElem? (i := 495) (by decide +kernel)⟩
theorem lw_p15 : lw_okq (⟨"BuyAsAsked$Sites", "nextOnRow", "(I)I"⟩, 12) := ⟨⟨by decide +kernel, by decide +kernel⟩, List.mem_of_getElem? (i := 128) (by decide +kernel), List.mem_of_getElem? (i := 498) (by decide +kernel), List.mem_of_getElem? (i := 499) (by decide +kernel)⟩
def lw_privs_1 : List (MethodName × Nat) := [(⟨"BuyAsAsked$Sheets", "isRow", "(III)Z"⟩, 3), (⟨"BuyAsAsked$Sets", "leastGap", "(I)I"⟩, 9), (⟨"BuyAsAsked$Sets", "pricesOf", "(I)I"⟩, 9), (⟨"BuyAsAsked$Sets", "buyTight", "(I)I"⟩, 9), (⟨"BuyAsAsked", "meetItems", "(III)I"⟩, 6), (⟨"BuyAsAsked$Sets", "havers", "(I)I"⟩, 9), (⟨"BuyAsAsked$Leases", "start", "(II)I"⟩, 11), (⟨"BuyAsAsked$Leases", "leastGap", "(I)I"⟩, 11), (⟨"BuyAsAsked$Leases", "filled", "(II)I"⟩, 11), (⟨"BuyAsAsked$Leases", "buyTight", "(I)I"⟩, 11), (⟨"BuyAsAsked$Leases", "closeSpans", "(I)V"⟩, 11), (⟨"BuyAsAsked$Sites", "weighRows", "()V"⟩, 12), (⟨"BuyAsAsked$Sites", "leastWeight", "(I)I"⟩, 12), (⟨"BuyAsAsked$Sites", "weightOf", "(II)I"⟩, 12), (⟨"BuyAsAsked$Sites", "buyRow", "(I)I"⟩, 12), (⟨"BuyAsAsked$Sites", "nextOnRow", "(I)I"⟩, 12)]
theorem lw_r1 : ∀ q ∈ lw_privs_1, lw_okq q := List.forall_mem_cons.mpr ⟨lw_p0, List.forall_mem_cons.mpr ⟨lw_p1, List.forall_mem_cons.mpr ⟨lw_p2, List.forall_mem_cons.mpr ⟨lw_p3, List.forall_mem_cons.mpr ⟨lw_p4, List.forall_mem_cons.mpr ⟨lw_p5, List.forall_mem_cons.mpr ⟨lw_p6, List.forall_mem_cons.mpr ⟨lw_p7, List.forall_mem_cons.mpr ⟨lw_p8, List.forall_mem_cons.mpr ⟨lw_p9, List.forall_mem_cons.mpr ⟨lw_p10, List.forall_mem_cons.mpr ⟨lw_p11, List.forall_mem_cons.mpr ⟨lw_p12, List.forall_mem_cons.mpr ⟨lw_p13, List.forall_mem_cons.mpr ⟨lw_p14, List.forall_mem_cons.mpr ⟨lw_p15, fun _ h => absurd h List.not_mem_nil⟩⟩⟩⟩⟩⟩⟩⟩⟩⟩⟩⟩⟩⟩⟩⟩
theorem lw_p16 : lw_okq (⟨"BuyAsAsked$Sites", "buyWay", "(II)V"⟩, 12) := ⟨⟨by decide +kernel, by decide +kernel⟩, List.mem_of_getElem? (i := 128) (by decide +kernel), List.mem_of_getElem? (i := 502) (by decide +kernel), List.mem_of_getElem? (i := 503) (by decide +kernel)⟩
theorem lw_p17 : lw_okq (⟨"BuyAsAsked$Sites", "findNearest", "()V"⟩, 12) := ⟨⟨by decide +kernel, by decide +kernel⟩, List.mem_of_getElem? (i := 128) (by decide +kernel), List.mem_of_getElem? (i := 520) (by decide +kernel), List.mem_of_getElem? (i := 521) (by decide +kernel)⟩
theorem lw_p18 : lw_okq (⟨"BuyAsAsked$Sites", "shorten", "([III)V"⟩, 12) := ⟨⟨by decide +kernel, by decide +kernel⟩, List.mem_of_getElem? (i := 128) (by decide +kernel), List.mem_of_getElem? (i := 524) (by decide +kernel), List.mem_of_getElem? (i := 525) (by decide +kernel)⟩
theorem lw_p19 : lw_okq (⟨"BuyAsAsked$Sites", "treeOf", "(I)I"⟩, 12) := ⟨⟨by decide +kernel, by decide +kernel⟩, List.mem_of_getElem? (i := 128) (by decide +kernel), List.mem_of_getElem? (i := 528) (by decide +kernel), List.mem_of_getElem? (i := 529) (by decide +kernel)⟩
theorem lw_p20 : lw_okq (⟨"BuyAsAsked$Sites", "nearestOf", "(I)I"⟩, 12) := ⟨⟨by decide +kernel, by decide +kernel⟩, List.mem_of_getElem? (i := 128) (by decide +kernel), List.mem_of_getElem? (i := 532) (by decide +kernel), List.mem_of_getElem? (i := 533) (by decide +kernel)⟩
theorem lw_p21 : lw_okq (⟨"BuyAsAsked$Asks", "worthOfOwn", "(LBuyAsAsked$Sets;I)I"⟩, 2) := ⟨⟨by decide +kernel, by decide +kernel⟩, List.mem_of_getElem? (i := 178) (by decide +kernel), List.mem_of_getElem? (i := 564) (by decide +kernel), List.mem_of_getElem? (i := 565) (by decide +kernel)⟩
theorem lw_p22 : lw_okq (⟨"BuyAsAsked$Asks", "begin", "(I)V"⟩, 2) := ⟨⟨by decide +kernel, by decide +kernel⟩, List.mem_of_getElem? (i := 178) (by decide +kernel), List.mem_of_getElem? (i := 568) (by decide +kernel), List.mem_of_getElem? (i := 569) (by decide +kernel)⟩
theorem lw_p23 : lw_okq (⟨"BuyAsAsked$Asks", "worthOfAny", "(LBuyAsAsked$Sets;I)I"⟩, 2) := ⟨⟨by decide +kernel, by decide +kernel⟩, List.mem_of_getElem? (i := 178) (by decide +kernel), List.mem_of_getElem? (i := 572) (by decide +kernel), List.mem_of_getElem? (i := 573) (by decide +kernel)⟩
theorem lw_p24 : lw_okq (⟨"BuyAsAsked$Asks", "worthOfNear", "(LBuyAsAsked$Sets;I)I"⟩, 2) := ⟨⟨by decide +kernel, by decide +kernel⟩, List.mem_of_getElem? (i := 178) (by decide +kernel), List.mem_of_getElem? (i := 576) (by decide +kernel), List.mem_of_getElem? (i := 577) (by decide +kernel)⟩
theorem lw_p25 : lw_okq (⟨"BuyAsAsked$Asks", "worthOfOpen", "(LBuyAsAsked$Sets;I)I"⟩, 2) := ⟨⟨by decide +kernel, by decide +kernel⟩, List.mem_of_getElem? (i := 178) (by decide +kernel), List.mem_of_getElem? (i := 580) (by decide +kernel), List.mem_of_getElem? (i := 581) (by decide +kernel)⟩
theorem lw_p26 : lw_okq (⟨"BuyAsAsked$Asks", "markOfNear", "(LBuyAsAsked$Sets;I)I"⟩, 2) := ⟨⟨by decide +kernel, by decide +kernel⟩, List.mem_of_getElem? (i := 178) (by decide +kernel), List.mem_of_getElem? (i := 585) (by decide +kernel), List.mem_of_getElem? (i := 586) (by decide +kernel)⟩
theorem lw_p27 : lw_okq (⟨"BuyAsAsked$Asks", "markOfAny", "(LBuyAsAsked$Sets;I)I"⟩, 2) := ⟨⟨by decide +kernel, by decide +kernel⟩, List.mem_of_getElem? (i := 178) (by decide +kernel), List.mem_of_getElem? (i := 589) (by decide +kernel), List.mem_of_getElem? (i := 590) (by decide +kernel)⟩
theorem lw_p28 : lw_okq (⟨"BuyAsAsked$Asks", "markOfOwn", "(LBuyAsAsked$Sets;I)I"⟩, 2) := ⟨⟨by decide +kernel, by decide +kernel⟩, List.mem_of_getElem? (i := 178) (by decide +kernel), List.mem_of_getElem? (i := 598) (by decide +kernel), List.mem_of_getElem? (i := 599) (by decide +kernel)⟩
theorem lw_p29 : lw_okq (⟨"BuyAsAskedModel", "found", "(I)I"⟩, 32) := ⟨⟨by decide +kernel, by decide +kernel⟩, List.mem_of_getElem? (i := 624) (by decide +kernel), List.mem_of_getElem? (i := 740) (by decide +kernel), List.mem_of_getElem? (i := 741) (by decide +kernel)⟩
theorem lw_p30 : lw_okq (⟨"BuyAsAskedModel", "demanding", "(I)I"⟩, 32) := ⟨⟨by decide +kernel, by decide +kernel⟩, List.mem_of_getElem? (i := 624) (by decide +kernel), List.mem_of_getElem? (i := 769) (by decide +kernel), List.mem_of_getElem? (i := 770) (by decide +kernel)⟩
theorem lw_p31 : lw_okq (⟨"BuyAsAskedModel", "has", "(II)Z"⟩, 32) := ⟨⟨by decide +kernel, by decide +kernel⟩, List.mem_of_getElem? (i := 624) (by decide +kernel), List.mem_of_getElem? (i := 775) (by decide +kernel), List.mem_of_getElem? (i := 776) (by decide +kernel)⟩
def lw_privs_2 : List (MethodName × Nat) := [(⟨"BuyAsAsked$Sites", "buyWay", "(II)V"⟩, 12), (⟨"BuyAsAsked$Sites", "findNearest", "()V"⟩, 12), (⟨"BuyAsAsked$Sites", "shorten", "([III)V"⟩, 12), (⟨"BuyAsAsked$Sites", "treeOf", "(I)I"⟩, 12), (⟨"BuyAsAsked$Sites", "nearestOf", "(I)I"⟩, 12), (⟨"BuyAsAsked$Asks", "worthOfOwn", "(LBuyAsAsked$Sets;I)I"⟩, 2), (⟨"BuyAsAsked$Asks", "begin", "(I)V"⟩, 2), (⟨"BuyAsAsked$Asks", "worthOfAny", "(LBuyAsAsked$Sets;I)I"⟩, 2), (⟨"BuyAsAsked$Asks", "worthOfNear", "(LBuyAsAsked$Sets;I)I"⟩, 2), (⟨"BuyAsAsked$Asks", "worthOfOpen", "(LBuyAsAsked$Sets;I)I"⟩, 2), (⟨"BuyAsAsked$Asks", "markOfNear", "(LBuyAsAsked$Sets;I)I"⟩, 2), (⟨"BuyAsAsked$Asks", "markOfAny", "(LBuyAsAsked$Sets;I)I"⟩, 2), (⟨"BuyAsAsked$Asks", "markOfOwn", "(LBuyAsAsked$Sets;I)I"⟩, 2), (⟨"BuyAsAskedModel", "found", "(I)I"⟩, 32), (⟨"BuyAsAskedModel", "demanding", "(I)I"⟩, 32), (⟨"BuyAsAskedModel", "has", "(II)Z"⟩, 32)]
theorem lw_r2 : ∀ q ∈ lw_privs_2, lw_okq q := List.forall_mem_cons.mpr ⟨lw_p16, List.forall_mem_cons.mpr ⟨lw_p17, List.forall_mem_cons.mpr ⟨lw_p18, List.forall_mem_cons.mpr ⟨lw_p19, List.forall_mem_cons.mpr ⟨lw_p20, List.forall_mem_cons.mpr ⟨lw_p21, List.forall_mem_cons.mpr ⟨lw_p22, List.forall_mem_cons.mpr ⟨lw_p23, List.forall_mem_cons.mpr ⟨lw_p24, List.forall_mem_cons.mpr ⟨lw_p25, List.forall_mem_cons.mpr ⟨lw_p26, List.forall_mem_cons.mpr ⟨lw_p27, List.forall_mem_cons.mpr ⟨lw_p28, List.forall_mem_cons.mpr ⟨lw_p29, List.forall_mem_cons.mpr ⟨lw_p30, List.forall_mem_cons.mpr ⟨lw_p31, fun _ h => absurd h List.not_mem_nil⟩⟩⟩⟩⟩⟩⟩⟩⟩⟩⟩⟩⟩⟩⟩⟩
theorem lw_p32 : lw_okq (⟨"BuyAsAskedModel", "isOwn", "(I)Z"⟩, 32) := ⟨⟨by decide +kernel, by decide +kernel⟩, List.mem_of_getElem? (i := 624) (by decide +kernel), List.mem_of_getElem? (i := 779) (by decide +kernel), List.mem_of_getElem? (i := 780) (by decide +kernel)⟩
theorem lw_p33 : lw_okq (⟨"BuyAsAskedModel", "filled", "(I)I"⟩, 32) := ⟨⟨by decide +kernel, by decide +kernel⟩, List.mem_of_getElem? (i := 624) (by decide +kernel), List.mem_of_getElem? (i := 783) (by decide +kernel), List.mem_of_getElem? (i := 784) (by decide +kernel)⟩
theorem lw_p34 : lw_okq (⟨"BuyAsAskedModel", "bestOfSets", "()I"⟩, 32) := ⟨⟨by decide +kernel, by decide +kernel⟩, List.mem_of_getElem? (i := 624) (by decide +kernel), List.mem_of_getElem? (i := 797) (by decide +kernel), List.mem_of_getElem? (i := 798) (by decide +kernel)⟩
theorem lw_p35 : lw_okq (⟨"BuyAsAskedModel", "isSet", "(I)Z"⟩, 32) := ⟨⟨by decide +kernel, by decide +kernel⟩, List.mem_of_getElem? (i := 624) (by decide +kernel), List.mem_of_getElem? (i := 806) (by decide +kernel), List.mem_of_getElem? (i := 807) (by decide +kernel)⟩
theorem lw_p36 : lw_okq (⟨"BuyAsAskedModel", "isCovered", "(I)Z"⟩, 32) := ⟨⟨by decide +kernel, by decide +kernel⟩, List.mem_of_getElem? (i := 624) (by decide +kernel), List.mem_of_getElem? (i := 828) (by decide +kernel), List.mem_of_getElem? (i := 829) (by decide +kernel)⟩
theorem lw_p37 : lw_okq (⟨"BuyAsAskedModel", "firstOf", "(II)I"⟩, 32) := ⟨⟨by decide +kernel, by decide +kernel⟩, List.mem_of_getElem? (i := 624) (by decide +kernel), List.mem_of_getElem? (i := 832) (by decide +kernel), List.mem_of_getElem? (i := 833) (by decide +kernel)⟩
theorem lw_p38 : lw_okq (⟨"BuyAsAskedModel", "tollOf", "(II)I"⟩, 32) := ⟨⟨by decide +kernel, by decide +kernel⟩, List.mem_of_getElem? (i := 624) (by decide +kernel), List.mem_of_getElem? (i := 836) (by decide +kernel), List.mem_of_getElem? (i := 837) (by decide +kernel)⟩
theorem lw_p39 : lw_okq (⟨"BuyAsAskedModel", "bestOfLeases", "()I"⟩, 32) := ⟨⟨by decide +kernel, by decide +kernel⟩, List.mem_of_getElem? (i := 624) (by decide +kernel), List.mem_of_getElem? (i := 845) (by decide +kernel), List.mem_of_getElem? (i := 846) (by decide +kernel)⟩
theorem lw_p40 : lw_okq (⟨"BuyAsAskedModel", "isSite", "(I)Z"⟩, 32) := ⟨⟨by decide +kernel, by decide +kernel⟩, List.mem_of_getElem? (i := 624) (by decide +kernel), List.mem_of_getElem? (i := 861) (by decide +kernel), List.mem_of_getElem? (i := 862) (by decide +kernel)⟩
theorem lw_p41 : lw_okq (⟨"BuyAsAskedModel", "bestOfSites", "()I"⟩, 32) := ⟨⟨by decide +kernel, by decide +kernel⟩, List.mem_of_getElem? (i := 624) (by decide +kernel), List.mem_of_getElem? (i := 873) (by decide +kernel), List.mem_of_getElem? (i := 874) (by decide +kernel)⟩
theorem lw_p42 : lw_okq (⟨"BuyAsAskedModel", "treeOf", "(I)I"⟩, 32) := ⟨⟨by decide +kernel, by decide +kernel⟩, List.mem_of_getElem? (i := 624) (by decide +kernel), List.mem_of_getElem? (i := 877) (by decide +kernel), List.mem_of_getElem? (i := 878) (by decide +kernel)⟩
theorem lw_p43 : lw_okq (⟨"BuyAsAskedModel", "kindOf", "(I)I"⟩, 32) := ⟨⟨by decide +kernel, by decide +kernel⟩, List.mem_of_getElem? (i := 624) (by decide +kernel), List.mem_of_getElem? (i := 885) (by decide +kernel), List.mem_of_getElem? (i := 886) (by decide +kernel)⟩
theorem lw_p44 : lw_okq (⟨"BuyAsAskedModel", "worth", "(I)I"⟩, 32) := ⟨⟨by decide +kernel, by decide +kernel⟩, List.mem_of_getElem? (i := 624) (by decide +kernel), List.mem_of_getElem? (i := 897) (by decide +kernel), List.mem_of_getElem? (i := 898) (by decide +kernel)⟩
theorem lw_p45 : lw_okq (⟨"BuyAsAskedModel", "ownWorth", "(I)I"⟩, 32) := ⟨⟨by decide +kernel, by decide +kernel⟩, List.mem_of_getElem? (i := 624) (by decide +kernel), List.mem_of_getElem? (i := 901) (by decide +kernel), List.mem_of_getElem? (i := 902) (by decide +kernel)⟩
theorem lw_p46 : lw_okq (⟨"BuyAsAskedModel", "began", "(I)V"⟩, 32) := ⟨⟨by decide +kernel, by decide +kernel⟩, List.mem_of_getElem? (i := 624) (by decide +kernel), List.mem_of_getElem? (i := 905) (by decide +kernel), List.mem_of_getElem? (i := 906) (by decide +kernel)⟩
theorem lw_p47 : lw_okq (⟨"BuyAsAskedModel", "marked", "(I)I"⟩, 32) := ⟨⟨by decide +kernel, by decide +kernel⟩, List.mem_of_getElem? (i := 624) (by decide +kernel), List.mem_of_getElem? (i := 909) (by decide +kernel), List.mem_of_getElem? (i := 910) (by decide +kernel)⟩
def lw_privs_3 : List (MethodName × Nat) := [(⟨"BuyAsAskedModel", "isOwn", "(I)Z"⟩, 32), (⟨"BuyAsAskedModel", "filled", "(I)I"⟩, 32), (⟨"BuyAsAskedModel", "bestOfSets", "()I"⟩, 32), (⟨"BuyAsAskedModel", "isSet", "(I)Z"⟩, 32), (⟨"BuyAsAskedModel", "isCovered", "(I)Z"⟩, 32), (⟨"BuyAsAskedModel", "firstOf", "(II)I"⟩, 32), (⟨"BuyAsAskedModel", "tollOf", "(II)I"⟩, 32), (⟨"BuyAsAskedModel", "bestOfLeases", "()I"⟩, 32), (⟨"BuyAsAskedModel", "isSite", "(I)Z"⟩, 32), (⟨"BuyAsAskedModel", "bestOfSites", "()I"⟩, 32), (⟨"BuyAsAskedModel", "treeOf", "(I)I"⟩, 32), (⟨"BuyAsAskedModel", "kindOf", "(I)I"⟩, 32), (⟨"BuyAsAskedModel", "worth", "(I)I"⟩, 32), (⟨"BuyAsAskedModel", "ownWorth", "(I)I"⟩, 32), (⟨"BuyAsAskedModel", "began", "(I)V"⟩, 32), (⟨"BuyAsAskedModel", "marked", "(I)I"⟩, 32)]
theorem lw_r3 : ∀ q ∈ lw_privs_3, lw_okq q := List.forall_mem_cons.mpr ⟨lw_p32, List.forall_mem_cons.mpr ⟨lw_p33, List.forall_mem_cons.mpr ⟨lw_p34, List.forall_mem_cons.mpr ⟨lw_p35, List.forall_mem_cons.mpr ⟨lw_p36, List.forall_mem_cons.mpr ⟨lw_p37, List.forall_mem_cons.mpr ⟨lw_p38, List.forall_mem_cons.mpr ⟨lw_p39, List.forall_mem_cons.mpr ⟨lw_p40, List.forall_mem_cons.mpr ⟨lw_p41, List.forall_mem_cons.mpr ⟨lw_p42, List.forall_mem_cons.mpr ⟨lw_p43, List.forall_mem_cons.mpr ⟨lw_p44, List.forall_mem_cons.mpr ⟨lw_p45, List.forall_mem_cons.mpr ⟨lw_p46, List.forall_mem_cons.mpr ⟨lw_p47, fun _ h => absurd h List.not_mem_nil⟩⟩⟩⟩⟩⟩⟩⟩⟩⟩⟩⟩⟩⟩⟩⟩
def lw_privs : List (MethodName × Nat) := lw_privs_1 ++ (lw_privs_2 ++ (lw_privs_3))
def lw_tbl : List Cond := k2_sels lw_privs ++ tables_1
theorem lw_privs_ok : ∀ q ∈ lw_privs, lw_okq q := by
  show ∀ q ∈ lw_privs_1 ++ (lw_privs_2 ++ (lw_privs_3)), lw_okq q
  exact List.forall_mem_append.mpr ⟨lw_r1, List.forall_mem_append.mpr ⟨lw_r2, lw_r3⟩⟩

/-! ===== BEGIN words of one list among another's, by their places ===== -/
theorem goodIn_r {big : List Cond} (ws : List Cond) (ps : List Nat) (hp : ws = ps.filterMap (fun i => big[i]?)) (h : ws.all goodWord = true) : GoodIn big ws := by
  intro w hw
  have h1 := List.all_eq_true.mp h w hw
  rw [hp] at hw
  obtain ⟨i, -, hi⟩ := List.mem_filterMap.mp hw
  have hm : w ∈ big := by first | exact List.mem_of_getElem? hi | exact List.getElem?_mem hi
  exact ⟨hm, good_of_word h1⟩
theorem goodIn_app {big a b : List Cond} (ha : GoodIn big a) (hb : GoodIn big b) : GoodIn big (a ++ b) := fun w h => (List.mem_append.mp h).elim (ha w) (hb w)
theorem goodIn_ca {big a b : List Cond} {c : Cond} (ha : GoodIn big (c :: a)) (hb : GoodIn big b) : GoodIn big (c :: (a ++ b)) := fun w h => (List.mem_cons.mp h).elim (fun e => ha w (List.mem_cons.mpr (Or.inl e))) (fun h => (List.mem_append.mp h).elim (fun h => ha w (List.mem_cons.mpr (Or.inr h))) (hb w))
theorem goodIn_sub {big ws : List Cond} (hm : ∀ w ∈ ws, w ∈ big) (h : ws.all goodWord = true) : GoodIn big ws := fun w hw => ⟨hm w hw, good_of_word (List.all_eq_true.mp h w hw)⟩
/-! ===== END ===== -/

/-! ===== BEGIN new T[n][m]: the outer array a place, the inner ones among the pooled ===== -/
/-- f, but v at every address of l -/
def vr_up {α : Type} (f : Nat → α) (l : List Nat) (v : α) : Nat → α := fun a => if a ∈ l then v else f a
theorem vr_up_in {α : Type} {f : Nat → α} {l : List Nat} {v : α} {a : Nat} (h : a ∈ l) : vr_up f l v a = v := if_pos h
theorem vr_up_ne {α : Type} {f : Nat → α} {l : List Nat} {v : α} {a : Nat} (h : a ∉ l) : vr_up f l v a = f a := if_neg h
theorem vr_rows {L l : List Nat} {f : Nat → va_E} {e : va_E} (h : ∀ a, a ∈ l → a ∉ L) : va_pl L f ++ l.map (fun a => (a, e)) = va_pl (L ++ l) (vr_up f l e) := by
  unfold va_pl
  rw [List.map_append]
  congr 1
  · apply List.map_congr_left
    intro a ha
    rw [vr_up_ne (fun q => h a q ha)]
  · apply List.map_congr_left
    intro a ha
    rw [vr_up_in ha]
theorem vr_lay {X rows : va_W} {x : Nat × va_E} {pl : va_W} {D : va_G} {cl : List vw_C} {H : Heap} (hP : va_P D cl (((X ++ pl) ++ [x]) ++ rows) H) : va_P D cl ((X ++ [x]) ++ (pl ++ rows)) H := by
  rw [List.append_assoc (X ++ pl)] at hP
  have h := va_P.swap hP
  rw [← List.append_assoc X] at h
  have h2 := va_P.swap h
  rw [List.append_assoc (X ++ [x])] at h2
  exact h2
theorem vr_layD {X rows : va_W} {x : Nat × va_E} {pl : va_W} {A : Nat → Prop} (hD : va_D A (((X ++ pl) ++ [x]) ++ rows)) : va_D A ((X ++ [x]) ++ (pl ++ rows)) := by
  rw [List.append_assoc (X ++ pl)] at hD
  have h := va_D.swap hD
  rw [← List.append_assoc X] at h
  have h2 := va_D.swap h
  rw [List.append_assoc (X ++ [x])] at h2
  exact h2
theorem vr_outer (c : ClassId) (N h0 : Nat) : ∀ i : Nat, Jvm.Free.Multi.outerC c N h0 i = arrV c N (fun j => va_rf (if j < i then some (h0 + 1 + j) else none))
  | 0 => by
    show ({ cls := c, slots := Array.replicate N .null, vm := .none } : Cell) = _
    rw [arrV_new]
    refine congrArg (arrV c N) (funext fun j => ?_)
    simp [va_rf]
  | i + 1 => by
    show (Jvm.Free.Multi.outerC c N h0 i).setSlot i (.ref (h0 + 1 + i)) = _
    rw [vr_outer c N h0 i, arrV_store]
    refine congrArg (arrV c N) (funext fun j => ?_)
    by_cases e : j = i
    · subst e
      simp [updV, va_rf]
    · by_cases h : j < i
      · simp [updV, e, h, Nat.lt_succ_of_lt h]
      · simp [updV, e, h, show ¬ j < i + 1 by omega]
section VGM
variable {p : Program} {l : Launch} {e : Env} {R : Room} {s : State} {m : MethodId} {args : Array Value} {below : List Frame} {meth : Method} {c : Code} {H : Heap} {locs : List Loc} {cells slots : Nat} {Q : State → Prop}
variable {cc : ByteArray} {pc : Nat} {ls : Array Slot} {rest : List Value} {D : va_G} {cl : List vw_C} {A : Nat → Prop} {a : Nat} {tys : List (ClassId × FieldType)} {ws : va_W} {H0 : Heap}
theorem va_mna {X : va_W} {L : List Nat} {f : Nat → va_E} {cc : ByteArray} (hexec : p.tables.exec = Jvm.exec) (hb : c.code = cc) {own : String} {index : Nat} {ty : FieldType} {cy : ClassId} (hown : s.vm.findClass own = some m.cls) (hclink : (Cond.classLink own index ("[" ++ (FieldType.array ty).toString)).before args s = true) (hover : (Cond.arrayOver (.array ty)).before args s = true) (harr : (Cond.arrayClass ty).before args s = true) (hcy : s.vm.findClass (FieldType.array ty).toString = some cy)
    (hK : va_K D cl tys s) (hP : va_P D cl (X ++ va_pl L f) H) (hD : va_D A (X ++ va_pl L f)) (hS : va_S A H0 H locs) (hA : ∀ q, H0.size ≤ q → A q) {n k : Int32} {N' K' : Nat} {z : vp_A} (hn : ¬ n < 0) (hk : ¬ k < 0) (hN : n.toNatClampNeg = N') (hM : k.toNatClampNeg = K')
    (hb1 : N' * 4 ≤ 536870912) (hb2 : K' * componentBytes ty ≤ 536870912) (hb3 : K' ≤ 536870912) (hdf : fits ty (defaultValue ty) = true) (hdd : (defaultValue ty).isDefault = true) (hcells : cells + (1 + N') ≤ R.cells) (hslots : slots + (N' + N' * K') ≤ R.slots) (hz : ∀ c : ClassId, Jvm.Free.Multi.innerC c K' (defaultValue ty) = vp_cell c z) (hdg : decode cc pc = .ok (.multianewarray index 2, 4))
    (kk : ∀ (q : Nat) (r : Nat → Nat) (cA : ClassId) (H1 : Heap), (∀ i j : Nat, i < N' → j < N' → r i = r j → i = j) → (∀ i : Nat, i < N' → r i ∉ L) → va_K D cl (tys ++ [(cA, .array ty)]) s →
      va_P D cl ((X ++ [(q, .inl (cA, N', .inr (.inr (.inr (.inr (fun i => if i < N' then some (r i) else none))))))]) ++ va_pl (L ++ (List.range N').map r) (vr_up f ((List.range N').map r) (.inl (cy, z)))) H1 → va_D A ((X ++ [(q, .inl (cA, N', .inr (.inr (.inr (.inr (fun i => if i < N' then some (r i) else none))))))]) ++ va_pl (L ++ (List.range N').map r) (vr_up f ((List.range N').map r) (.inl (cy, z)))) → va_S A H0 H1 locs →
      W p l e R s m args below meth c H1 locs (cells + 1 + N') (slots + N' + N' * K') Q (F0 m (pc + 4) ls (.ref q :: rest))) : W p l e R s m args below meth c H locs cells slots Q (F0 m pc ls (.int k :: .int n :: rest)) := by
  subst hN
  subst hM
  intro T hT Xs
  obtain ⟨vm₁, cA, comp, -, fA, fC, hO, -, X', step⟩ := Xs.multianewarray2F hexec hown hclink hover harr (g := F0 m pc ls (.int k :: .int n :: rest)) rfl (by rw [hb]; exact hdg) rfl hn hk hb1 hb2 hb3 hdf hdd hcells hslots
  have ec : some cy = some comp := hcy.symm.trans fC
  cases ec
  generalize hF : Jvm.Free.Multi.fill (T.setVm vm₁) cA cy n.toNatClampNeg k.toNatClampNeg (defaultValue ty) n.toNatClampNeg = F at X' step
  have hTh : (T.setVm vm₁).heap = H := hT
  obtain ⟨f1, f2, -, -⟩ := Jvm.Free.Multi.fill_facts (T.setVm vm₁) cA cy n.toNatClampNeg k.toNatClampNeg (defaultValue ty) n.toNatClampNeg
  rw [hF, hTh] at f1 f2
  have hold : ∀ x : Nat, x < H.size → F.heap[x]? = H[x]? := fun x hx => by
    have := Jvm.Free.Multi.fill_old (T.setVm vm₁) cA cy n.toNatClampNeg k.toNatClampNeg (defaultValue ty) (a := x) (by rw [hTh]; exact hx) n.toNatClampNeg
    rw [hF, hTh] at this
    exact this
  have hrow : ∀ j : Nat, j < n.toNatClampNeg → F.heap[H.size + 1 + j]? = some (vp_cell cy z) := fun j hj => by
    have := Jvm.Free.Multi.fill_inner (T.setVm vm₁) cA cy n.toNatClampNeg k.toNatClampNeg (defaultValue ty) n.toNatClampNeg j hj
    rw [hF, hTh, hz] at this
    exact this
  have hout : Jvm.Free.Multi.outerC cA n.toNatClampNeg H.size n.toNatClampNeg = vp_cell cA (n.toNatClampNeg, .inr (.inr (.inr (.inr (fun i => if i < n.toNatClampNeg then some (H.size + 1 + i) else none))))) := by
    rw [vp_cell_q]
    exact vr_outer cA n.toNatClampNeg H.size n.toNatClampNeg
  rw [hout] at f2
  have hlt : ∀ a, a ∈ L → a < H.size := fun a ha => by
    obtain ⟨k9, hk9⟩ := va_pl_get (X := X) (f := f) ha
    exact (hP k9 _ hk9).lt
  have hnl : ∀ i : Nat, i < n.toNatClampNeg → H.size + 1 + i ∉ L := fun i _ h => by
    have := hlt _ h
    omega
  have hnm : ∀ a, a ∈ (List.range n.toNatClampNeg).map (fun i => H.size + 1 + i) → a ∉ L := fun a ha h => by
    obtain ⟨i, -, rfl⟩ := List.mem_map.mp ha
    have := hlt _ h
    omega
  have hP0 : va_P D cl (X ++ va_pl L f) F.heap := hP.kept (fun k9 x hx => hold x.1 ((hP k9 x hx).lt))
  have hP1 : va_P D cl ((X ++ va_pl L f) ++ [(H.size, .inl (cA, n.toNatClampNeg, .inr (.inr (.inr (.inr (fun i => if i < n.toNatClampNeg then some (H.size + 1 + i) else none))))))]) F.heap := hP0.app (fun k9 x hx => by
    have h0 : k9 < 1 := (List.getElem?_eq_some_iff.mp hx).1
    rw [show k9 = 0 by omega] at hx
    cases hx
    exact f2)
  have hP2 : va_P D cl (((X ++ va_pl L f) ++ [(H.size, .inl (cA, n.toNatClampNeg, .inr (.inr (.inr (.inr (fun i => if i < n.toNatClampNeg then some (H.size + 1 + i) else none))))))]) ++ ((List.range n.toNatClampNeg).map (fun i => H.size + 1 + i)).map (fun a => (a, .inl (cy, z)))) F.heap := hP1.app (fun k9 x hx => by
    obtain ⟨a, ha, rfl⟩ := List.mem_map.mp (List.mem_of_getElem? hx)
    obtain ⟨i, hi, rfl⟩ := List.mem_map.mp ha
    exact hrow i (List.mem_range.mp hi))
  have hD2 : va_D A (((X ++ va_pl L f) ++ [(H.size, .inl (cA, n.toNatClampNeg, .inr (.inr (.inr (.inr (fun i => if i < n.toNatClampNeg then some (H.size + 1 + i) else none))))))]) ++ ((List.range n.toNatClampNeg).map (fun i => H.size + 1 + i)).map (fun a => (a, .inl (cy, z)))) := by
    have hD1 := hD.push (e := .inl (cA, n.toNatClampNeg, .inr (.inr (.inr (.inr (fun i => if i < n.toNatClampNeg then some (H.size + 1 + i) else none)))))) hP rfl (hA _ hS.1)
    generalize hW1 : (X ++ va_pl L f) ++ [(H.size, .inl (cA, n.toNatClampNeg, .inr (.inr (.inr (.inr (fun i => if i < n.toNatClampNeg then some (H.size + 1 + i) else none))))))] = W1 at hD1 hP1 ⊢
    have hle : ∀ (k9 : Nat) (x : Nat × va_E), W1[k9]? = some x → x.1 ≤ H.size := fun k9 x hx => by
      rw [← hW1] at hx
      by_cases hl : k9 < (X ++ va_pl L f).length
      · rw [List.getElem?_append_left hl] at hx
        exact Nat.le_of_lt ((hP k9 x hx).lt)
      · rw [List.getElem?_append_right (by omega)] at hx
        have h0 : k9 - (X ++ va_pl L f).length < 1 := (List.getElem?_eq_some_iff.mp hx).1
        rw [show k9 - (X ++ va_pl L f).length = 0 by omega] at hx
        cases hx
        exact Nat.le_refl _
    have hr : ∀ (k9 : Nat) (x : Nat × va_E), (((List.range n.toNatClampNeg).map (fun i => H.size + 1 + i)).map (fun a => ((a, .inl (cy, z)) : Nat × va_E)))[k9]? = some x → x.1 = H.size + 1 + k9 := fun k9 x hx => by
      rw [List.getElem?_map, List.getElem?_map] at hx
      by_cases h9 : k9 < n.toNatClampNeg
      · rw [List.getElem?_range h9] at hx
        cases hx
        rfl
      · have hn0 : (List.range n.toNatClampNeg)[k9]? = none := List.getElem?_eq_none (by rw [List.length_range]; omega)
        rw [hn0] at hx
        cases hx
    refine ⟨fun i j x y hi hj hxy => ?_, fun k9 x hx => ?_⟩
    · by_cases h1 : i < W1.length <;> by_cases h2 : j < W1.length
      · rw [List.getElem?_append_left h1] at hi
        rw [List.getElem?_append_left h2] at hj
        exact hD1.1 i j x y hi hj hxy
      · rw [List.getElem?_append_left h1] at hi
        rw [List.getElem?_append_right (by omega)] at hj
        have := hle _ _ hi
        have := hr _ _ hj
        omega
      · rw [List.getElem?_append_right (by omega)] at hi
        rw [List.getElem?_append_left h2] at hj
        have := hle _ _ hj
        have := hr _ _ hi
        omega
      · rw [List.getElem?_append_right (by omega)] at hi hj
        have := hr _ _ hi
        have := hr _ _ hj
        omega
    · by_cases h1 : k9 < W1.length
      · rw [List.getElem?_append_left h1] at hx
        exact hD1.2 k9 x hx
      · rw [List.getElem?_append_right (by omega)] at hx
        have := hr _ _ hx
        exact hA _ (by have := hS.1; omega)
  have hAr : ArrOfT s cA (.array ty) := fun N9 z9 => by
    obtain ⟨-, k9, hk9, cm9, hkk9⟩ := (hO 0 0 0).1
    exact ⟨(fun q hq => by cases hq), k9, hk9, cm9, hkk9⟩
  have hK2 : va_K D cl (tys ++ [(cA, .array ty)]) s := ⟨hK.1, fun k9 x hx => by
    by_cases hl : k9 < tys.length
    · rw [List.getElem?_append_left hl] at hx
      exact hK.2 k9 x hx
    · rw [List.getElem?_append_right (by omega)] at hx
      have h0 : k9 - tys.length < 1 := (List.getElem?_eq_some_iff.mp hx).1
      rw [show k9 - tys.length = 0 by omega] at hx
      cases hx
      exact ⟨hAr, fA⟩⟩
  obtain ⟨t, a1, b1⟩ := kk H.size (fun i => H.size + 1 + i) cA F.heap (fun i j _ _ h => by have h9 : H.size + 1 + i = H.size + 1 + j := h; omega) hnl hK2 (by rw [← vr_rows hnm]; exact vr_lay hP2) (by rw [← vr_rows hnm]; exact vr_layD hD2) ⟨by rw [f1]; have := hS.1; omega, fun x h1 h2 => (hold x (Nat.lt_of_lt_of_le h1 hS.1)).trans (hS.2.1 x h1 h2), hS.2.2⟩ F rfl X'
  refine ⟨t, step t ?_, b1⟩
  have e : T.heap.size = H.size := by rw [hT]
  rw [e]
  exact a1
end VGM
/-! ===== END ===== -/


def RX0 : String := "BuyAsAsked$Asks"
def TX0 : u_T := fun k => match k with
  | 0 => ("BuyAsAsked$Asks", "bodies", "[I", true)
  | _ => ("BuyAsAsked$Asks", "begun", "I", false)
def tyX0 : Nat → FieldType := fun k => match k with
  | 0 => .array .int
  | _ => .int
theorem nmX0 : ∀ a, a < 2 → ∀ b, b < 2 → a ≠ b → (TX0 a).2.1 ≠ (TX0 b).2.1 := by decide +kernel
theorem tyX0_ok : ∀ k, k < 2 → parseFieldDescriptor (TX0 k).2.2.1 = some (tyX0 k) := by decide +kernel
abbrev cX0_init : ByteArray := prog_2_method_1_code
def yX0_init : MethodName := ⟨RX0, "<init>", "()V"⟩
abbrev cX0_askWorth : ByteArray := prog_2_method_2_code
def yX0_askWorth : MethodName := ⟨RX0, "askWorth", "(LBuyAsAsked$Sets;I)I"⟩
abbrev cX0_askMark : ByteArray := prog_2_method_3_code
def yX0_askMark : MethodName := ⟨RX0, "askMark", "(LBuyAsAsked$Sets;I)I"⟩
abbrev cX0_begin : ByteArray := prog_2_method_4_code
def yX0_begin : MethodName := ⟨RX0, "begin", "(I)V"⟩
abbrev cX0_worthOfAny : ByteArray := prog_2_method_5_code
def yX0_worthOfAny : MethodName := ⟨RX0, "worthOfAny", "(LBuyAsAsked$Sets;I)I"⟩
abbrev cX0_worthOfOpen : ByteArray := prog_2_method_6_code
def yX0_worthOfOpen : MethodName := ⟨RX0, "worthOfOpen", "(LBuyAsAsked$Sets;I)I"⟩
abbrev cX0_worthOfNear : ByteArray := prog_2_method_7_code
def yX0_worthOfNear : MethodName := ⟨RX0, "worthOfNear", "(LBuyAsAsked$Sets;I)I"⟩
abbrev cX0_worthOfOwn : ByteArray := prog_2_method_8_code
def yX0_worthOfOwn : MethodName := ⟨RX0, "worthOfOwn", "(LBuyAsAsked$Sets;I)I"⟩
abbrev cX0_markOfAny : ByteArray := prog_2_method_9_code
def yX0_markOfAny : MethodName := ⟨RX0, "markOfAny", "(LBuyAsAsked$Sets;I)I"⟩
abbrev cX0_markOfNear : ByteArray := prog_2_method_10_code
def yX0_markOfNear : MethodName := ⟨RX0, "markOfNear", "(LBuyAsAsked$Sets;I)I"⟩
abbrev cX0_markOfOwn : ByteArray := prog_2_method_11_code
def yX0_markOfOwn : MethodName := ⟨RX0, "markOfOwn", "(LBuyAsAsked$Sets;I)I"⟩
def RX1 : String := "BuyAsAsked$Leases"
def TX1 : u_T := fun k => match k with
  | 0 => ("BuyAsAsked$Leases", "lengths", "[I", true)
  | 1 => ("BuyAsAsked$Leases", "costs", "[I", true)
  | 2 => ("BuyAsAsked$Leases", "prices", "[I", true)
  | 3 => ("BuyAsAsked$Leases", "asked", "[Z", true)
  | 4 => ("BuyAsAsked$Leases", "boughtFrom", "[I", true)
  | 5 => ("BuyAsAsked$Leases", "open", "[I", true)
  | 6 => ("BuyAsAsked$Leases", "count", "I", false)
  | 7 => ("BuyAsAsked$Leases", "lastDay", "I", false)
  | 8 => ("BuyAsAsked$Leases", "daysAsked", "I", false)
  | 9 => ("BuyAsAsked$Leases", "spansBought", "I", false)
  | _ => ("BuyAsAsked$Leases", "paid", "I", false)
def tyX1 : Nat → FieldType := fun k => match k with
  | 0 => .array .int
  | 1 => .array .int
  | 2 => .array .int
  | 3 => .array .boolean
  | 4 => .array .int
  | 5 => .array .int
  | 6 => .int
  | 7 => .int
  | 8 => .int
  | 9 => .int
  | _ => .int
theorem nmX1 : ∀ a, a < 11 → ∀ b, b < 11 → a ≠ b → (TX1 a).2.1 ≠ (TX1 b).2.1 := by decide +kernel
theorem tyX1_ok : ∀ k, k < 11 → parseFieldDescriptor (TX1 k).2.2.1 = some (tyX1 k) := by decide +kernel
abbrev cX1_init : ByteArray := prog_3_method_1_code
def yX1_init : MethodName := ⟨RX1, "<init>", "()V"⟩
abbrev cX1_isNextLength : ByteArray := prog_3_method_2_code
def yX1_isNextLength : MethodName := ⟨RX1, "isNextLength", "(I)Z"⟩
abbrev cX1_isMultiple : ByteArray := prog_3_method_3_code
def yX1_isMultiple : MethodName := ⟨RX1, "isMultiple", "(II)Z"⟩
abbrev cX1_add : ByteArray := prog_3_method_4_code
def yX1_add : MethodName := ⟨RX1, "add", "(II)I"⟩
abbrev cX1_meet : ByteArray := prog_3_method_5_code
def yX1_meet : MethodName := ⟨RX1, "meet", "(I)I"⟩
abbrev cX1_isMet : ByteArray := prog_3_method_6_code
def yX1_isMet : MethodName := ⟨RX1, "isMet", "(I)Z"⟩
abbrev cX1_leastGap : ByteArray := prog_3_method_7_code
def yX1_leastGap : MethodName := ⟨RX1, "leastGap", "(I)I"⟩
abbrev cX1_buyTight : ByteArray := prog_3_method_8_code
def yX1_buyTight : MethodName := ⟨RX1, "buyTight", "(I)I"⟩
abbrev cX1_start : ByteArray := prog_3_method_9_code
def yX1_start : MethodName := ⟨RX1, "start", "(II)I"⟩
abbrev cX1_filled : ByteArray := prog_3_method_10_code
def yX1_filled : MethodName := ⟨RX1, "filled", "(II)I"⟩
abbrev cX1_pricesOf : ByteArray := prog_3_method_11_code
def yX1_pricesOf : MethodName := ⟨RX1, "pricesOf", "(II)I"⟩
abbrev cX1_least : ByteArray := prog_3_method_12_code
def yX1_least : MethodName := ⟨RX1, "least", "()I"⟩
abbrev cX1_closeSpans : ByteArray := prog_3_method_13_code
def yX1_closeSpans : MethodName := ⟨RX1, "closeSpans", "(I)V"⟩
def RX2 : String := "BuyAsAsked$Sets"
def TX2 : u_T := fun k => match k with
  | 0 => ("BuyAsAsked$Sets", "costs", "[I", true)
  | 1 => ("BuyAsAsked$Sets", "things", "[I", true)
  | 2 => ("BuyAsAsked$Sets", "prices", "[I", true)
  | 3 => ("BuyAsAsked$Sets", "count", "I", false)
  | 4 => ("BuyAsAsked$Sets", "offered", "I", false)
  | 5 => ("BuyAsAsked$Sets", "demanded", "I", false)
  | 6 => ("BuyAsAsked$Sets", "bought", "I", false)
  | 7 => ("BuyAsAsked$Sets", "met", "I", false)
  | _ => ("BuyAsAsked$Sets", "paid", "I", false)
def tyX2 : Nat → FieldType := fun k => match k with
  | 0 => .array .int
  | 1 => .array .int
  | 2 => .array .int
  | 3 => .int
  | 4 => .int
  | 5 => .int
  | 6 => .int
  | 7 => .int
  | _ => .int
theorem nmX2 : ∀ a, a < 9 → ∀ b, b < 9 → a ≠ b → (TX2 a).2.1 ≠ (TX2 b).2.1 := by decide +kernel
theorem tyX2_ok : ∀ k, k < 9 → parseFieldDescriptor (TX2 k).2.2.1 = some (tyX2 k) := by decide +kernel
abbrev cX2_init : ByteArray := prog_4_method_1_code
def yX2_init : MethodName := ⟨RX2, "<init>", "()V"⟩
abbrev cX2_isSet : ByteArray := prog_4_method_2_code
def yX2_isSet : MethodName := ⟨RX2, "isSet", "(I)Z"⟩
abbrev cX2_isOffered : ByteArray := prog_4_method_3_code
def yX2_isOffered : MethodName := ⟨RX2, "isOffered", "(I)Z"⟩
abbrev cX2_isBought : ByteArray := prog_4_method_4_code
def yX2_isBought : MethodName := ⟨RX2, "isBought", "(I)Z"⟩
abbrev cX2_add : ByteArray := prog_4_method_5_code
def yX2_add : MethodName := ⟨RX2, "add", "(II)I"⟩
abbrev cX2_meet : ByteArray := prog_4_method_6_code
def yX2_meet : MethodName := ⟨RX2, "meet", "(I)I"⟩
abbrev cX2_leastGap : ByteArray := prog_4_method_7_code
def yX2_leastGap : MethodName := ⟨RX2, "leastGap", "(I)I"⟩
abbrev cX2_buyTight : ByteArray := prog_4_method_8_code
def yX2_buyTight : MethodName := ⟨RX2, "buyTight", "(I)I"⟩
abbrev cX2_filled : ByteArray := prog_4_method_9_code
def yX2_filled : MethodName := ⟨RX2, "filled", "(I)I"⟩
abbrev cX2_pricesAdded : ByteArray := prog_4_method_10_code
def yX2_pricesAdded : MethodName := ⟨RX2, "pricesAdded", "()I"⟩
abbrev cX2_pricesOf : ByteArray := prog_4_method_11_code
def yX2_pricesOf : MethodName := ⟨RX2, "pricesOf", "(I)I"⟩
abbrev cX2_least : ByteArray := prog_4_method_12_code
def yX2_least : MethodName := ⟨RX2, "least", "()I"⟩
abbrev cX2_leastFrom : ByteArray := prog_4_method_13_code
def yX2_leastFrom : MethodName := ⟨RX2, "leastFrom", "(LBuyAsAsked$Sets;II)I"⟩
abbrev cX2_share : ByteArray := prog_4_method_14_code
def yX2_share : MethodName := ⟨RX2, "share", "()I"⟩
abbrev cX2_havers : ByteArray := prog_4_method_15_code
def yX2_havers : MethodName := ⟨RX2, "havers", "(I)I"⟩
abbrev cX2_kindOf : ByteArray := prog_4_method_16_code
def yX2_kindOf : MethodName := ⟨RX2, "kindOf", "(I)I"⟩
abbrev cX2_isOfKind : ByteArray := prog_4_method_17_code
def yX2_isOfKind : MethodName := ⟨RX2, "isOfKind", "(II)Z"⟩
abbrev cX2_nears : ByteArray := prog_4_method_18_code
def yX2_nears : MethodName := ⟨RX2, "nears", "()I"⟩
def RX3 : String := "BuyAsAsked$Sheets"
def TX3 : u_T := fun k => match k with
  | 0 => ("BuyAsAsked$Sheets", "items", "[[I", true)
  | 1 => ("BuyAsAsked$Sheets", "lanes", "[I", true)
  | _ => ("BuyAsAsked$Sheets", "sizes", "[I", true)
def tyX3 : Nat → FieldType := fun k => match k with
  | 0 => .array (.array .int)
  | 1 => .array .int
  | _ => .array .int
theorem nmX3 : ∀ a, a < 3 → ∀ b, b < 3 → a ≠ b → (TX3 a).2.1 ≠ (TX3 b).2.1 := by decide +kernel
theorem tyX3_ok : ∀ k, k < 3 → parseFieldDescriptor (TX3 k).2.2.1 = some (tyX3 k) := by decide +kernel
abbrev cX3_init : ByteArray := prog_5_method_1_code
def yX3_init : MethodName := ⟨RX3, "<init>", "()V"⟩
abbrev cX3_isMissing : ByteArray := prog_5_method_2_code
def yX3_isMissing : MethodName := ⟨RX3, "isMissing", "(I)Z"⟩
abbrev cX3_findItems : ByteArray := prog_5_method_3_code
def yX3_findItems : MethodName := ⟨RX3, "findItems", "(III)I"⟩
abbrev cX3_findPair : ByteArray := prog_5_method_4_code
def yX3_findPair : MethodName := ⟨RX3, "findPair", "(IIIII)I"⟩
abbrev cX3_isRow : ByteArray := prog_5_method_5_code
def yX3_isRow : MethodName := ⟨RX3, "isRow", "(III)Z"⟩
abbrev cX3_lay : ByteArray := prog_5_method_6_code
def yX3_lay : MethodName := ⟨RX3, "lay", "(III)I"⟩
abbrev cX3_put : ByteArray := prog_5_method_7_code
def yX3_put : MethodName := ⟨RX3, "put", "(III)I"⟩
abbrev cX3_fit : ByteArray := prog_5_method_8_code
def yX3_fit : MethodName := ⟨RX3, "fit", "(II)I"⟩
abbrev cX3_item : ByteArray := prog_5_method_9_code
def yX3_item : MethodName := ⟨RX3, "item", "(II)I"⟩
abbrev cX3_move : ByteArray := prog_5_method_10_code
def yX3_move : MethodName := ⟨RX3, "move", "(IIIII)I"⟩
abbrev cX3_remove : ByteArray := prog_5_method_11_code
def yX3_remove : MethodName := ⟨RX3, "remove", "(I)I"⟩
abbrev cX3_present : ByteArray := prog_5_method_12_code
def yX3_present : MethodName := ⟨RX3, "present", "()I"⟩
def RX4 : String := "BuyAsAsked$Sites"
def TX4 : u_T := fun k => match k with
  | 0 => ("BuyAsAsked$Sites", "lengths", "[[I", true)
  | 1 => ("BuyAsAsked$Sites", "boughtFrom", "[I", true)
  | 2 => ("BuyAsAsked$Sites", "weights", "[I", true)
  | 3 => ("BuyAsAsked$Sites", "nearest", "[[I", true)
  | 4 => ("BuyAsAsked$Sites", "gaps", "[I", true)
  | 5 => ("BuyAsAsked$Sites", "count", "I", false)
  | 6 => ("BuyAsAsked$Sites", "ways", "I", false)
  | 7 => ("BuyAsAsked$Sites", "first", "I", false)
  | 8 => ("BuyAsAsked$Sites", "joined", "I", false)
  | 9 => ("BuyAsAsked$Sites", "reached", "I", false)
  | 10 => ("BuyAsAsked$Sites", "waysBought", "I", false)
  | _ => ("BuyAsAsked$Sites", "paid", "I", false)
def tyX4 : Nat → FieldType := fun k => match k with
  | 0 => .array (.array .int)
  | 1 => .array .int
  | 2 => .array .int
  | 3 => .array (.array .int)
  | 4 => .array .int
  | 5 => .int
  | 6 => .int
  | 7 => .int
  | 8 => .int
  | 9 => .int
  | 10 => .int
  | _ => .int
theorem nmX4 : ∀ a, a < 12 → ∀ b, b < 12 → a ≠ b → (TX4 a).2.1 ≠ (TX4 b).2.1 := by decide +kernel
theorem tyX4_ok : ∀ k, k < 12 → parseFieldDescriptor (TX4 k).2.2.1 = some (tyX4 k) := by decide +kernel
abbrev cX4_init : ByteArray := prog_6_method_1_code
def yX4_init : MethodName := ⟨RX4, "<init>", "()V"⟩
abbrev cX4_isSite : ByteArray := prog_6_method_2_code
def yX4_isSite : MethodName := ⟨RX4, "isSite", "(I)Z"⟩
abbrev cX4_isWayBought : ByteArray := prog_6_method_3_code
def yX4_isWayBought : MethodName := ⟨RX4, "isWayBought", "(II)Z"⟩
abbrev cX4_add : ByteArray := prog_6_method_4_code
def yX4_add : MethodName := ⟨RX4, "add", "()I"⟩
abbrev cX4_lay : ByteArray := prog_6_method_5_code
def yX4_lay : MethodName := ⟨RX4, "lay", "(III)I"⟩
abbrev cX4_join : ByteArray := prog_6_method_6_code
def yX4_join : MethodName := ⟨RX4, "join", "(I)I"⟩
abbrev cX4_weighRows : ByteArray := prog_6_method_7_code
def yX4_weighRows : MethodName := ⟨RX4, "weighRows", "()V"⟩
abbrev cX4_leastWeight : ByteArray := prog_6_method_8_code
def yX4_leastWeight : MethodName := ⟨RX4, "leastWeight", "(I)I"⟩
abbrev cX4_weightOf : ByteArray := prog_6_method_9_code
def yX4_weightOf : MethodName := ⟨RX4, "weightOf", "(II)I"⟩
abbrev cX4_buyRow : ByteArray := prog_6_method_10_code
def yX4_buyRow : MethodName := ⟨RX4, "buyRow", "(I)I"⟩
abbrev cX4_nextOnRow : ByteArray := prog_6_method_11_code
def yX4_nextOnRow : MethodName := ⟨RX4, "nextOnRow", "(I)I"⟩
abbrev cX4_buyWay : ByteArray := prog_6_method_12_code
def yX4_buyWay : MethodName := ⟨RX4, "buyWay", "(II)V"⟩
abbrev cX4_least : ByteArray := prog_6_method_13_code
def yX4_least : MethodName := ⟨RX4, "least", "()I"⟩
abbrev cX4_findNearest : ByteArray := prog_6_method_14_code
def yX4_findNearest : MethodName := ⟨RX4, "findNearest", "()V"⟩
abbrev cX4_shorten : ByteArray := prog_6_method_15_code
def yX4_shorten : MethodName := ⟨RX4, "shorten", "([III)V"⟩
abbrev cX4_treeOf : ByteArray := prog_6_method_16_code
def yX4_treeOf : MethodName := ⟨RX4, "treeOf", "(I)I"⟩
abbrev cX4_nearestOf : ByteArray := prog_6_method_17_code
def yX4_nearestOf : MethodName := ⟨RX4, "nearestOf", "(I)I"⟩
def RX5 : String := "BuyAsAsked"
def TX5 : u_T := fun k => match k with
  | 0 => ("BuyAsAsked", "sheets", "LBuyAsAsked$Sheets;", true)
  | 1 => ("BuyAsAsked", "sets", "LBuyAsAsked$Sets;", true)
  | 2 => ("BuyAsAsked", "leases", "LBuyAsAsked$Leases;", true)
  | 3 => ("BuyAsAsked", "sites", "LBuyAsAsked$Sites;", true)
  | 4 => ("BuyAsAsked", "asks", "LBuyAsAsked$Asks;", true)
  | _ => ("BuyAsAsked", "latest", "I", false)
def tyX5 : Nat → FieldType := fun k => match k with
  | 0 => .object "BuyAsAsked$Sheets"
  | 1 => .object "BuyAsAsked$Sets"
  | 2 => .object "BuyAsAsked$Leases"
  | 3 => .object "BuyAsAsked$Sites"
  | 4 => .object "BuyAsAsked$Asks"
  | _ => .int
theorem nmX5 : ∀ a, a < 6 → ∀ b, b < 6 → a ≠ b → (TX5 a).2.1 ≠ (TX5 b).2.1 := by decide +kernel
theorem tyX5_ok : ∀ k, k < 6 → parseFieldDescriptor (TX5 k).2.2.1 = some (tyX5 k) := by decide +kernel
abbrev cX5_init : ByteArray := prog_1_method_1_code
def yX5_init : MethodName := ⟨RX5, "<init>", "()V"⟩
abbrev cX5_sheet : ByteArray := prog_1_method_2_code
def yX5_sheet : MethodName := ⟨RX5, "sheet", "(III)I"⟩
abbrev cX5_set : ByteArray := prog_1_method_3_code
def yX5_set : MethodName := ⟨RX5, "set", "(III)I"⟩
abbrev cX5_copy : ByteArray := prog_1_method_4_code
def yX5_copy : MethodName := ⟨RX5, "copy", "(IIIII)I"⟩
abbrev cX5_drop : ByteArray := prog_1_method_5_code
def yX5_drop : MethodName := ⟨RX5, "drop", "(I)I"⟩
abbrev cX5_offer : ByteArray := prog_1_method_6_code
def yX5_offer : MethodName := ⟨RX5, "offer", "(II)I"⟩
abbrev cX5_demand : ByteArray := prog_1_method_7_code
def yX5_demand : MethodName := ⟨RX5, "demand", "(I)I"⟩
abbrev cX5_demands : ByteArray := prog_1_method_8_code
def yX5_demands : MethodName := ⟨RX5, "demands", "(III)I"⟩
abbrev cX5_meetItems : ByteArray := prog_1_method_9_code
def yX5_meetItems : MethodName := ⟨RX5, "meetItems", "(III)I"⟩
abbrev cX5_covers : ByteArray := prog_1_method_10_code
def yX5_covers : MethodName := ⟨RX5, "covers", "(I)I"⟩
abbrev cX5_told : ByteArray := prog_1_method_11_code
def yX5_told : MethodName := ⟨RX5, "told", "(II)I"⟩
abbrev cX5_price : ByteArray := prog_1_method_12_code
def yX5_price : MethodName := ⟨RX5, "price", "(I)I"⟩
abbrev cX5_lease : ByteArray := prog_1_method_13_code
def yX5_lease : MethodName := ⟨RX5, "lease", "(II)I"⟩
abbrev cX5_day : ByteArray := prog_1_method_14_code
def yX5_day : MethodName := ⟨RX5, "day", "(I)I"⟩
abbrev cX5_leases : ByteArray := prog_1_method_15_code
def yX5_leases : MethodName := ⟨RX5, "leases", "(I)I"⟩
abbrev cX5_covered : ByteArray := prog_1_method_16_code
def yX5_covered : MethodName := ⟨RX5, "covered", "(I)I"⟩
abbrev cX5_site : ByteArray := prog_1_method_17_code
def yX5_site : MethodName := ⟨RX5, "site", "()I"⟩
abbrev cX5_way : ByteArray := prog_1_method_18_code
def yX5_way : MethodName := ⟨RX5, "way", "(III)I"⟩
abbrev cX5_call : ByteArray := prog_1_method_19_code
def yX5_call : MethodName := ⟨RX5, "call", "(I)I"⟩
abbrev cX5_joins : ByteArray := prog_1_method_20_code
def yX5_joins : MethodName := ⟨RX5, "joins", "(I)I"⟩
abbrev cX5_kind : ByteArray := prog_1_method_21_code
def yX5_kind : MethodName := ⟨RX5, "kind", "(I)I"⟩
abbrev cX5_as : ByteArray := prog_1_method_22_code
def yX5_as : MethodName := ⟨RX5, "as", "(II)I"⟩
abbrev cX5_ask : ByteArray := prog_1_method_23_code
def yX5_ask : MethodName := ⟨RX5, "ask", "(II)I"⟩
abbrev cX5_trace : ByteArray := prog_1_method_24_code
def yX5_trace : MethodName := ⟨RX5, "trace", "(I)I"⟩
abbrev cX5_count : ByteArray := prog_1_method_25_code
def yX5_count : MethodName := ⟨RX5, "count", "(I)I"⟩
abbrev cX5_status : ByteArray := prog_1_method_26_code
def yX5_status : MethodName := ⟨RX5, "status", "()I"⟩
abbrev cX5_isUnder : ByteArray := prog_1_method_27_code
def yX5_isUnder : MethodName := ⟨RX5, "isUnder", "(II)Z"⟩
abbrev cX5_isWithin : ByteArray := prog_1_method_28_code
def yX5_isWithin : MethodName := ⟨RX5, "isWithin", "(III)Z"⟩
abbrev cX5_holds : ByteArray := prog_1_method_29_code
def yX5_holds : MethodName := ⟨RX5, "holds", "(II)Z"⟩
def RX6 : String := "BuyAsAskedModel"
def TX6 : u_T := fun k => match k with
  | 0 => ("BuyAsAskedModel", "thrown", "I", false)
  | 1 => ("BuyAsAskedModel", "status", "I", false)
  | 2 => ("BuyAsAskedModel", "lane", "[I", true)
  | 3 => ("BuyAsAskedModel", "many", "[I", true)
  | 4 => ("BuyAsAskedModel", "item", "[I", true)
  | 5 => ("BuyAsAskedModel", "sets", "I", false)
  | 6 => ("BuyAsAskedModel", "cost", "[I", true)
  | 7 => ("BuyAsAskedModel", "things", "[I", true)
  | 8 => ("BuyAsAskedModel", "bought", "I", false)
  | 9 => ("BuyAsAskedModel", "demanded", "I", false)
  | 10 => ("BuyAsAskedModel", "price", "[I", true)
  | 11 => ("BuyAsAskedModel", "paid", "I", false)
  | 12 => ("BuyAsAskedModel", "leases", "I", false)
  | 13 => ("BuyAsAskedModel", "length", "[I", true)
  | 14 => ("BuyAsAskedModel", "rate", "[I", true)
  | 15 => ("BuyAsAskedModel", "isAsked", "[Z", true)
  | 16 => ("BuyAsAskedModel", "toll", "[I", true)
  | 17 => ("BuyAsAskedModel", "isBought", "[Z", true)
  | 18 => ("BuyAsAskedModel", "last", "I", false)
  | 19 => ("BuyAsAskedModel", "leased", "I", false)
  | 20 => ("BuyAsAskedModel", "least", "[I", true)
  | 21 => ("BuyAsAskedModel", "sites", "I", false)
  | 22 => ("BuyAsAskedModel", "way", "[I", true)
  | 23 => ("BuyAsAskedModel", "isPaid", "[Z", true)
  | 24 => ("BuyAsAskedModel", "joined", "I", false)
  | 25 => ("BuyAsAskedModel", "on", "I", false)
  | 26 => ("BuyAsAskedModel", "built", "I", false)
  | 27 => ("BuyAsAskedModel", "far", "[I", true)
  | 28 => ("BuyAsAskedModel", "steps", "[I", true)
  | 29 => ("BuyAsAskedModel", "reached", "I", false)
  | 30 => ("BuyAsAskedModel", "trace", "[I", true)
  | _ => ("BuyAsAskedModel", "traced", "I", false)
def tyX6 : Nat → FieldType := fun k => match k with
  | 0 => .int
  | 1 => .int
  | 2 => .array .int
  | 3 => .array .int
  | 4 => .array .int
  | 5 => .int
  | 6 => .array .int
  | 7 => .array .int
  | 8 => .int
  | 9 => .int
  | 10 => .array .int
  | 11 => .int
  | 12 => .int
  | 13 => .array .int
  | 14 => .array .int
  | 15 => .array .boolean
  | 16 => .array .int
  | 17 => .array .boolean
  | 18 => .int
  | 19 => .int
  | 20 => .array .int
  | 21 => .int
  | 22 => .array .int
  | 23 => .array .boolean
  | 24 => .int
  | 25 => .int
  | 26 => .int
  | 27 => .array .int
  | 28 => .array .int
  | 29 => .int
  | 30 => .array .int
  | _ => .int
theorem nmX6 : ∀ a, a < 32 → ∀ b, b < 32 → a ≠ b → (TX6 a).2.1 ≠ (TX6 b).2.1 := by decide +kernel
theorem tyX6_ok : ∀ k, k < 32 → parseFieldDescriptor (TX6 k).2.2.1 = some (tyX6 k) := by decide +kernel
abbrev cX6_init : ByteArray := prog_8_method_1_code
def yX6_init : MethodName := ⟨RX6, "<init>", "()V"⟩
abbrev cX6_in : ByteArray := prog_8_method_3_code
def yX6_in : MethodName := ⟨RX6, "in", "(JJJ)Z"⟩
abbrev cX6_found : ByteArray := prog_8_method_4_code
def yX6_found : MethodName := ⟨RX6, "found", "(I)I"⟩
abbrev cX6_isSheet : ByteArray := prog_8_method_5_code
def yX6_isSheet : MethodName := ⟨RX6, "isSheet", "(I)Z"⟩
abbrev cX6_sheet : ByteArray := prog_8_method_6_code
def yX6_sheet : MethodName := ⟨RX6, "sheet", "(III)I"⟩
abbrev cX6_set : ByteArray := prog_8_method_7_code
def yX6_set : MethodName := ⟨RX6, "set", "(III)I"⟩
abbrev cX6_copy : ByteArray := prog_8_method_8_code
def yX6_copy : MethodName := ⟨RX6, "copy", "(IIIII)I"⟩
abbrev cX6_drop : ByteArray := prog_8_method_9_code
def yX6_drop : MethodName := ⟨RX6, "drop", "(I)I"⟩
abbrev cX6_isSet : ByteArray := prog_8_method_10_code
def yX6_isSet : MethodName := ⟨RX6, "isSet", "(I)Z"⟩
abbrev cX6_isOwn : ByteArray := prog_8_method_11_code
def yX6_isOwn : MethodName := ⟨RX6, "isOwn", "(I)Z"⟩
abbrev cX6_filled : ByteArray := prog_8_method_12_code
def yX6_filled : MethodName := ⟨RX6, "filled", "(I)I"⟩
abbrev cX6_offer : ByteArray := prog_8_method_13_code
def yX6_offer : MethodName := ⟨RX6, "offer", "(II)I"⟩
abbrev cX6_has : ByteArray := prog_8_method_14_code
def yX6_has : MethodName := ⟨RX6, "has", "(II)Z"⟩
abbrev cX6_demanding : ByteArray := prog_8_method_15_code
def yX6_demanding : MethodName := ⟨RX6, "demanding", "(I)I"⟩
abbrev cX6_demand : ByteArray := prog_8_method_16_code
def yX6_demand : MethodName := ⟨RX6, "demand", "(I)I"⟩
abbrev cX6_demands : ByteArray := prog_8_method_17_code
def yX6_demands : MethodName := ⟨RX6, "demands", "(III)I"⟩
abbrev cX6_bestOfSets : ByteArray := prog_8_method_18_code
def yX6_bestOfSets : MethodName := ⟨RX6, "bestOfSets", "()I"⟩
abbrev cX6_covers : ByteArray := prog_8_method_19_code
def yX6_covers : MethodName := ⟨RX6, "covers", "(I)I"⟩
abbrev cX6_size : ByteArray := prog_8_method_20_code
def yX6_size : MethodName := ⟨RX6, "size", "(I)I"⟩
abbrev cX6_told : ByteArray := prog_8_method_21_code
def yX6_told : MethodName := ⟨RX6, "told", "(II)I"⟩
abbrev cX6_price : ByteArray := prog_8_method_22_code
def yX6_price : MethodName := ⟨RX6, "price", "(I)I"⟩
abbrev cX6_lease : ByteArray := prog_8_method_23_code
def yX6_lease : MethodName := ⟨RX6, "lease", "(II)I"⟩
abbrev cX6_isDay : ByteArray := prog_8_method_24_code
def yX6_isDay : MethodName := ⟨RX6, "isDay", "(I)Z"⟩
abbrev cX6_firstOf : ByteArray := prog_8_method_25_code
def yX6_firstOf : MethodName := ⟨RX6, "firstOf", "(II)I"⟩
abbrev cX6_isCovered : ByteArray := prog_8_method_26_code
def yX6_isCovered : MethodName := ⟨RX6, "isCovered", "(I)Z"⟩
abbrev cX6_tollOf : ByteArray := prog_8_method_27_code
def yX6_tollOf : MethodName := ⟨RX6, "tollOf", "(II)I"⟩
abbrev cX6_day : ByteArray := prog_8_method_28_code
def yX6_day : MethodName := ⟨RX6, "day", "(I)I"⟩
abbrev cX6_bestOfLeases : ByteArray := prog_8_method_29_code
def yX6_bestOfLeases : MethodName := ⟨RX6, "bestOfLeases", "()I"⟩
abbrev cX6_leases : ByteArray := prog_8_method_30_code
def yX6_leases : MethodName := ⟨RX6, "leases", "(I)I"⟩
abbrev cX6_covered : ByteArray := prog_8_method_31_code
def yX6_covered : MethodName := ⟨RX6, "covered", "(I)I"⟩
abbrev cX6_isSite : ByteArray := prog_8_method_32_code
def yX6_isSite : MethodName := ⟨RX6, "isSite", "(I)Z"⟩
abbrev cX6_site : ByteArray := prog_8_method_33_code
def yX6_site : MethodName := ⟨RX6, "site", "()I"⟩
abbrev cX6_way : ByteArray := prog_8_method_34_code
def yX6_way : MethodName := ⟨RX6, "way", "(III)I"⟩
abbrev cX6_call : ByteArray := prog_8_method_35_code
def yX6_call : MethodName := ⟨RX6, "call", "(I)I"⟩
abbrev cX6_treeOf : ByteArray := prog_8_method_36_code
def yX6_treeOf : MethodName := ⟨RX6, "treeOf", "(I)I"⟩
abbrev cX6_bestOfSites : ByteArray := prog_8_method_37_code
def yX6_bestOfSites : MethodName := ⟨RX6, "bestOfSites", "()I"⟩
abbrev cX6_joins : ByteArray := prog_8_method_38_code
def yX6_joins : MethodName := ⟨RX6, "joins", "(I)I"⟩
abbrev cX6_kindOf : ByteArray := prog_8_method_39_code
def yX6_kindOf : MethodName := ⟨RX6, "kindOf", "(I)I"⟩
abbrev cX6_kind : ByteArray := prog_8_method_40_code
def yX6_kind : MethodName := ⟨RX6, "kind", "(I)I"⟩
abbrev cX6_as : ByteArray := prog_8_method_41_code
def yX6_as : MethodName := ⟨RX6, "as", "(II)I"⟩
abbrev cX6_began : ByteArray := prog_8_method_42_code
def yX6_began : MethodName := ⟨RX6, "began", "(I)V"⟩
abbrev cX6_ownWorth : ByteArray := prog_8_method_43_code
def yX6_ownWorth : MethodName := ⟨RX6, "ownWorth", "(I)I"⟩
abbrev cX6_marked : ByteArray := prog_8_method_44_code
def yX6_marked : MethodName := ⟨RX6, "marked", "(I)I"⟩
abbrev cX6_worth : ByteArray := prog_8_method_45_code
def yX6_worth : MethodName := ⟨RX6, "worth", "(I)I"⟩
abbrev cX6_ask : ByteArray := prog_8_method_46_code
def yX6_ask : MethodName := ⟨RX6, "ask", "(II)I"⟩
abbrev cX6_trace : ByteArray := prog_8_method_47_code
def yX6_trace : MethodName := ⟨RX6, "trace", "(I)I"⟩
abbrev cX6_count : ByteArray := prog_8_method_48_code
def yX6_count : MethodName := ⟨RX6, "count", "(I)I"⟩
abbrev cX6_status : ByteArray := prog_8_method_49_code
def yX6_status : MethodName := ⟨RX6, "status", "()I"⟩
def RJ6 : String := "java/lang/Integer"
def TJ6 : u_T := fun k => match k with
  | _ => ("", "", "", false)
def tyJ6 : Nat → FieldType := fun k => match k with
  | _ => .int
abbrev cJ6_bitCount_0f7a4 : ByteArray := prog_9_method_49_code
def yJ6_bitCount_0f7a4 : MethodName := ⟨RJ6, "bitCount", "(I)I"⟩
def RJ9 : String := "java/lang/Math"
def TJ9 : u_T := fun k => match k with
  | _ => ("", "", "", false)
def tyJ9 : Nat → FieldType := fun k => match k with
  | _ => .int
abbrev cJ9_max_7cf53 : ByteArray := prog_10_method_65_code
def yJ9_max_7cf53 : MethodName := ⟨RJ9, "max", "(II)I"⟩
abbrev cJ9_min_7cf53 : ByteArray := prog_10_method_69_code
def yJ9_min_7cf53 : MethodName := ⟨RJ9, "min", "(II)I"⟩
def RJ10 : String := "java/lang/System"
def TJ10 : u_T := fun k => match k with
  | _ => ("", "", "", false)
def tyJ10 : Nat → FieldType := fun k => match k with
  | _ => .int
def RL : String := "BuyAsAskedLaw"
abbrev cL_law : ByteArray := code
def yL_law : MethodName := ⟨RL, "law", "([I)Z"⟩
abbrev vwCl : List vw_C := [(RX0, TX0, 2), (RX1, TX1, 11), (RX2, TX2, 9), (RX3, TX3, 3), (RX4, TX4, 12), (RX5, TX5, 6), (RX6, TX6, 32)]
end
section
theorem dX0_init_0 : decode cX0_init 0 = .ok (.aload_n 0, 1) := by decide +kernel
theorem dX0_init_1 : decode cX0_init 1 = .ok (.invokespecial 3, 3) := by decide +kernel
theorem dX0_init_4 : decode cX0_init 4 = .ok (.aload_n 0, 1) := by decide +kernel
theorem dX0_init_5 : decode cX0_init 5 = .ok (.bipush 16, 2) := by decide +kernel
theorem dX0_init_7 : decode cX0_init 7 = .ok (.newarray .int, 2) := by decide +kernel
theorem dX0_init_9 : decode cX0_init 9 = .ok (.putfield 9, 3) := by decide +kernel
theorem dX0_init_12 : decode cX0_init 12 = .ok (.return_, 1) := by decide +kernel
theorem dX0_askWorth_0 : decode cX0_askWorth 0 = .ok (.aload_n 0, 1) := by decide +kernel
theorem dX0_askWorth_1 : decode cX0_askWorth 1 = .ok (.iconst 0, 1) := by decide +kernel
theorem dX0_askWorth_2 : decode cX0_askWorth 2 = .ok (.putfield 15, 3) := by decide +kernel
theorem dX0_askWorth_5 : decode cX0_askWorth 5 = .ok (.aload_n 1, 1) := by decide +kernel
theorem dX0_askWorth_6 : decode cX0_askWorth 6 = .ok (.iload_n 2, 1) := by decide +kernel
theorem dX0_askWorth_7 : decode cX0_askWorth 7 = .ok (.invokevirtual 19, 3) := by decide +kernel
theorem dX0_askWorth_10 : decode cX0_askWorth 10 = .ok (.lookupswitch 40 #[(2, 33), (3, 26)], 26) := by decide +kernel
theorem dX0_askWorth_36 : decode cX0_askWorth 36 = .ok (.aload_n 0, 1) := by decide +kernel
theorem dX0_askWorth_37 : decode cX0_askWorth 37 = .ok (.aload_n 1, 1) := by decide +kernel
theorem dX0_askWorth_38 : decode cX0_askWorth 38 = .ok (.iload_n 2, 1) := by decide +kernel
theorem dX0_askWorth_39 : decode cX0_askWorth 39 = .ok (.invokevirtual 25, 3) := by decide +kernel
theorem dX0_askWorth_42 : decode cX0_askWorth 42 = .ok (.ireturn, 1) := by decide +kernel
theorem dX0_askWorth_43 : decode cX0_askWorth 43 = .ok (.aload_n 0, 1) := by decide +kernel
theorem dX0_askWorth_44 : decode cX0_askWorth 44 = .ok (.aload_n 1, 1) := by decide +kernel
theorem dX0_askWorth_45 : decode cX0_askWorth 45 = .ok (.iload_n 2, 1) := by decide +kernel
theorem dX0_askWorth_46 : decode cX0_askWorth 46 = .ok (.invokevirtual 29, 3) := by decide +kernel
theorem dX0_askWorth_49 : decode cX0_askWorth 49 = .ok (.ireturn, 1) := by decide +kernel
theorem dX0_askWorth_50 : decode cX0_askWorth 50 = .ok (.aload_n 0, 1) := by decide +kernel
theorem dX0_askWorth_51 : decode cX0_askWorth 51 = .ok (.aload_n 1, 1) := by decide +kernel
theorem dX0_askWorth_52 : decode cX0_askWorth 52 = .ok (.iload_n 2, 1) := by decide +kernel
theorem dX0_askWorth_53 : decode cX0_askWorth 53 = .ok (.invokevirtual 32, 3) := by decide +kernel
theorem dX0_askWorth_56 : decode cX0_askWorth 56 = .ok (.ireturn, 1) := by decide +kernel
theorem dX0_askMark_0 : decode cX0_askMark 0 = .ok (.aload_n 0, 1) := by decide +kernel
theorem dX0_askMark_1 : decode cX0_askMark 1 = .ok (.iconst 0, 1) := by decide +kernel
theorem dX0_askMark_2 : decode cX0_askMark 2 = .ok (.putfield 15, 3) := by decide +kernel
theorem dX0_askMark_5 : decode cX0_askMark 5 = .ok (.aload_n 1, 1) := by decide +kernel
theorem dX0_askMark_6 : decode cX0_askMark 6 = .ok (.iload_n 2, 1) := by decide +kernel
theorem dX0_askMark_7 : decode cX0_askMark 7 = .ok (.invokevirtual 19, 3) := by decide +kernel
theorem dX0_askMark_10 : decode cX0_askMark 10 = .ok (.lookupswitch 40 #[(2, 33), (3, 26)], 26) := by decide +kernel
theorem dX0_askMark_36 : decode cX0_askMark 36 = .ok (.aload_n 0, 1) := by decide +kernel
theorem dX0_askMark_37 : decode cX0_askMark 37 = .ok (.aload_n 1, 1) := by decide +kernel
theorem dX0_askMark_38 : decode cX0_askMark 38 = .ok (.iload_n 2, 1) := by decide +kernel
theorem dX0_askMark_39 : decode cX0_askMark 39 = .ok (.invokevirtual 35, 3) := by decide +kernel
theorem dX0_askMark_42 : decode cX0_askMark 42 = .ok (.ireturn, 1) := by decide +kernel
theorem dX0_askMark_43 : decode cX0_askMark 43 = .ok (.aload_n 0, 1) := by decide +kernel
theorem dX0_askMark_44 : decode cX0_askMark 44 = .ok (.aload_n 1, 1) := by decide +kernel
theorem dX0_askMark_45 : decode cX0_askMark 45 = .ok (.iload_n 2, 1) := by decide +kernel
theorem dX0_askMark_46 : decode cX0_askMark 46 = .ok (.invokevirtual 38, 3) := by decide +kernel
theorem dX0_askMark_49 : decode cX0_askMark 49 = .ok (.ireturn, 1) := by decide +kernel
theorem dX0_askMark_50 : decode cX0_askMark 50 = .ok (.aload_n 0, 1) := by decide +kernel
theorem dX0_askMark_51 : decode cX0_askMark 51 = .ok (.aload_n 1, 1) := by decide +kernel
theorem dX0_askMark_52 : decode cX0_askMark 52 = .ok (.iload_n 2, 1) := by decide +kernel
theorem dX0_askMark_53 : decode cX0_askMark 53 = .ok (.invokevirtual 41, 3) := by decide +kernel
theorem dX0_askMark_56 : decode cX0_askMark 56 = .ok (.ireturn, 1) := by decide +kernel
theorem dX0_begin_0 : decode cX0_begin 0 = .ok (.aload_n 0, 1) := by decide +kernel
theorem dX0_begin_1 : decode cX0_begin 1 = .ok (.getfield 15, 3) := by decide +kernel
theorem dX0_begin_4 : decode cX0_begin 4 = .ok (.bipush 16, 2) := by decide +kernel
theorem dX0_begin_6 : decode cX0_begin 6 = .ok (.if_icmp .ge 23, 3) := by decide +kernel
theorem dX0_begin_9 : decode cX0_begin 9 = .ok (.aload_n 0, 1) := by decide +kernel
theorem dX0_begin_10 : decode cX0_begin 10 = .ok (.getfield 9, 3) := by decide +kernel
theorem dX0_begin_13 : decode cX0_begin 13 = .ok (.aload_n 0, 1) := by decide +kernel
theorem dX0_begin_14 : decode cX0_begin 14 = .ok (.getfield 15, 3) := by decide +kernel
theorem dX0_begin_17 : decode cX0_begin 17 = .ok (.iload_n 1, 1) := by decide +kernel
theorem dX0_begin_18 : decode cX0_begin 18 = .ok (.iastore, 1) := by decide +kernel
theorem dX0_begin_19 : decode cX0_begin 19 = .ok (.aload_n 0, 1) := by decide +kernel
theorem dX0_begin_20 : decode cX0_begin 20 = .ok (.dup, 1) := by decide +kernel
theorem dX0_begin_21 : decode cX0_begin 21 = .ok (.getfield 15, 3) := by decide +kernel
theorem dX0_begin_24 : decode cX0_begin 24 = .ok (.iconst 1, 1) := by decide +kernel
theorem dX0_begin_25 : decode cX0_begin 25 = .ok (.iadd, 1) := by decide +kernel
theorem dX0_begin_26 : decode cX0_begin 26 = .ok (.putfield 15, 3) := by decide +kernel
theorem dX0_begin_29 : decode cX0_begin 29 = .ok (.return_, 1) := by decide +kernel
theorem dX0_worthOfAny_0 : decode cX0_worthOfAny 0 = .ok (.aload_n 0, 1) := by decide +kernel
theorem dX0_worthOfAny_1 : decode cX0_worthOfAny 1 = .ok (.bipush 10, 2) := by decide +kernel
theorem dX0_worthOfAny_3 : decode cX0_worthOfAny 3 = .ok (.invokevirtual 44, 3) := by decide +kernel
theorem dX0_worthOfAny_6 : decode cX0_worthOfAny 6 = .ok (.aload_n 1, 1) := by decide +kernel
theorem dX0_worthOfAny_7 : decode cX0_worthOfAny 7 = .ok (.getfield 48, 3) := by decide +kernel
theorem dX0_worthOfAny_10 : decode cX0_worthOfAny 10 = .ok (.iload_n 2, 1) := by decide +kernel
theorem dX0_worthOfAny_11 : decode cX0_worthOfAny 11 = .ok (.iaload, 1) := by decide +kernel
theorem dX0_worthOfAny_12 : decode cX0_worthOfAny 12 = .ok (.ireturn, 1) := by decide +kernel
theorem dX0_worthOfOpen_0 : decode cX0_worthOfOpen 0 = .ok (.aload_n 0, 1) := by decide +kernel
theorem dX0_worthOfOpen_1 : decode cX0_worthOfOpen 1 = .ok (.bipush 11, 2) := by decide +kernel
theorem dX0_worthOfOpen_3 : decode cX0_worthOfOpen 3 = .ok (.invokevirtual 44, 3) := by decide +kernel
theorem dX0_worthOfOpen_6 : decode cX0_worthOfOpen 6 = .ok (.aload_n 0, 1) := by decide +kernel
theorem dX0_worthOfOpen_7 : decode cX0_worthOfOpen 7 = .ok (.aload_n 1, 1) := by decide +kernel
theorem dX0_worthOfOpen_8 : decode cX0_worthOfOpen 8 = .ok (.iload_n 2, 1) := by decide +kernel
theorem dX0_worthOfOpen_9 : decode cX0_worthOfOpen 9 = .ok (.invokevirtual 51, 3) := by decide +kernel
theorem dX0_worthOfOpen_12 : decode cX0_worthOfOpen 12 = .ok (.aload_n 1, 1) := by decide +kernel
theorem dX0_worthOfOpen_13 : decode cX0_worthOfOpen 13 = .ok (.iload_n 2, 1) := by decide +kernel
theorem dX0_worthOfOpen_14 : decode cX0_worthOfOpen 14 = .ok (.invokevirtual 54, 3) := by decide +kernel
theorem dX0_worthOfOpen_17 : decode cX0_worthOfOpen 17 = .ok (.isub, 1) := by decide +kernel
theorem dX0_worthOfOpen_18 : decode cX0_worthOfOpen 18 = .ok (.ireturn, 1) := by decide +kernel
theorem dX0_worthOfNear_0 : decode cX0_worthOfNear 0 = .ok (.aload_n 0, 1) := by decide +kernel
theorem dX0_worthOfNear_1 : decode cX0_worthOfNear 1 = .ok (.bipush 12, 2) := by decide +kernel
theorem dX0_worthOfNear_3 : decode cX0_worthOfNear 3 = .ok (.invokevirtual 44, 3) := by decide +kernel
theorem dX0_worthOfNear_6 : decode cX0_worthOfNear 6 = .ok (.aload_n 0, 1) := by decide +kernel
theorem dX0_worthOfNear_7 : decode cX0_worthOfNear 7 = .ok (.aload_n 1, 1) := by decide +kernel
theorem dX0_worthOfNear_8 : decode cX0_worthOfNear 8 = .ok (.iload_n 2, 1) := by decide +kernel
theorem dX0_worthOfNear_9 : decode cX0_worthOfNear 9 = .ok (.invokevirtual 32, 3) := by decide +kernel
theorem dX0_worthOfNear_12 : decode cX0_worthOfNear 12 = .ok (.aload_n 0, 1) := by decide +kernel
theorem dX0_worthOfNear_13 : decode cX0_worthOfNear 13 = .ok (.aload_n 1, 1) := by decide +kernel
theorem dX0_worthOfNear_14 : decode cX0_worthOfNear 14 = .ok (.iload_n 2, 1) := by decide +kernel
theorem dX0_worthOfNear_15 : decode cX0_worthOfNear 15 = .ok (.invokevirtual 38, 3) := by decide +kernel
theorem dX0_worthOfNear_18 : decode cX0_worthOfNear 18 = .ok (.iadd, 1) := by decide +kernel
theorem dX0_worthOfNear_19 : decode cX0_worthOfNear 19 = .ok (.ireturn, 1) := by decide +kernel
theorem dX0_worthOfOwn_0 : decode cX0_worthOfOwn 0 = .ok (.aload_n 0, 1) := by decide +kernel
theorem dX0_worthOfOwn_1 : decode cX0_worthOfOwn 1 = .ok (.bipush 13, 2) := by decide +kernel
theorem dX0_worthOfOwn_3 : decode cX0_worthOfOwn 3 = .ok (.invokevirtual 44, 3) := by decide +kernel
theorem dX0_worthOfOwn_6 : decode cX0_worthOfOwn 6 = .ok (.iconst 2, 1) := by decide +kernel
theorem dX0_worthOfOwn_7 : decode cX0_worthOfOwn 7 = .ok (.aload_n 0, 1) := by decide +kernel
theorem dX0_worthOfOwn_8 : decode cX0_worthOfOwn 8 = .ok (.aload_n 1, 1) := by decide +kernel
theorem dX0_worthOfOwn_9 : decode cX0_worthOfOwn 9 = .ok (.iload_n 2, 1) := by decide +kernel
theorem dX0_worthOfOwn_10 : decode cX0_worthOfOwn 10 = .ok (.invokevirtual 51, 3) := by decide +kernel
theorem dX0_worthOfOwn_13 : decode cX0_worthOfOwn 13 = .ok (.imul, 1) := by decide +kernel
theorem dX0_worthOfOwn_14 : decode cX0_worthOfOwn 14 = .ok (.ireturn, 1) := by decide +kernel
theorem dX0_markOfAny_0 : decode cX0_markOfAny 0 = .ok (.aload_n 0, 1) := by decide +kernel
theorem dX0_markOfAny_1 : decode cX0_markOfAny 1 = .ok (.bipush 20, 2) := by decide +kernel
theorem dX0_markOfAny_3 : decode cX0_markOfAny 3 = .ok (.invokevirtual 44, 3) := by decide +kernel
theorem dX0_markOfAny_6 : decode cX0_markOfAny 6 = .ok (.aload_n 1, 1) := by decide +kernel
theorem dX0_markOfAny_7 : decode cX0_markOfAny 7 = .ok (.getfield 57, 3) := by decide +kernel
theorem dX0_markOfAny_10 : decode cX0_markOfAny 10 = .ok (.iload_n 2, 1) := by decide +kernel
theorem dX0_markOfAny_11 : decode cX0_markOfAny 11 = .ok (.iaload, 1) := by decide +kernel
theorem dX0_markOfAny_12 : decode cX0_markOfAny 12 = .ok (.invokestatic 60, 3) := by decide +kernel
theorem dX0_markOfAny_15 : decode cX0_markOfAny 15 = .ok (.ireturn, 1) := by decide +kernel
theorem dX0_markOfNear_0 : decode cX0_markOfNear 0 = .ok (.aload_n 0, 1) := by decide +kernel
theorem dX0_markOfNear_1 : decode cX0_markOfNear 1 = .ok (.bipush 21, 2) := by decide +kernel
theorem dX0_markOfNear_3 : decode cX0_markOfNear 3 = .ok (.invokevirtual 44, 3) := by decide +kernel
theorem dX0_markOfNear_6 : decode cX0_markOfNear 6 = .ok (.aload_n 0, 1) := by decide +kernel
theorem dX0_markOfNear_7 : decode cX0_markOfNear 7 = .ok (.aload_n 1, 1) := by decide +kernel
theorem dX0_markOfNear_8 : decode cX0_markOfNear 8 = .ok (.iload_n 2, 1) := by decide +kernel
theorem dX0_markOfNear_9 : decode cX0_markOfNear 9 = .ok (.invokevirtual 41, 3) := by decide +kernel
theorem dX0_markOfNear_12 : decode cX0_markOfNear 12 = .ok (.bipush 100, 2) := by decide +kernel
theorem dX0_markOfNear_14 : decode cX0_markOfNear 14 = .ok (.iadd, 1) := by decide +kernel
theorem dX0_markOfNear_15 : decode cX0_markOfNear 15 = .ok (.ireturn, 1) := by decide +kernel
theorem dX0_markOfOwn_0 : decode cX0_markOfOwn 0 = .ok (.aload_n 0, 1) := by decide +kernel
theorem dX0_markOfOwn_1 : decode cX0_markOfOwn 1 = .ok (.bipush 22, 2) := by decide +kernel
theorem dX0_markOfOwn_3 : decode cX0_markOfOwn 3 = .ok (.invokevirtual 44, 3) := by decide +kernel
theorem dX0_markOfOwn_6 : decode cX0_markOfOwn 6 = .ok (.aload_n 0, 1) := by decide +kernel
theorem dX0_markOfOwn_7 : decode cX0_markOfOwn 7 = .ok (.aload_n 1, 1) := by decide +kernel
theorem dX0_markOfOwn_8 : decode cX0_markOfOwn 8 = .ok (.iload_n 2, 1) := by decide +kernel
theorem dX0_markOfOwn_9 : decode cX0_markOfOwn 9 = .ok (.invokevirtual 41, 3) := by decide +kernel
theorem dX0_markOfOwn_12 : decode cX0_markOfOwn 12 = .ok (.aload_n 0, 1) := by decide +kernel
theorem dX0_markOfOwn_13 : decode cX0_markOfOwn 13 = .ok (.aload_n 1, 1) := by decide +kernel
theorem dX0_markOfOwn_14 : decode cX0_markOfOwn 14 = .ok (.iload_n 2, 1) := by decide +kernel
theorem dX0_markOfOwn_15 : decode cX0_markOfOwn 15 = .ok (.invokevirtual 25, 3) := by decide +kernel
theorem dX0_markOfOwn_18 : decode cX0_markOfOwn 18 = .ok (.iadd, 1) := by decide +kernel
theorem dX0_markOfOwn_19 : decode cX0_markOfOwn 19 = .ok (.ireturn, 1) := by decide +kernel
theorem dX1_init_0 : decode cX1_init 0 = .ok (.aload_n 0, 1) := by decide +kernel
theorem dX1_init_1 : decode cX1_init 1 = .ok (.invokespecial 3, 3) := by decide +kernel
theorem dX1_init_4 : decode cX1_init 4 = .ok (.aload_n 0, 1) := by decide +kernel
theorem dX1_init_5 : decode cX1_init 5 = .ok (.iconst 4, 1) := by decide +kernel
theorem dX1_init_6 : decode cX1_init 6 = .ok (.newarray .int, 2) := by decide +kernel
theorem dX1_init_8 : decode cX1_init 8 = .ok (.putfield 9, 3) := by decide +kernel
theorem dX1_init_11 : decode cX1_init 11 = .ok (.aload_n 0, 1) := by decide +kernel
theorem dX1_init_12 : decode cX1_init 12 = .ok (.iconst 4, 1) := by decide +kernel
theorem dX1_init_13 : decode cX1_init 13 = .ok (.newarray .int, 2) := by decide +kernel
theorem dX1_init_15 : decode cX1_init 15 = .ok (.putfield 15, 3) := by decide +kernel
theorem dX1_init_18 : decode cX1_init 18 = .ok (.aload_n 0, 1) := by decide +kernel
theorem dX1_init_19 : decode cX1_init 19 = .ok (.sipush 128, 3) := by decide +kernel
theorem dX1_init_22 : decode cX1_init 22 = .ok (.newarray .int, 2) := by decide +kernel
theorem dX1_init_24 : decode cX1_init 24 = .ok (.putfield 18, 3) := by decide +kernel
theorem dX1_init_27 : decode cX1_init 27 = .ok (.aload_n 0, 1) := by decide +kernel
theorem dX1_init_28 : decode cX1_init 28 = .ok (.sipush 128, 3) := by decide +kernel
theorem dX1_init_31 : decode cX1_init 31 = .ok (.newarray .boolean, 2) := by decide +kernel
theorem dX1_init_33 : decode cX1_init 33 = .ok (.putfield 21, 3) := by decide +kernel
theorem dX1_init_36 : decode cX1_init 36 = .ok (.aload_n 0, 1) := by decide +kernel
theorem dX1_init_37 : decode cX1_init 37 = .ok (.sipush 128, 3) := by decide +kernel
theorem dX1_init_40 : decode cX1_init 40 = .ok (.newarray .int, 2) := by decide +kernel
theorem dX1_init_42 : decode cX1_init 42 = .ok (.putfield 25, 3) := by decide +kernel
theorem dX1_init_45 : decode cX1_init 45 = .ok (.aload_n 0, 1) := by decide +kernel
theorem dX1_init_46 : decode cX1_init 46 = .ok (.iconst 5, 1) := by decide +kernel
theorem dX1_init_47 : decode cX1_init 47 = .ok (.newarray .int, 2) := by decide +kernel
theorem dX1_init_49 : decode cX1_init 49 = .ok (.putfield 28, 3) := by decide +kernel
theorem dX1_init_52 : decode cX1_init 52 = .ok (.aload_n 0, 1) := by decide +kernel
theorem dX1_init_53 : decode cX1_init 53 = .ok (.iconst (-1), 1) := by decide +kernel
theorem dX1_init_54 : decode cX1_init 54 = .ok (.putfield 31, 3) := by decide +kernel
theorem dX1_init_57 : decode cX1_init 57 = .ok (.return_, 1) := by decide +kernel
theorem dX1_isNextLength_0 : decode cX1_isNextLength 0 = .ok (.aload_n 0, 1) := by decide +kernel
theorem dX1_isNextLength_1 : decode cX1_isNextLength 1 = .ok (.getfield 35, 3) := by decide +kernel
theorem dX1_isNextLength_4 : decode cX1_isNextLength 4 = .ok (.ifCond .ne 5, 3) := by decide +kernel
theorem dX1_isNextLength_7 : decode cX1_isNextLength 7 = .ok (.iconst 1, 1) := by decide +kernel
theorem dX1_isNextLength_8 : decode cX1_isNextLength 8 = .ok (.ireturn, 1) := by decide +kernel
theorem dX1_isNextLength_9 : decode cX1_isNextLength 9 = .ok (.aload_n 0, 1) := by decide +kernel
theorem dX1_isNextLength_10 : decode cX1_isNextLength 10 = .ok (.getfield 9, 3) := by decide +kernel
theorem dX1_isNextLength_13 : decode cX1_isNextLength 13 = .ok (.aload_n 0, 1) := by decide +kernel
theorem dX1_isNextLength_14 : decode cX1_isNextLength 14 = .ok (.getfield 35, 3) := by decide +kernel
theorem dX1_isNextLength_17 : decode cX1_isNextLength 17 = .ok (.iconst 1, 1) := by decide +kernel
theorem dX1_isNextLength_18 : decode cX1_isNextLength 18 = .ok (.isub, 1) := by decide +kernel
theorem dX1_isNextLength_19 : decode cX1_isNextLength 19 = .ok (.iaload, 1) := by decide +kernel
theorem dX1_isNextLength_20 : decode cX1_isNextLength 20 = .ok (.istore_n 2, 1) := by decide +kernel
theorem dX1_isNextLength_21 : decode cX1_isNextLength 21 = .ok (.iload_n 1, 1) := by decide +kernel
theorem dX1_isNextLength_22 : decode cX1_isNextLength 22 = .ok (.iconst 2, 1) := by decide +kernel
theorem dX1_isNextLength_23 : decode cX1_isNextLength 23 = .ok (.iload_n 2, 1) := by decide +kernel
theorem dX1_isNextLength_24 : decode cX1_isNextLength 24 = .ok (.imul, 1) := by decide +kernel
theorem dX1_isNextLength_25 : decode cX1_isNextLength 25 = .ok (.if_icmp .lt 15, 3) := by decide +kernel
theorem dX1_isNextLength_28 : decode cX1_isNextLength 28 = .ok (.iload_n 1, 1) := by decide +kernel
theorem dX1_isNextLength_29 : decode cX1_isNextLength 29 = .ok (.iload_n 2, 1) := by decide +kernel
theorem dX1_isNextLength_30 : decode cX1_isNextLength 30 = .ok (.invokestatic 38, 3) := by decide +kernel
theorem dX1_isNextLength_33 : decode cX1_isNextLength 33 = .ok (.ifCond .eq 7, 3) := by decide +kernel
theorem dX1_isNextLength_36 : decode cX1_isNextLength 36 = .ok (.iconst 1, 1) := by decide +kernel
theorem dX1_isNextLength_37 : decode cX1_isNextLength 37 = .ok (.goto 4, 3) := by decide +kernel
theorem dX1_isNextLength_40 : decode cX1_isNextLength 40 = .ok (.iconst 0, 1) := by decide +kernel
theorem dX1_isNextLength_41 : decode cX1_isNextLength 41 = .ok (.ireturn, 1) := by decide +kernel
theorem dX1_isMultiple_0 : decode cX1_isMultiple 0 = .ok (.iload_n 1, 1) := by decide +kernel
theorem dX1_isMultiple_1 : decode cX1_isMultiple 1 = .ok (.ifCond .le 13, 3) := by decide +kernel
theorem dX1_isMultiple_4 : decode cX1_isMultiple 4 = .ok (.iload_n 0, 1) := by decide +kernel
theorem dX1_isMultiple_5 : decode cX1_isMultiple 5 = .ok (.iload_n 1, 1) := by decide +kernel
theorem dX1_isMultiple_6 : decode cX1_isMultiple 6 = .ok (.irem, 1) := by decide +kernel
theorem dX1_isMultiple_7 : decode cX1_isMultiple 7 = .ok (.ifCond .ne 7, 3) := by decide +kernel
theorem dX1_isMultiple_10 : decode cX1_isMultiple 10 = .ok (.iconst 1, 1) := by decide +kernel
theorem dX1_isMultiple_11 : decode cX1_isMultiple 11 = .ok (.goto 4, 3) := by decide +kernel
theorem dX1_isMultiple_14 : decode cX1_isMultiple 14 = .ok (.iconst 0, 1) := by decide +kernel
theorem dX1_isMultiple_15 : decode cX1_isMultiple 15 = .ok (.ireturn, 1) := by decide +kernel
theorem dX1_add_0 : decode cX1_add 0 = .ok (.aload_n 0, 1) := by decide +kernel
theorem dX1_add_1 : decode cX1_add 1 = .ok (.getfield 9, 3) := by decide +kernel
theorem dX1_add_4 : decode cX1_add 4 = .ok (.aload_n 0, 1) := by decide +kernel
theorem dX1_add_5 : decode cX1_add 5 = .ok (.getfield 35, 3) := by decide +kernel
theorem dX1_add_8 : decode cX1_add 8 = .ok (.iload_n 1, 1) := by decide +kernel
theorem dX1_add_9 : decode cX1_add 9 = .ok (.iastore, 1) := by decide +kernel
theorem dX1_add_10 : decode cX1_add 10 = .ok (.aload_n 0, 1) := by decide +kernel
theorem dX1_add_11 : decode cX1_add 11 = .ok (.getfield 15, 3) := by decide +kernel
theorem dX1_add_14 : decode cX1_add 14 = .ok (.aload_n 0, 1) := by decide +kernel
theorem dX1_add_15 : decode cX1_add 15 = .ok (.getfield 35, 3) := by decide +kernel
theorem dX1_add_18 : decode cX1_add 18 = .ok (.iload_n 2, 1) := by decide +kernel
theorem dX1_add_19 : decode cX1_add 19 = .ok (.iastore, 1) := by decide +kernel
theorem dX1_add_20 : decode cX1_add 20 = .ok (.aload_n 0, 1) := by decide +kernel
theorem dX1_add_21 : decode cX1_add 21 = .ok (.dup, 1) := by decide +kernel
theorem dX1_add_22 : decode cX1_add 22 = .ok (.getfield 35, 3) := by decide +kernel
theorem dX1_add_25 : decode cX1_add 25 = .ok (.iconst 1, 1) := by decide +kernel
theorem dX1_add_26 : decode cX1_add 26 = .ok (.iadd, 1) := by decide +kernel
theorem dX1_add_27 : decode cX1_add 27 = .ok (.putfield 35, 3) := by decide +kernel
theorem dX1_add_30 : decode cX1_add 30 = .ok (.aload_n 0, 1) := by decide +kernel
theorem dX1_add_31 : decode cX1_add 31 = .ok (.getfield 35, 3) := by decide +kernel
theorem dX1_add_34 : decode cX1_add 34 = .ok (.iconst 1, 1) := by decide +kernel
theorem dX1_add_35 : decode cX1_add 35 = .ok (.isub, 1) := by decide +kernel
theorem dX1_add_36 : decode cX1_add 36 = .ok (.ireturn, 1) := by decide +kernel
theorem dX1_meet_0 : decode cX1_meet 0 = .ok (.aload_n 0, 1) := by decide +kernel
theorem dX1_meet_1 : decode cX1_meet 1 = .ok (.getfield 21, 3) := by decide +kernel
theorem dX1_meet_4 : decode cX1_meet 4 = .ok (.iload_n 1, 1) := by decide +kernel
theorem dX1_meet_5 : decode cX1_meet 5 = .ok (.iconst 1, 1) := by decide +kernel
theorem dX1_meet_6 : decode cX1_meet 6 = .ok (.bastore, 1) := by decide +kernel
theorem dX1_meet_7 : decode cX1_meet 7 = .ok (.aload_n 0, 1) := by decide +kernel
theorem dX1_meet_8 : decode cX1_meet 8 = .ok (.dup, 1) := by decide +kernel
theorem dX1_meet_9 : decode cX1_meet 9 = .ok (.getfield 42, 3) := by decide +kernel
theorem dX1_meet_12 : decode cX1_meet 12 = .ok (.iconst 1, 1) := by decide +kernel
theorem dX1_meet_13 : decode cX1_meet 13 = .ok (.iadd, 1) := by decide +kernel
theorem dX1_meet_14 : decode cX1_meet 14 = .ok (.putfield 42, 3) := by decide +kernel
theorem dX1_meet_17 : decode cX1_meet 17 = .ok (.aload_n 0, 1) := by decide +kernel
theorem dX1_meet_18 : decode cX1_meet 18 = .ok (.iload_n 1, 1) := by decide +kernel
theorem dX1_meet_19 : decode cX1_meet 19 = .ok (.putfield 31, 3) := by decide +kernel
theorem dX1_meet_22 : decode cX1_meet 22 = .ok (.aload_n 0, 1) := by decide +kernel
theorem dX1_meet_23 : decode cX1_meet 23 = .ok (.iload_n 1, 1) := by decide +kernel
theorem dX1_meet_24 : decode cX1_meet 24 = .ok (.invokevirtual 45, 3) := by decide +kernel
theorem dX1_meet_27 : decode cX1_meet 27 = .ok (.ifCond .eq 5, 3) := by decide +kernel
theorem dX1_meet_30 : decode cX1_meet 30 = .ok (.iconst 0, 1) := by decide +kernel
theorem dX1_meet_31 : decode cX1_meet 31 = .ok (.ireturn, 1) := by decide +kernel
theorem dX1_meet_32 : decode cX1_meet 32 = .ok (.aload_n 0, 1) := by decide +kernel
theorem dX1_meet_33 : decode cX1_meet 33 = .ok (.getfield 18, 3) := by decide +kernel
theorem dX1_meet_36 : decode cX1_meet 36 = .ok (.iload_n 1, 1) := by decide +kernel
theorem dX1_meet_37 : decode cX1_meet 37 = .ok (.dup2, 1) := by decide +kernel
theorem dX1_meet_38 : decode cX1_meet 38 = .ok (.iaload, 1) := by decide +kernel
theorem dX1_meet_39 : decode cX1_meet 39 = .ok (.aload_n 0, 1) := by decide +kernel
theorem dX1_meet_40 : decode cX1_meet 40 = .ok (.iload_n 1, 1) := by decide +kernel
theorem dX1_meet_41 : decode cX1_meet 41 = .ok (.invokevirtual 49, 3) := by decide +kernel
theorem dX1_meet_44 : decode cX1_meet 44 = .ok (.iadd, 1) := by decide +kernel
theorem dX1_meet_45 : decode cX1_meet 45 = .ok (.iastore, 1) := by decide +kernel
theorem dX1_meet_46 : decode cX1_meet 46 = .ok (.aload_n 0, 1) := by decide +kernel
theorem dX1_meet_47 : decode cX1_meet 47 = .ok (.iload_n 1, 1) := by decide +kernel
theorem dX1_meet_48 : decode cX1_meet 48 = .ok (.invokevirtual 53, 3) := by decide +kernel
theorem dX1_meet_51 : decode cX1_meet 51 = .ok (.istore_n 2, 1) := by decide +kernel
theorem dX1_meet_52 : decode cX1_meet 52 = .ok (.aload_n 0, 1) := by decide +kernel
theorem dX1_meet_53 : decode cX1_meet 53 = .ok (.dup, 1) := by decide +kernel
theorem dX1_meet_54 : decode cX1_meet 54 = .ok (.getfield 56, 3) := by decide +kernel
theorem dX1_meet_57 : decode cX1_meet 57 = .ok (.iload_n 2, 1) := by decide +kernel
theorem dX1_meet_58 : decode cX1_meet 58 = .ok (.iadd, 1) := by decide +kernel
theorem dX1_meet_59 : decode cX1_meet 59 = .ok (.putfield 56, 3) := by decide +kernel
theorem dX1_meet_62 : decode cX1_meet 62 = .ok (.iload_n 2, 1) := by decide +kernel
theorem dX1_meet_63 : decode cX1_meet 63 = .ok (.ireturn, 1) := by decide +kernel
theorem dX1_isMet_0 : decode cX1_isMet 0 = .ok (.iconst 0, 1) := by decide +kernel
theorem dX1_isMet_1 : decode cX1_isMet 1 = .ok (.istore_n 2, 1) := by decide +kernel
theorem dX1_isMet_2 : decode cX1_isMet 2 = .ok (.iload_n 2, 1) := by decide +kernel
theorem dX1_isMet_3 : decode cX1_isMet 3 = .ok (.aload_n 0, 1) := by decide +kernel
theorem dX1_isMet_4 : decode cX1_isMet 4 = .ok (.getfield 35, 3) := by decide +kernel
theorem dX1_isMet_7 : decode cX1_isMet 7 = .ok (.if_icmp .ge 29, 3) := by decide +kernel
theorem dX1_isMet_10 : decode cX1_isMet 10 = .ok (.aload_n 0, 1) := by decide +kernel
theorem dX1_isMet_11 : decode cX1_isMet 11 = .ok (.getfield 25, 3) := by decide +kernel
theorem dX1_isMet_14 : decode cX1_isMet 14 = .ok (.aload_n 0, 1) := by decide +kernel
theorem dX1_isMet_15 : decode cX1_isMet 15 = .ok (.iload_n 2, 1) := by decide +kernel
theorem dX1_isMet_16 : decode cX1_isMet 16 = .ok (.iload_n 1, 1) := by decide +kernel
theorem dX1_isMet_17 : decode cX1_isMet 17 = .ok (.invokevirtual 59, 3) := by decide +kernel
theorem dX1_isMet_20 : decode cX1_isMet 20 = .ok (.iaload, 1) := by decide +kernel
theorem dX1_isMet_21 : decode cX1_isMet 21 = .ok (.iload_n 2, 1) := by decide +kernel
theorem dX1_isMet_22 : decode cX1_isMet 22 = .ok (.invokestatic 63, 3) := by decide +kernel
theorem dX1_isMet_25 : decode cX1_isMet 25 = .ok (.ifCond .eq 5, 3) := by decide +kernel
theorem dX1_isMet_28 : decode cX1_isMet 28 = .ok (.iconst 1, 1) := by decide +kernel
theorem dX1_isMet_29 : decode cX1_isMet 29 = .ok (.ireturn, 1) := by decide +kernel
theorem dX1_isMet_30 : decode cX1_isMet 30 = .ok (.iinc 2 1, 3) := by decide +kernel
theorem dX1_isMet_33 : decode cX1_isMet 33 = .ok (.goto (-31), 3) := by decide +kernel
theorem dX1_isMet_36 : decode cX1_isMet 36 = .ok (.iconst 0, 1) := by decide +kernel
theorem dX1_isMet_37 : decode cX1_isMet 37 = .ok (.ireturn, 1) := by decide +kernel
theorem dX1_leastGap_0 : decode cX1_leastGap 0 = .ok (.sipush 1000, 3) := by decide +kernel
theorem dX1_leastGap_3 : decode cX1_leastGap 3 = .ok (.istore_n 2, 1) := by decide +kernel
theorem dX1_leastGap_4 : decode cX1_leastGap 4 = .ok (.iconst 0, 1) := by decide +kernel
theorem dX1_leastGap_5 : decode cX1_leastGap 5 = .ok (.istore_n 3, 1) := by decide +kernel
theorem dX1_leastGap_6 : decode cX1_leastGap 6 = .ok (.iload_n 3, 1) := by decide +kernel
theorem dX1_leastGap_7 : decode cX1_leastGap 7 = .ok (.aload_n 0, 1) := by decide +kernel
theorem dX1_leastGap_8 : decode cX1_leastGap 8 = .ok (.getfield 35, 3) := by decide +kernel
theorem dX1_leastGap_11 : decode cX1_leastGap 11 = .ok (.if_icmp .ge 27, 3) := by decide +kernel
theorem dX1_leastGap_14 : decode cX1_leastGap 14 = .ok (.iload_n 2, 1) := by decide +kernel
theorem dX1_leastGap_15 : decode cX1_leastGap 15 = .ok (.aload_n 0, 1) := by decide +kernel
theorem dX1_leastGap_16 : decode cX1_leastGap 16 = .ok (.getfield 15, 3) := by decide +kernel
theorem dX1_leastGap_19 : decode cX1_leastGap 19 = .ok (.iload_n 3, 1) := by decide +kernel
theorem dX1_leastGap_20 : decode cX1_leastGap 20 = .ok (.iaload, 1) := by decide +kernel
theorem dX1_leastGap_21 : decode cX1_leastGap 21 = .ok (.aload_n 0, 1) := by decide +kernel
theorem dX1_leastGap_22 : decode cX1_leastGap 22 = .ok (.iload_n 3, 1) := by decide +kernel
theorem dX1_leastGap_23 : decode cX1_leastGap 23 = .ok (.iload_n 1, 1) := by decide +kernel
theorem dX1_leastGap_24 : decode cX1_leastGap 24 = .ok (.invokevirtual 66, 3) := by decide +kernel
theorem dX1_leastGap_27 : decode cX1_leastGap 27 = .ok (.isub, 1) := by decide +kernel
theorem dX1_leastGap_28 : decode cX1_leastGap 28 = .ok (.invokestatic 69, 3) := by decide +kernel
theorem dX1_leastGap_31 : decode cX1_leastGap 31 = .ok (.istore_n 2, 1) := by decide +kernel
theorem dX1_leastGap_32 : decode cX1_leastGap 32 = .ok (.iinc 3 1, 3) := by decide +kernel
theorem dX1_leastGap_35 : decode cX1_leastGap 35 = .ok (.goto (-29), 3) := by decide +kernel
theorem dX1_leastGap_38 : decode cX1_leastGap 38 = .ok (.iload_n 2, 1) := by decide +kernel
theorem dX1_leastGap_39 : decode cX1_leastGap 39 = .ok (.ireturn, 1) := by decide +kernel
theorem dX1_buyTight_0 : decode cX1_buyTight 0 = .ok (.iconst 0, 1) := by decide +kernel
theorem dX1_buyTight_1 : decode cX1_buyTight 1 = .ok (.istore_n 2, 1) := by decide +kernel
theorem dX1_buyTight_2 : decode cX1_buyTight 2 = .ok (.iconst 0, 1) := by decide +kernel
theorem dX1_buyTight_3 : decode cX1_buyTight 3 = .ok (.istore_n 3, 1) := by decide +kernel
theorem dX1_buyTight_4 : decode cX1_buyTight 4 = .ok (.iload_n 3, 1) := by decide +kernel
theorem dX1_buyTight_5 : decode cX1_buyTight 5 = .ok (.aload_n 0, 1) := by decide +kernel
theorem dX1_buyTight_6 : decode cX1_buyTight 6 = .ok (.getfield 35, 3) := by decide +kernel
theorem dX1_buyTight_9 : decode cX1_buyTight 9 = .ok (.if_icmp .ge 60, 3) := by decide +kernel
theorem dX1_buyTight_12 : decode cX1_buyTight 12 = .ok (.aload_n 0, 1) := by decide +kernel
theorem dX1_buyTight_13 : decode cX1_buyTight 13 = .ok (.iload_n 3, 1) := by decide +kernel
theorem dX1_buyTight_14 : decode cX1_buyTight 14 = .ok (.iload_n 1, 1) := by decide +kernel
theorem dX1_buyTight_15 : decode cX1_buyTight 15 = .ok (.invokevirtual 66, 3) := by decide +kernel
theorem dX1_buyTight_18 : decode cX1_buyTight 18 = .ok (.aload_n 0, 1) := by decide +kernel
theorem dX1_buyTight_19 : decode cX1_buyTight 19 = .ok (.getfield 15, 3) := by decide +kernel
theorem dX1_buyTight_22 : decode cX1_buyTight 22 = .ok (.iload_n 3, 1) := by decide +kernel
theorem dX1_buyTight_23 : decode cX1_buyTight 23 = .ok (.iaload, 1) := by decide +kernel
theorem dX1_buyTight_24 : decode cX1_buyTight 24 = .ok (.if_icmp .ne 39, 3) := by decide +kernel
theorem dX1_buyTight_27 : decode cX1_buyTight 27 = .ok (.aload_n 0, 1) := by decide +kernel
theorem dX1_buyTight_28 : decode cX1_buyTight 28 = .ok (.getfield 25, 3) := by decide +kernel
theorem dX1_buyTight_31 : decode cX1_buyTight 31 = .ok (.aload_n 0, 1) := by decide +kernel
theorem dX1_buyTight_32 : decode cX1_buyTight 32 = .ok (.iload_n 3, 1) := by decide +kernel
theorem dX1_buyTight_33 : decode cX1_buyTight 33 = .ok (.iload_n 1, 1) := by decide +kernel
theorem dX1_buyTight_34 : decode cX1_buyTight 34 = .ok (.invokevirtual 59, 3) := by decide +kernel
theorem dX1_buyTight_37 : decode cX1_buyTight 37 = .ok (.dup2, 1) := by decide +kernel
theorem dX1_buyTight_38 : decode cX1_buyTight 38 = .ok (.iaload, 1) := by decide +kernel
theorem dX1_buyTight_39 : decode cX1_buyTight 39 = .ok (.iconst 1, 1) := by decide +kernel
theorem dX1_buyTight_40 : decode cX1_buyTight 40 = .ok (.iload_n 3, 1) := by decide +kernel
theorem dX1_buyTight_41 : decode cX1_buyTight 41 = .ok (.ishl, 1) := by decide +kernel
theorem dX1_buyTight_42 : decode cX1_buyTight 42 = .ok (.ior, 1) := by decide +kernel
theorem dX1_buyTight_43 : decode cX1_buyTight 43 = .ok (.iastore, 1) := by decide +kernel
theorem dX1_buyTight_44 : decode cX1_buyTight 44 = .ok (.aload_n 0, 1) := by decide +kernel
theorem dX1_buyTight_45 : decode cX1_buyTight 45 = .ok (.dup, 1) := by decide +kernel
theorem dX1_buyTight_46 : decode cX1_buyTight 46 = .ok (.getfield 74, 3) := by decide +kernel
theorem dX1_buyTight_49 : decode cX1_buyTight 49 = .ok (.iconst 1, 1) := by decide +kernel
theorem dX1_buyTight_50 : decode cX1_buyTight 50 = .ok (.iadd, 1) := by decide +kernel
theorem dX1_buyTight_51 : decode cX1_buyTight 51 = .ok (.putfield 74, 3) := by decide +kernel
theorem dX1_buyTight_54 : decode cX1_buyTight 54 = .ok (.iload_n 2, 1) := by decide +kernel
theorem dX1_buyTight_55 : decode cX1_buyTight 55 = .ok (.aload_n 0, 1) := by decide +kernel
theorem dX1_buyTight_56 : decode cX1_buyTight 56 = .ok (.getfield 15, 3) := by decide +kernel
theorem dX1_buyTight_59 : decode cX1_buyTight 59 = .ok (.iload_n 3, 1) := by decide +kernel
theorem dX1_buyTight_60 : decode cX1_buyTight 60 = .ok (.iaload, 1) := by decide +kernel
theorem dX1_buyTight_61 : decode cX1_buyTight 61 = .ok (.iadd, 1) := by decide +kernel
theorem dX1_buyTight_62 : decode cX1_buyTight 62 = .ok (.istore_n 2, 1) := by decide +kernel
theorem dX1_buyTight_63 : decode cX1_buyTight 63 = .ok (.iinc 3 1, 3) := by decide +kernel
theorem dX1_buyTight_66 : decode cX1_buyTight 66 = .ok (.goto (-62), 3) := by decide +kernel
theorem dX1_buyTight_69 : decode cX1_buyTight 69 = .ok (.iload_n 2, 1) := by decide +kernel
theorem dX1_buyTight_70 : decode cX1_buyTight 70 = .ok (.ireturn, 1) := by decide +kernel
theorem dX1_start_0 : decode cX1_start 0 = .ok (.aload_n 0, 1) := by decide +kernel
theorem dX1_start_1 : decode cX1_start 1 = .ok (.getfield 9, 3) := by decide +kernel
theorem dX1_start_4 : decode cX1_start 4 = .ok (.iload_n 1, 1) := by decide +kernel
theorem dX1_start_5 : decode cX1_start 5 = .ok (.iaload, 1) := by decide +kernel
theorem dX1_start_6 : decode cX1_start 6 = .ok (.istore_n 3, 1) := by decide +kernel
theorem dX1_start_7 : decode cX1_start 7 = .ok (.iload_n 3, 1) := by decide +kernel
theorem dX1_start_8 : decode cX1_start 8 = .ok (.ifCond .le 11, 3) := by decide +kernel
theorem dX1_start_11 : decode cX1_start 11 = .ok (.iload_n 2, 1) := by decide +kernel
theorem dX1_start_12 : decode cX1_start 12 = .ok (.iload_n 2, 1) := by decide +kernel
theorem dX1_start_13 : decode cX1_start 13 = .ok (.iload_n 3, 1) := by decide +kernel
theorem dX1_start_14 : decode cX1_start 14 = .ok (.irem, 1) := by decide +kernel
theorem dX1_start_15 : decode cX1_start 15 = .ok (.isub, 1) := by decide +kernel
theorem dX1_start_16 : decode cX1_start 16 = .ok (.goto 4, 3) := by decide +kernel
theorem dX1_start_19 : decode cX1_start 19 = .ok (.iload_n 2, 1) := by decide +kernel
theorem dX1_start_20 : decode cX1_start 20 = .ok (.ireturn, 1) := by decide +kernel
theorem dX1_filled_0 : decode cX1_filled 0 = .ok (.aload_n 0, 1) := by decide +kernel
theorem dX1_filled_1 : decode cX1_filled 1 = .ok (.iload_n 1, 1) := by decide +kernel
theorem dX1_filled_2 : decode cX1_filled 2 = .ok (.iload_n 2, 1) := by decide +kernel
theorem dX1_filled_3 : decode cX1_filled 3 = .ok (.invokevirtual 59, 3) := by decide +kernel
theorem dX1_filled_6 : decode cX1_filled 6 = .ok (.istore_n 3, 1) := by decide +kernel
theorem dX1_filled_7 : decode cX1_filled 7 = .ok (.aload_n 0, 1) := by decide +kernel
theorem dX1_filled_8 : decode cX1_filled 8 = .ok (.iload_n 3, 1) := by decide +kernel
theorem dX1_filled_9 : decode cX1_filled 9 = .ok (.iload_n 3, 1) := by decide +kernel
theorem dX1_filled_10 : decode cX1_filled 10 = .ok (.aload_n 0, 1) := by decide +kernel
theorem dX1_filled_11 : decode cX1_filled 11 = .ok (.getfield 9, 3) := by decide +kernel
theorem dX1_filled_14 : decode cX1_filled 14 = .ok (.iload_n 1, 1) := by decide +kernel
theorem dX1_filled_15 : decode cX1_filled 15 = .ok (.iaload, 1) := by decide +kernel
theorem dX1_filled_16 : decode cX1_filled 16 = .ok (.iadd, 1) := by decide +kernel
theorem dX1_filled_17 : decode cX1_filled 17 = .ok (.invokevirtual 77, 3) := by decide +kernel
theorem dX1_filled_20 : decode cX1_filled 20 = .ok (.ireturn, 1) := by decide +kernel
theorem dX1_pricesOf_0 : decode cX1_pricesOf 0 = .ok (.iconst 0, 1) := by decide +kernel
theorem dX1_pricesOf_1 : decode cX1_pricesOf 1 = .ok (.istore_n 3, 1) := by decide +kernel
theorem dX1_pricesOf_2 : decode cX1_pricesOf 2 = .ok (.iload_n 1, 1) := by decide +kernel
theorem dX1_pricesOf_3 : decode cX1_pricesOf 3 = .ok (.istore 4, 2) := by decide +kernel
theorem dX1_pricesOf_5 : decode cX1_pricesOf 5 = .ok (.iload 4, 2) := by decide +kernel
theorem dX1_pricesOf_7 : decode cX1_pricesOf 7 = .ok (.iload_n 2, 1) := by decide +kernel
theorem dX1_pricesOf_8 : decode cX1_pricesOf 8 = .ok (.if_icmp .ge 27, 3) := by decide +kernel
theorem dX1_pricesOf_11 : decode cX1_pricesOf 11 = .ok (.iload 4, 2) := by decide +kernel
theorem dX1_pricesOf_13 : decode cX1_pricesOf 13 = .ok (.sipush 128, 3) := by decide +kernel
theorem dX1_pricesOf_16 : decode cX1_pricesOf 16 = .ok (.if_icmp .ge 19, 3) := by decide +kernel
theorem dX1_pricesOf_19 : decode cX1_pricesOf 19 = .ok (.iload_n 3, 1) := by decide +kernel
theorem dX1_pricesOf_20 : decode cX1_pricesOf 20 = .ok (.aload_n 0, 1) := by decide +kernel
theorem dX1_pricesOf_21 : decode cX1_pricesOf 21 = .ok (.getfield 18, 3) := by decide +kernel
theorem dX1_pricesOf_24 : decode cX1_pricesOf 24 = .ok (.iload 4, 2) := by decide +kernel
theorem dX1_pricesOf_26 : decode cX1_pricesOf 26 = .ok (.iaload, 1) := by decide +kernel
theorem dX1_pricesOf_27 : decode cX1_pricesOf 27 = .ok (.iadd, 1) := by decide +kernel
theorem dX1_pricesOf_28 : decode cX1_pricesOf 28 = .ok (.istore_n 3, 1) := by decide +kernel
theorem dX1_pricesOf_29 : decode cX1_pricesOf 29 = .ok (.iinc 4 1, 3) := by decide +kernel
theorem dX1_pricesOf_32 : decode cX1_pricesOf 32 = .ok (.goto (-27), 3) := by decide +kernel
theorem dX1_pricesOf_35 : decode cX1_pricesOf 35 = .ok (.iload_n 3, 1) := by decide +kernel
theorem dX1_pricesOf_36 : decode cX1_pricesOf 36 = .ok (.ireturn, 1) := by decide +kernel
theorem dX1_least_0 : decode cX1_least 0 = .ok (.iconst 0, 1) := by decide +kernel
theorem dX1_least_1 : decode cX1_least 1 = .ok (.istore_n 1, 1) := by decide +kernel
theorem dX1_least_2 : decode cX1_least 2 = .ok (.iload_n 1, 1) := by decide +kernel
theorem dX1_least_3 : decode cX1_least 3 = .ok (.aload_n 0, 1) := by decide +kernel
theorem dX1_least_4 : decode cX1_least 4 = .ok (.getfield 35, 3) := by decide +kernel
theorem dX1_least_7 : decode cX1_least 7 = .ok (.if_icmp .gt 16, 3) := by decide +kernel
theorem dX1_least_10 : decode cX1_least 10 = .ok (.aload_n 0, 1) := by decide +kernel
theorem dX1_least_11 : decode cX1_least 11 = .ok (.getfield 28, 3) := by decide +kernel
theorem dX1_least_14 : decode cX1_least 14 = .ok (.iload_n 1, 1) := by decide +kernel
theorem dX1_least_15 : decode cX1_least 15 = .ok (.iconst 0, 1) := by decide +kernel
theorem dX1_least_16 : decode cX1_least 16 = .ok (.iastore, 1) := by decide +kernel
theorem dX1_least_17 : decode cX1_least 17 = .ok (.iinc 1 1, 3) := by decide +kernel
theorem dX1_least_20 : decode cX1_least 20 = .ok (.goto (-18), 3) := by decide +kernel
theorem dX1_least_23 : decode cX1_least 23 = .ok (.iconst 0, 1) := by decide +kernel
theorem dX1_least_24 : decode cX1_least 24 = .ok (.istore_n 1, 1) := by decide +kernel
theorem dX1_least_25 : decode cX1_least 25 = .ok (.iload_n 1, 1) := by decide +kernel
theorem dX1_least_26 : decode cX1_least 26 = .ok (.aload_n 0, 1) := by decide +kernel
theorem dX1_least_27 : decode cX1_least 27 = .ok (.getfield 31, 3) := by decide +kernel
theorem dX1_least_30 : decode cX1_least 30 = .ok (.if_icmp .gt 34, 3) := by decide +kernel
theorem dX1_least_33 : decode cX1_least 33 = .ok (.aload_n 0, 1) := by decide +kernel
theorem dX1_least_34 : decode cX1_least 34 = .ok (.getfield 21, 3) := by decide +kernel
theorem dX1_least_37 : decode cX1_least 37 = .ok (.iload_n 1, 1) := by decide +kernel
theorem dX1_least_38 : decode cX1_least 38 = .ok (.baload, 1) := by decide +kernel
theorem dX1_least_39 : decode cX1_least 39 = .ok (.ifCond .eq 14, 3) := by decide +kernel
theorem dX1_least_42 : decode cX1_least 42 = .ok (.aload_n 0, 1) := by decide +kernel
theorem dX1_least_43 : decode cX1_least 43 = .ok (.getfield 28, 3) := by decide +kernel
theorem dX1_least_46 : decode cX1_least 46 = .ok (.iconst 0, 1) := by decide +kernel
theorem dX1_least_47 : decode cX1_least 47 = .ok (.dup2, 1) := by decide +kernel
theorem dX1_least_48 : decode cX1_least 48 = .ok (.iaload, 1) := by decide +kernel
theorem dX1_least_49 : decode cX1_least 49 = .ok (.ldc 80, 2) := by decide +kernel
theorem dX1_least_51 : decode cX1_least 51 = .ok (.iadd, 1) := by decide +kernel
theorem dX1_least_52 : decode cX1_least 52 = .ok (.iastore, 1) := by decide +kernel
theorem dX1_least_53 : decode cX1_least 53 = .ok (.aload_n 0, 1) := by decide +kernel
theorem dX1_least_54 : decode cX1_least 54 = .ok (.iload_n 1, 1) := by decide +kernel
theorem dX1_least_55 : decode cX1_least 55 = .ok (.invokevirtual 81, 3) := by decide +kernel
theorem dX1_least_58 : decode cX1_least 58 = .ok (.iinc 1 1, 3) := by decide +kernel
theorem dX1_least_61 : decode cX1_least 61 = .ok (.goto (-36), 3) := by decide +kernel
theorem dX1_least_64 : decode cX1_least 64 = .ok (.aload_n 0, 1) := by decide +kernel
theorem dX1_least_65 : decode cX1_least 65 = .ok (.getfield 28, 3) := by decide +kernel
theorem dX1_least_68 : decode cX1_least 68 = .ok (.aload_n 0, 1) := by decide +kernel
theorem dX1_least_69 : decode cX1_least 69 = .ok (.getfield 35, 3) := by decide +kernel
theorem dX1_least_72 : decode cX1_least 72 = .ok (.iaload, 1) := by decide +kernel
theorem dX1_least_73 : decode cX1_least 73 = .ok (.ireturn, 1) := by decide +kernel
theorem dX1_closeSpans_0 : decode cX1_closeSpans 0 = .ok (.iconst 0, 1) := by decide +kernel
theorem dX1_closeSpans_1 : decode cX1_closeSpans 1 = .ok (.istore_n 2, 1) := by decide +kernel
theorem dX1_closeSpans_2 : decode cX1_closeSpans 2 = .ok (.iload_n 2, 1) := by decide +kernel
theorem dX1_closeSpans_3 : decode cX1_closeSpans 3 = .ok (.aload_n 0, 1) := by decide +kernel
theorem dX1_closeSpans_4 : decode cX1_closeSpans 4 = .ok (.getfield 35, 3) := by decide +kernel
theorem dX1_closeSpans_7 : decode cX1_closeSpans 7 = .ok (.if_icmp .ge 65, 3) := by decide +kernel
theorem dX1_closeSpans_10 : decode cX1_closeSpans 10 = .ok (.iload_n 1, 1) := by decide +kernel
theorem dX1_closeSpans_11 : decode cX1_closeSpans 11 = .ok (.aload_n 0, 1) := by decide +kernel
theorem dX1_closeSpans_12 : decode cX1_closeSpans 12 = .ok (.getfield 31, 3) := by decide +kernel
theorem dX1_closeSpans_15 : decode cX1_closeSpans 15 = .ok (.if_icmp .eq 18, 3) := by decide +kernel
theorem dX1_closeSpans_18 : decode cX1_closeSpans 18 = .ok (.iload_n 1, 1) := by decide +kernel
theorem dX1_closeSpans_19 : decode cX1_closeSpans 19 = .ok (.iconst 1, 1) := by decide +kernel
theorem dX1_closeSpans_20 : decode cX1_closeSpans 20 = .ok (.iadd, 1) := by decide +kernel
theorem dX1_closeSpans_21 : decode cX1_closeSpans 21 = .ok (.aload_n 0, 1) := by decide +kernel
theorem dX1_closeSpans_22 : decode cX1_closeSpans 22 = .ok (.getfield 9, 3) := by decide +kernel
theorem dX1_closeSpans_25 : decode cX1_closeSpans 25 = .ok (.iload_n 2, 1) := by decide +kernel
theorem dX1_closeSpans_26 : decode cX1_closeSpans 26 = .ok (.iaload, 1) := by decide +kernel
theorem dX1_closeSpans_27 : decode cX1_closeSpans 27 = .ok (.invokestatic 38, 3) := by decide +kernel
theorem dX1_closeSpans_30 : decode cX1_closeSpans 30 = .ok (.ifCond .eq 36, 3) := by decide +kernel
theorem dX1_closeSpans_33 : decode cX1_closeSpans 33 = .ok (.aload_n 0, 1) := by decide +kernel
theorem dX1_closeSpans_34 : decode cX1_closeSpans 34 = .ok (.getfield 28, 3) := by decide +kernel
theorem dX1_closeSpans_37 : decode cX1_closeSpans 37 = .ok (.iload_n 2, 1) := by decide +kernel
theorem dX1_closeSpans_38 : decode cX1_closeSpans 38 = .ok (.iconst 1, 1) := by decide +kernel
theorem dX1_closeSpans_39 : decode cX1_closeSpans 39 = .ok (.iadd, 1) := by decide +kernel
theorem dX1_closeSpans_40 : decode cX1_closeSpans 40 = .ok (.dup2, 1) := by decide +kernel
theorem dX1_closeSpans_41 : decode cX1_closeSpans 41 = .ok (.iaload, 1) := by decide +kernel
theorem dX1_closeSpans_42 : decode cX1_closeSpans 42 = .ok (.aload_n 0, 1) := by decide +kernel
theorem dX1_closeSpans_43 : decode cX1_closeSpans 43 = .ok (.getfield 28, 3) := by decide +kernel
theorem dX1_closeSpans_46 : decode cX1_closeSpans 46 = .ok (.iload_n 2, 1) := by decide +kernel
theorem dX1_closeSpans_47 : decode cX1_closeSpans 47 = .ok (.iaload, 1) := by decide +kernel
theorem dX1_closeSpans_48 : decode cX1_closeSpans 48 = .ok (.aload_n 0, 1) := by decide +kernel
theorem dX1_closeSpans_49 : decode cX1_closeSpans 49 = .ok (.getfield 15, 3) := by decide +kernel
theorem dX1_closeSpans_52 : decode cX1_closeSpans 52 = .ok (.iload_n 2, 1) := by decide +kernel
theorem dX1_closeSpans_53 : decode cX1_closeSpans 53 = .ok (.iaload, 1) := by decide +kernel
theorem dX1_closeSpans_54 : decode cX1_closeSpans 54 = .ok (.invokestatic 69, 3) := by decide +kernel
theorem dX1_closeSpans_57 : decode cX1_closeSpans 57 = .ok (.iadd, 1) := by decide +kernel
theorem dX1_closeSpans_58 : decode cX1_closeSpans 58 = .ok (.iastore, 1) := by decide +kernel
theorem dX1_closeSpans_59 : decode cX1_closeSpans 59 = .ok (.aload_n 0, 1) := by decide +kernel
theorem dX1_closeSpans_60 : decode cX1_closeSpans 60 = .ok (.getfield 28, 3) := by decide +kernel
theorem dX1_closeSpans_63 : decode cX1_closeSpans 63 = .ok (.iload_n 2, 1) := by decide +kernel
theorem dX1_closeSpans_64 : decode cX1_closeSpans 64 = .ok (.iconst 0, 1) := by decide +kernel
theorem dX1_closeSpans_65 : decode cX1_closeSpans 65 = .ok (.iastore, 1) := by decide +kernel
theorem dX1_closeSpans_66 : decode cX1_closeSpans 66 = .ok (.iinc 2 1, 3) := by decide +kernel
theorem dX1_closeSpans_69 : decode cX1_closeSpans 69 = .ok (.goto (-67), 3) := by decide +kernel
theorem dX1_closeSpans_72 : decode cX1_closeSpans 72 = .ok (.return_, 1) := by decide +kernel
theorem dX2_init_0 : decode cX2_init 0 = .ok (.aload_n 0, 1) := by decide +kernel
theorem dX2_init_1 : decode cX2_init 1 = .ok (.invokespecial 3, 3) := by decide +kernel
theorem dX2_init_4 : decode cX2_init 4 = .ok (.aload_n 0, 1) := by decide +kernel
theorem dX2_init_5 : decode cX2_init 5 = .ok (.bipush 10, 2) := by decide +kernel
theorem dX2_init_7 : decode cX2_init 7 = .ok (.newarray .int, 2) := by decide +kernel
theorem dX2_init_9 : decode cX2_init 9 = .ok (.putfield 9, 3) := by decide +kernel
theorem dX2_init_12 : decode cX2_init 12 = .ok (.aload_n 0, 1) := by decide +kernel
theorem dX2_init_13 : decode cX2_init 13 = .ok (.bipush 10, 2) := by decide +kernel
theorem dX2_init_15 : decode cX2_init 15 = .ok (.newarray .int, 2) := by decide +kernel
theorem dX2_init_17 : decode cX2_init 17 = .ok (.putfield 15, 3) := by decide +kernel
theorem dX2_init_20 : decode cX2_init 20 = .ok (.aload_n 0, 1) := by decide +kernel
theorem dX2_init_21 : decode cX2_init 21 = .ok (.bipush 12, 2) := by decide +kernel
theorem dX2_init_23 : decode cX2_init 23 = .ok (.newarray .int, 2) := by decide +kernel
theorem dX2_init_25 : decode cX2_init 25 = .ok (.putfield 18, 3) := by decide +kernel
theorem dX2_init_28 : decode cX2_init 28 = .ok (.return_, 1) := by decide +kernel
theorem dX2_isSet_0 : decode cX2_isSet 0 = .ok (.iload_n 1, 1) := by decide +kernel
theorem dX2_isSet_1 : decode cX2_isSet 1 = .ok (.aload_n 0, 1) := by decide +kernel
theorem dX2_isSet_2 : decode cX2_isSet 2 = .ok (.getfield 21, 3) := by decide +kernel
theorem dX2_isSet_5 : decode cX2_isSet 5 = .ok (.invokestatic 25, 3) := by decide +kernel
theorem dX2_isSet_8 : decode cX2_isSet 8 = .ok (.ireturn, 1) := by decide +kernel
theorem dX2_isOffered_0 : decode cX2_isOffered 0 = .ok (.aload_n 0, 1) := by decide +kernel
theorem dX2_isOffered_1 : decode cX2_isOffered 1 = .ok (.getfield 29, 3) := by decide +kernel
theorem dX2_isOffered_4 : decode cX2_isOffered 4 = .ok (.iload_n 1, 1) := by decide +kernel
theorem dX2_isOffered_5 : decode cX2_isOffered 5 = .ok (.invokestatic 32, 3) := by decide +kernel
theorem dX2_isOffered_8 : decode cX2_isOffered 8 = .ok (.ireturn, 1) := by decide +kernel
theorem dX2_isBought_0 : decode cX2_isBought 0 = .ok (.aload_n 0, 1) := by decide +kernel
theorem dX2_isBought_1 : decode cX2_isBought 1 = .ok (.getfield 35, 3) := by decide +kernel
theorem dX2_isBought_4 : decode cX2_isBought 4 = .ok (.iload_n 1, 1) := by decide +kernel
theorem dX2_isBought_5 : decode cX2_isBought 5 = .ok (.invokestatic 32, 3) := by decide +kernel
theorem dX2_isBought_8 : decode cX2_isBought 8 = .ok (.ireturn, 1) := by decide +kernel
theorem dX2_add_0 : decode cX2_add 0 = .ok (.aload_n 0, 1) := by decide +kernel
theorem dX2_add_1 : decode cX2_add 1 = .ok (.getfield 9, 3) := by decide +kernel
theorem dX2_add_4 : decode cX2_add 4 = .ok (.aload_n 0, 1) := by decide +kernel
theorem dX2_add_5 : decode cX2_add 5 = .ok (.getfield 21, 3) := by decide +kernel
theorem dX2_add_8 : decode cX2_add 8 = .ok (.iload_n 1, 1) := by decide +kernel
theorem dX2_add_9 : decode cX2_add 9 = .ok (.iastore, 1) := by decide +kernel
theorem dX2_add_10 : decode cX2_add 10 = .ok (.aload_n 0, 1) := by decide +kernel
theorem dX2_add_11 : decode cX2_add 11 = .ok (.getfield 15, 3) := by decide +kernel
theorem dX2_add_14 : decode cX2_add 14 = .ok (.aload_n 0, 1) := by decide +kernel
theorem dX2_add_15 : decode cX2_add 15 = .ok (.getfield 21, 3) := by decide +kernel
theorem dX2_add_18 : decode cX2_add 18 = .ok (.iload_n 2, 1) := by decide +kernel
theorem dX2_add_19 : decode cX2_add 19 = .ok (.iastore, 1) := by decide +kernel
theorem dX2_add_20 : decode cX2_add 20 = .ok (.aload_n 0, 1) := by decide +kernel
theorem dX2_add_21 : decode cX2_add 21 = .ok (.dup, 1) := by decide +kernel
theorem dX2_add_22 : decode cX2_add 22 = .ok (.getfield 29, 3) := by decide +kernel
theorem dX2_add_25 : decode cX2_add 25 = .ok (.iload_n 2, 1) := by decide +kernel
theorem dX2_add_26 : decode cX2_add 26 = .ok (.ior, 1) := by decide +kernel
theorem dX2_add_27 : decode cX2_add 27 = .ok (.putfield 29, 3) := by decide +kernel
theorem dX2_add_30 : decode cX2_add 30 = .ok (.aload_n 0, 1) := by decide +kernel
theorem dX2_add_31 : decode cX2_add 31 = .ok (.dup, 1) := by decide +kernel
theorem dX2_add_32 : decode cX2_add 32 = .ok (.getfield 21, 3) := by decide +kernel
theorem dX2_add_35 : decode cX2_add 35 = .ok (.iconst 1, 1) := by decide +kernel
theorem dX2_add_36 : decode cX2_add 36 = .ok (.iadd, 1) := by decide +kernel
theorem dX2_add_37 : decode cX2_add 37 = .ok (.putfield 21, 3) := by decide +kernel
theorem dX2_add_40 : decode cX2_add 40 = .ok (.aload_n 0, 1) := by decide +kernel
theorem dX2_add_41 : decode cX2_add 41 = .ok (.getfield 21, 3) := by decide +kernel
theorem dX2_add_44 : decode cX2_add 44 = .ok (.iconst 1, 1) := by decide +kernel
theorem dX2_add_45 : decode cX2_add 45 = .ok (.isub, 1) := by decide +kernel
theorem dX2_add_46 : decode cX2_add 46 = .ok (.ireturn, 1) := by decide +kernel
theorem dX2_meet_0 : decode cX2_meet 0 = .ok (.aload_n 0, 1) := by decide +kernel
theorem dX2_meet_1 : decode cX2_meet 1 = .ok (.dup, 1) := by decide +kernel
theorem dX2_meet_2 : decode cX2_meet 2 = .ok (.getfield 38, 3) := by decide +kernel
theorem dX2_meet_5 : decode cX2_meet 5 = .ok (.iconst 1, 1) := by decide +kernel
theorem dX2_meet_6 : decode cX2_meet 6 = .ok (.iload_n 1, 1) := by decide +kernel
theorem dX2_meet_7 : decode cX2_meet 7 = .ok (.ishl, 1) := by decide +kernel
theorem dX2_meet_8 : decode cX2_meet 8 = .ok (.ior, 1) := by decide +kernel
theorem dX2_meet_9 : decode cX2_meet 9 = .ok (.putfield 38, 3) := by decide +kernel
theorem dX2_meet_12 : decode cX2_meet 12 = .ok (.aload_n 0, 1) := by decide +kernel
theorem dX2_meet_13 : decode cX2_meet 13 = .ok (.getfield 41, 3) := by decide +kernel
theorem dX2_meet_16 : decode cX2_meet 16 = .ok (.iload_n 1, 1) := by decide +kernel
theorem dX2_meet_17 : decode cX2_meet 17 = .ok (.invokestatic 32, 3) := by decide +kernel
theorem dX2_meet_20 : decode cX2_meet 20 = .ok (.ifCond .eq 5, 3) := by decide +kernel
theorem dX2_meet_23 : decode cX2_meet 23 = .ok (.iconst 0, 1) := by decide +kernel
theorem dX2_meet_24 : decode cX2_meet 24 = .ok (.ireturn, 1) := by decide +kernel
theorem dX2_meet_25 : decode cX2_meet 25 = .ok (.aload_n 0, 1) := by decide +kernel
theorem dX2_meet_26 : decode cX2_meet 26 = .ok (.getfield 18, 3) := by decide +kernel
theorem dX2_meet_29 : decode cX2_meet 29 = .ok (.iload_n 1, 1) := by decide +kernel
theorem dX2_meet_30 : decode cX2_meet 30 = .ok (.dup2, 1) := by decide +kernel
theorem dX2_meet_31 : decode cX2_meet 31 = .ok (.iaload, 1) := by decide +kernel
theorem dX2_meet_32 : decode cX2_meet 32 = .ok (.aload_n 0, 1) := by decide +kernel
theorem dX2_meet_33 : decode cX2_meet 33 = .ok (.iload_n 1, 1) := by decide +kernel
theorem dX2_meet_34 : decode cX2_meet 34 = .ok (.invokevirtual 44, 3) := by decide +kernel
theorem dX2_meet_37 : decode cX2_meet 37 = .ok (.iadd, 1) := by decide +kernel
theorem dX2_meet_38 : decode cX2_meet 38 = .ok (.iastore, 1) := by decide +kernel
theorem dX2_meet_39 : decode cX2_meet 39 = .ok (.aload_n 0, 1) := by decide +kernel
theorem dX2_meet_40 : decode cX2_meet 40 = .ok (.iload_n 1, 1) := by decide +kernel
theorem dX2_meet_41 : decode cX2_meet 41 = .ok (.invokevirtual 48, 3) := by decide +kernel
theorem dX2_meet_44 : decode cX2_meet 44 = .ok (.istore_n 2, 1) := by decide +kernel
theorem dX2_meet_45 : decode cX2_meet 45 = .ok (.aload_n 0, 1) := by decide +kernel
theorem dX2_meet_46 : decode cX2_meet 46 = .ok (.dup, 1) := by decide +kernel
theorem dX2_meet_47 : decode cX2_meet 47 = .ok (.getfield 51, 3) := by decide +kernel
theorem dX2_meet_50 : decode cX2_meet 50 = .ok (.iload_n 2, 1) := by decide +kernel
theorem dX2_meet_51 : decode cX2_meet 51 = .ok (.iadd, 1) := by decide +kernel
theorem dX2_meet_52 : decode cX2_meet 52 = .ok (.putfield 51, 3) := by decide +kernel
theorem dX2_meet_55 : decode cX2_meet 55 = .ok (.iload_n 2, 1) := by decide +kernel
theorem dX2_meet_56 : decode cX2_meet 56 = .ok (.ireturn, 1) := by decide +kernel
theorem dX2_leastGap_0 : decode cX2_leastGap 0 = .ok (.sipush 1000, 3) := by decide +kernel
theorem dX2_leastGap_3 : decode cX2_leastGap 3 = .ok (.istore_n 2, 1) := by decide +kernel
theorem dX2_leastGap_4 : decode cX2_leastGap 4 = .ok (.iconst 0, 1) := by decide +kernel
theorem dX2_leastGap_5 : decode cX2_leastGap 5 = .ok (.istore_n 3, 1) := by decide +kernel
theorem dX2_leastGap_6 : decode cX2_leastGap 6 = .ok (.iload_n 3, 1) := by decide +kernel
theorem dX2_leastGap_7 : decode cX2_leastGap 7 = .ok (.aload_n 0, 1) := by decide +kernel
theorem dX2_leastGap_8 : decode cX2_leastGap 8 = .ok (.getfield 21, 3) := by decide +kernel
theorem dX2_leastGap_11 : decode cX2_leastGap 11 = .ok (.if_icmp .ge 39, 3) := by decide +kernel
theorem dX2_leastGap_14 : decode cX2_leastGap 14 = .ok (.aload_n 0, 1) := by decide +kernel
theorem dX2_leastGap_15 : decode cX2_leastGap 15 = .ok (.getfield 15, 3) := by decide +kernel
theorem dX2_leastGap_18 : decode cX2_leastGap 18 = .ok (.iload_n 3, 1) := by decide +kernel
theorem dX2_leastGap_19 : decode cX2_leastGap 19 = .ok (.iaload, 1) := by decide +kernel
theorem dX2_leastGap_20 : decode cX2_leastGap 20 = .ok (.iload_n 1, 1) := by decide +kernel
theorem dX2_leastGap_21 : decode cX2_leastGap 21 = .ok (.invokestatic 32, 3) := by decide +kernel
theorem dX2_leastGap_24 : decode cX2_leastGap 24 = .ok (.ifCond .eq 20, 3) := by decide +kernel
theorem dX2_leastGap_27 : decode cX2_leastGap 27 = .ok (.iload_n 2, 1) := by decide +kernel
theorem dX2_leastGap_28 : decode cX2_leastGap 28 = .ok (.aload_n 0, 1) := by decide +kernel
theorem dX2_leastGap_29 : decode cX2_leastGap 29 = .ok (.getfield 9, 3) := by decide +kernel
theorem dX2_leastGap_32 : decode cX2_leastGap 32 = .ok (.iload_n 3, 1) := by decide +kernel
theorem dX2_leastGap_33 : decode cX2_leastGap 33 = .ok (.iaload, 1) := by decide +kernel
theorem dX2_leastGap_34 : decode cX2_leastGap 34 = .ok (.aload_n 0, 1) := by decide +kernel
theorem dX2_leastGap_35 : decode cX2_leastGap 35 = .ok (.iload_n 3, 1) := by decide +kernel
theorem dX2_leastGap_36 : decode cX2_leastGap 36 = .ok (.invokevirtual 54, 3) := by decide +kernel
theorem dX2_leastGap_39 : decode cX2_leastGap 39 = .ok (.isub, 1) := by decide +kernel
theorem dX2_leastGap_40 : decode cX2_leastGap 40 = .ok (.invokestatic 57, 3) := by decide +kernel
theorem dX2_leastGap_43 : decode cX2_leastGap 43 = .ok (.istore_n 2, 1) := by decide +kernel
theorem dX2_leastGap_44 : decode cX2_leastGap 44 = .ok (.iinc 3 1, 3) := by decide +kernel
theorem dX2_leastGap_47 : decode cX2_leastGap 47 = .ok (.goto (-41), 3) := by decide +kernel
theorem dX2_leastGap_50 : decode cX2_leastGap 50 = .ok (.iload_n 2, 1) := by decide +kernel
theorem dX2_leastGap_51 : decode cX2_leastGap 51 = .ok (.ireturn, 1) := by decide +kernel
theorem dX2_buyTight_0 : decode cX2_buyTight 0 = .ok (.iconst 0, 1) := by decide +kernel
theorem dX2_buyTight_1 : decode cX2_buyTight 1 = .ok (.istore_n 2, 1) := by decide +kernel
theorem dX2_buyTight_2 : decode cX2_buyTight 2 = .ok (.iconst 0, 1) := by decide +kernel
theorem dX2_buyTight_3 : decode cX2_buyTight 3 = .ok (.istore_n 3, 1) := by decide +kernel
theorem dX2_buyTight_4 : decode cX2_buyTight 4 = .ok (.iload_n 3, 1) := by decide +kernel
theorem dX2_buyTight_5 : decode cX2_buyTight 5 = .ok (.aload_n 0, 1) := by decide +kernel
theorem dX2_buyTight_6 : decode cX2_buyTight 6 = .ok (.getfield 21, 3) := by decide +kernel
theorem dX2_buyTight_9 : decode cX2_buyTight 9 = .ok (.if_icmp .ge 72, 3) := by decide +kernel
theorem dX2_buyTight_12 : decode cX2_buyTight 12 = .ok (.aload_n 0, 1) := by decide +kernel
theorem dX2_buyTight_13 : decode cX2_buyTight 13 = .ok (.getfield 15, 3) := by decide +kernel
theorem dX2_buyTight_16 : decode cX2_buyTight 16 = .ok (.iload_n 3, 1) := by decide +kernel
theorem dX2_buyTight_17 : decode cX2_buyTight 17 = .ok (.iaload, 1) := by decide +kernel
theorem dX2_buyTight_18 : decode cX2_buyTight 18 = .ok (.iload_n 1, 1) := by decide +kernel
theorem dX2_buyTight_19 : decode cX2_buyTight 19 = .ok (.invokestatic 32, 3) := by decide +kernel
theorem dX2_buyTight_22 : decode cX2_buyTight 22 = .ok (.ifCond .eq 53, 3) := by decide +kernel
theorem dX2_buyTight_25 : decode cX2_buyTight 25 = .ok (.aload_n 0, 1) := by decide +kernel
theorem dX2_buyTight_26 : decode cX2_buyTight 26 = .ok (.iload_n 3, 1) := by decide +kernel
theorem dX2_buyTight_27 : decode cX2_buyTight 27 = .ok (.invokevirtual 54, 3) := by decide +kernel
theorem dX2_buyTight_30 : decode cX2_buyTight 30 = .ok (.aload_n 0, 1) := by decide +kernel
theorem dX2_buyTight_31 : decode cX2_buyTight 31 = .ok (.getfield 9, 3) := by decide +kernel
theorem dX2_buyTight_34 : decode cX2_buyTight 34 = .ok (.iload_n 3, 1) := by decide +kernel
theorem dX2_buyTight_35 : decode cX2_buyTight 35 = .ok (.iaload, 1) := by decide +kernel
theorem dX2_buyTight_36 : decode cX2_buyTight 36 = .ok (.if_icmp .ne 39, 3) := by decide +kernel
theorem dX2_buyTight_39 : decode cX2_buyTight 39 = .ok (.aload_n 0, 1) := by decide +kernel
theorem dX2_buyTight_40 : decode cX2_buyTight 40 = .ok (.dup, 1) := by decide +kernel
theorem dX2_buyTight_41 : decode cX2_buyTight 41 = .ok (.getfield 35, 3) := by decide +kernel
theorem dX2_buyTight_44 : decode cX2_buyTight 44 = .ok (.iconst 1, 1) := by decide +kernel
theorem dX2_buyTight_45 : decode cX2_buyTight 45 = .ok (.iload_n 3, 1) := by decide +kernel
theorem dX2_buyTight_46 : decode cX2_buyTight 46 = .ok (.ishl, 1) := by decide +kernel
theorem dX2_buyTight_47 : decode cX2_buyTight 47 = .ok (.ior, 1) := by decide +kernel
theorem dX2_buyTight_48 : decode cX2_buyTight 48 = .ok (.putfield 35, 3) := by decide +kernel
theorem dX2_buyTight_51 : decode cX2_buyTight 51 = .ok (.aload_n 0, 1) := by decide +kernel
theorem dX2_buyTight_52 : decode cX2_buyTight 52 = .ok (.dup, 1) := by decide +kernel
theorem dX2_buyTight_53 : decode cX2_buyTight 53 = .ok (.getfield 41, 3) := by decide +kernel
theorem dX2_buyTight_56 : decode cX2_buyTight 56 = .ok (.aload_n 0, 1) := by decide +kernel
theorem dX2_buyTight_57 : decode cX2_buyTight 57 = .ok (.getfield 15, 3) := by decide +kernel
theorem dX2_buyTight_60 : decode cX2_buyTight 60 = .ok (.iload_n 3, 1) := by decide +kernel
theorem dX2_buyTight_61 : decode cX2_buyTight 61 = .ok (.iaload, 1) := by decide +kernel
theorem dX2_buyTight_62 : decode cX2_buyTight 62 = .ok (.ior, 1) := by decide +kernel
theorem dX2_buyTight_63 : decode cX2_buyTight 63 = .ok (.putfield 41, 3) := by decide +kernel
theorem dX2_buyTight_66 : decode cX2_buyTight 66 = .ok (.iload_n 2, 1) := by decide +kernel
theorem dX2_buyTight_67 : decode cX2_buyTight 67 = .ok (.aload_n 0, 1) := by decide +kernel
theorem dX2_buyTight_68 : decode cX2_buyTight 68 = .ok (.getfield 9, 3) := by decide +kernel
theorem dX2_buyTight_71 : decode cX2_buyTight 71 = .ok (.iload_n 3, 1) := by decide +kernel
theorem dX2_buyTight_72 : decode cX2_buyTight 72 = .ok (.iaload, 1) := by decide +kernel
theorem dX2_buyTight_73 : decode cX2_buyTight 73 = .ok (.iadd, 1) := by decide +kernel
theorem dX2_buyTight_74 : decode cX2_buyTight 74 = .ok (.istore_n 2, 1) := by decide +kernel
theorem dX2_buyTight_75 : decode cX2_buyTight 75 = .ok (.iinc 3 1, 3) := by decide +kernel
theorem dX2_buyTight_78 : decode cX2_buyTight 78 = .ok (.goto (-74), 3) := by decide +kernel
theorem dX2_buyTight_81 : decode cX2_buyTight 81 = .ok (.iload_n 2, 1) := by decide +kernel
theorem dX2_buyTight_82 : decode cX2_buyTight 82 = .ok (.ireturn, 1) := by decide +kernel
theorem dX2_filled_0 : decode cX2_filled 0 = .ok (.aload_n 0, 1) := by decide +kernel
theorem dX2_filled_1 : decode cX2_filled 1 = .ok (.aload_n 0, 1) := by decide +kernel
theorem dX2_filled_2 : decode cX2_filled 2 = .ok (.getfield 15, 3) := by decide +kernel
theorem dX2_filled_5 : decode cX2_filled 5 = .ok (.iload_n 1, 1) := by decide +kernel
theorem dX2_filled_6 : decode cX2_filled 6 = .ok (.iaload, 1) := by decide +kernel
theorem dX2_filled_7 : decode cX2_filled 7 = .ok (.invokevirtual 63, 3) := by decide +kernel
theorem dX2_filled_10 : decode cX2_filled 10 = .ok (.ireturn, 1) := by decide +kernel
theorem dX2_pricesAdded_0 : decode cX2_pricesAdded 0 = .ok (.aload_n 0, 1) := by decide +kernel
theorem dX2_pricesAdded_1 : decode cX2_pricesAdded 1 = .ok (.sipush 4095, 3) := by decide +kernel
theorem dX2_pricesAdded_4 : decode cX2_pricesAdded 4 = .ok (.invokevirtual 63, 3) := by decide +kernel
theorem dX2_pricesAdded_7 : decode cX2_pricesAdded 7 = .ok (.ireturn, 1) := by decide +kernel
theorem dX2_pricesOf_0 : decode cX2_pricesOf 0 = .ok (.iconst 0, 1) := by decide +kernel
theorem dX2_pricesOf_1 : decode cX2_pricesOf 1 = .ok (.istore_n 2, 1) := by decide +kernel
theorem dX2_pricesOf_2 : decode cX2_pricesOf 2 = .ok (.iconst 0, 1) := by decide +kernel
theorem dX2_pricesOf_3 : decode cX2_pricesOf 3 = .ok (.istore_n 3, 1) := by decide +kernel
theorem dX2_pricesOf_4 : decode cX2_pricesOf 4 = .ok (.iload_n 3, 1) := by decide +kernel
theorem dX2_pricesOf_5 : decode cX2_pricesOf 5 = .ok (.bipush 12, 2) := by decide +kernel
theorem dX2_pricesOf_7 : decode cX2_pricesOf 7 = .ok (.if_icmp .ge 26, 3) := by decide +kernel
theorem dX2_pricesOf_10 : decode cX2_pricesOf 10 = .ok (.iload_n 1, 1) := by decide +kernel
theorem dX2_pricesOf_11 : decode cX2_pricesOf 11 = .ok (.iload_n 3, 1) := by decide +kernel
theorem dX2_pricesOf_12 : decode cX2_pricesOf 12 = .ok (.invokestatic 32, 3) := by decide +kernel
theorem dX2_pricesOf_15 : decode cX2_pricesOf 15 = .ok (.ifCond .eq 12, 3) := by decide +kernel
theorem dX2_pricesOf_18 : decode cX2_pricesOf 18 = .ok (.iload_n 2, 1) := by decide +kernel
theorem dX2_pricesOf_19 : decode cX2_pricesOf 19 = .ok (.aload_n 0, 1) := by decide +kernel
theorem dX2_pricesOf_20 : decode cX2_pricesOf 20 = .ok (.getfield 18, 3) := by decide +kernel
theorem dX2_pricesOf_23 : decode cX2_pricesOf 23 = .ok (.iload_n 3, 1) := by decide +kernel
theorem dX2_pricesOf_24 : decode cX2_pricesOf 24 = .ok (.iaload, 1) := by decide +kernel
theorem dX2_pricesOf_25 : decode cX2_pricesOf 25 = .ok (.iadd, 1) := by decide +kernel
theorem dX2_pricesOf_26 : decode cX2_pricesOf 26 = .ok (.istore_n 2, 1) := by decide +kernel
theorem dX2_pricesOf_27 : decode cX2_pricesOf 27 = .ok (.iinc 3 1, 3) := by decide +kernel
theorem dX2_pricesOf_30 : decode cX2_pricesOf 30 = .ok (.goto (-26), 3) := by decide +kernel
theorem dX2_pricesOf_33 : decode cX2_pricesOf 33 = .ok (.iload_n 2, 1) := by decide +kernel
theorem dX2_pricesOf_34 : decode cX2_pricesOf 34 = .ok (.ireturn, 1) := by decide +kernel
theorem dX2_least_0 : decode cX2_least 0 = .ok (.aload_n 0, 1) := by decide +kernel
theorem dX2_least_1 : decode cX2_least 1 = .ok (.iconst 0, 1) := by decide +kernel
theorem dX2_least_2 : decode cX2_least 2 = .ok (.aload_n 0, 1) := by decide +kernel
theorem dX2_least_3 : decode cX2_least 3 = .ok (.getfield 38, 3) := by decide +kernel
theorem dX2_least_6 : decode cX2_least 6 = .ok (.invokestatic 66, 3) := by decide +kernel
theorem dX2_least_9 : decode cX2_least 9 = .ok (.ireturn, 1) := by decide +kernel
theorem dX2_leastFrom_0 : decode cX2_leastFrom 0 = .ok (.iload_n 2, 1) := by decide +kernel
theorem dX2_leastFrom_1 : decode cX2_leastFrom 1 = .ok (.ifCond .ne 5, 3) := by decide +kernel
theorem dX2_leastFrom_4 : decode cX2_leastFrom 4 = .ok (.iconst 0, 1) := by decide +kernel
theorem dX2_leastFrom_5 : decode cX2_leastFrom 5 = .ok (.ireturn, 1) := by decide +kernel
theorem dX2_leastFrom_6 : decode cX2_leastFrom 6 = .ok (.iload_n 1, 1) := by decide +kernel
theorem dX2_leastFrom_7 : decode cX2_leastFrom 7 = .ok (.aload_n 0, 1) := by decide +kernel
theorem dX2_leastFrom_8 : decode cX2_leastFrom 8 = .ok (.getfield 21, 3) := by decide +kernel
theorem dX2_leastFrom_11 : decode cX2_leastFrom 11 = .ok (.if_icmp .lt 6, 3) := by decide +kernel
theorem dX2_leastFrom_14 : decode cX2_leastFrom 14 = .ok (.ldc 70, 2) := by decide +kernel
theorem dX2_leastFrom_16 : decode cX2_leastFrom 16 = .ok (.ireturn, 1) := by decide +kernel
theorem dX2_leastFrom_17 : decode cX2_leastFrom 17 = .ok (.aload_n 0, 1) := by decide +kernel
theorem dX2_leastFrom_18 : decode cX2_leastFrom 18 = .ok (.iload_n 1, 1) := by decide +kernel
theorem dX2_leastFrom_19 : decode cX2_leastFrom 19 = .ok (.iconst 1, 1) := by decide +kernel
theorem dX2_leastFrom_20 : decode cX2_leastFrom 20 = .ok (.iadd, 1) := by decide +kernel
theorem dX2_leastFrom_21 : decode cX2_leastFrom 21 = .ok (.iload_n 2, 1) := by decide +kernel
theorem dX2_leastFrom_22 : decode cX2_leastFrom 22 = .ok (.invokestatic 66, 3) := by decide +kernel
theorem dX2_leastFrom_25 : decode cX2_leastFrom 25 = .ok (.istore_n 3, 1) := by decide +kernel
theorem dX2_leastFrom_26 : decode cX2_leastFrom 26 = .ok (.aload_n 0, 1) := by decide +kernel
theorem dX2_leastFrom_27 : decode cX2_leastFrom 27 = .ok (.getfield 15, 3) := by decide +kernel
theorem dX2_leastFrom_30 : decode cX2_leastFrom 30 = .ok (.iload_n 1, 1) := by decide +kernel
theorem dX2_leastFrom_31 : decode cX2_leastFrom 31 = .ok (.iaload, 1) := by decide +kernel
theorem dX2_leastFrom_32 : decode cX2_leastFrom 32 = .ok (.iload_n 2, 1) := by decide +kernel
theorem dX2_leastFrom_33 : decode cX2_leastFrom 33 = .ok (.iand, 1) := by decide +kernel
theorem dX2_leastFrom_34 : decode cX2_leastFrom 34 = .ok (.ifCond .ne 5, 3) := by decide +kernel
theorem dX2_leastFrom_37 : decode cX2_leastFrom 37 = .ok (.iload_n 3, 1) := by decide +kernel
theorem dX2_leastFrom_38 : decode cX2_leastFrom 38 = .ok (.ireturn, 1) := by decide +kernel
theorem dX2_leastFrom_39 : decode cX2_leastFrom 39 = .ok (.iload_n 3, 1) := by decide +kernel
theorem dX2_leastFrom_40 : decode cX2_leastFrom 40 = .ok (.aload_n 0, 1) := by decide +kernel
theorem dX2_leastFrom_41 : decode cX2_leastFrom 41 = .ok (.getfield 9, 3) := by decide +kernel
theorem dX2_leastFrom_44 : decode cX2_leastFrom 44 = .ok (.iload_n 1, 1) := by decide +kernel
theorem dX2_leastFrom_45 : decode cX2_leastFrom 45 = .ok (.iaload, 1) := by decide +kernel
theorem dX2_leastFrom_46 : decode cX2_leastFrom 46 = .ok (.aload_n 0, 1) := by decide +kernel
theorem dX2_leastFrom_47 : decode cX2_leastFrom 47 = .ok (.iload_n 1, 1) := by decide +kernel
theorem dX2_leastFrom_48 : decode cX2_leastFrom 48 = .ok (.iconst 1, 1) := by decide +kernel
theorem dX2_leastFrom_49 : decode cX2_leastFrom 49 = .ok (.iadd, 1) := by decide +kernel
theorem dX2_leastFrom_50 : decode cX2_leastFrom 50 = .ok (.iload_n 2, 1) := by decide +kernel
theorem dX2_leastFrom_51 : decode cX2_leastFrom 51 = .ok (.aload_n 0, 1) := by decide +kernel
theorem dX2_leastFrom_52 : decode cX2_leastFrom 52 = .ok (.getfield 15, 3) := by decide +kernel
theorem dX2_leastFrom_55 : decode cX2_leastFrom 55 = .ok (.iload_n 1, 1) := by decide +kernel
theorem dX2_leastFrom_56 : decode cX2_leastFrom 56 = .ok (.iaload, 1) := by decide +kernel
theorem dX2_leastFrom_57 : decode cX2_leastFrom 57 = .ok (.iconst (-1), 1) := by decide +kernel
theorem dX2_leastFrom_58 : decode cX2_leastFrom 58 = .ok (.ixor, 1) := by decide +kernel
theorem dX2_leastFrom_59 : decode cX2_leastFrom 59 = .ok (.iand, 1) := by decide +kernel
theorem dX2_leastFrom_60 : decode cX2_leastFrom 60 = .ok (.invokestatic 66, 3) := by decide +kernel
theorem dX2_leastFrom_63 : decode cX2_leastFrom 63 = .ok (.iadd, 1) := by decide +kernel
theorem dX2_leastFrom_64 : decode cX2_leastFrom 64 = .ok (.invokestatic 57, 3) := by decide +kernel
theorem dX2_leastFrom_67 : decode cX2_leastFrom 67 = .ok (.ireturn, 1) := by decide +kernel
theorem dX2_share_0 : decode cX2_share 0 = .ok (.iconst 0, 1) := by decide +kernel
theorem dX2_share_1 : decode cX2_share 1 = .ok (.istore_n 1, 1) := by decide +kernel
theorem dX2_share_2 : decode cX2_share 2 = .ok (.iconst 0, 1) := by decide +kernel
theorem dX2_share_3 : decode cX2_share 3 = .ok (.istore_n 2, 1) := by decide +kernel
theorem dX2_share_4 : decode cX2_share 4 = .ok (.iload_n 2, 1) := by decide +kernel
theorem dX2_share_5 : decode cX2_share 5 = .ok (.bipush 12, 2) := by decide +kernel
theorem dX2_share_7 : decode cX2_share 7 = .ok (.if_icmp .ge 30, 3) := by decide +kernel
theorem dX2_share_10 : decode cX2_share 10 = .ok (.aload_n 0, 1) := by decide +kernel
theorem dX2_share_11 : decode cX2_share 11 = .ok (.getfield 38, 3) := by decide +kernel
theorem dX2_share_14 : decode cX2_share 14 = .ok (.iload_n 2, 1) := by decide +kernel
theorem dX2_share_15 : decode cX2_share 15 = .ok (.invokestatic 32, 3) := by decide +kernel
theorem dX2_share_18 : decode cX2_share 18 = .ok (.ifCond .eq 13, 3) := by decide +kernel
theorem dX2_share_21 : decode cX2_share 21 = .ok (.iload_n 1, 1) := by decide +kernel
theorem dX2_share_22 : decode cX2_share 22 = .ok (.aload_n 0, 1) := by decide +kernel
theorem dX2_share_23 : decode cX2_share 23 = .ok (.iload_n 2, 1) := by decide +kernel
theorem dX2_share_24 : decode cX2_share 24 = .ok (.invokevirtual 71, 3) := by decide +kernel
theorem dX2_share_27 : decode cX2_share 27 = .ok (.invokestatic 74, 3) := by decide +kernel
theorem dX2_share_30 : decode cX2_share 30 = .ok (.istore_n 1, 1) := by decide +kernel
theorem dX2_share_31 : decode cX2_share 31 = .ok (.iinc 2 1, 3) := by decide +kernel
theorem dX2_share_34 : decode cX2_share 34 = .ok (.goto (-30), 3) := by decide +kernel
theorem dX2_share_37 : decode cX2_share 37 = .ok (.iload_n 1, 1) := by decide +kernel
theorem dX2_share_38 : decode cX2_share 38 = .ok (.ireturn, 1) := by decide +kernel
theorem dX2_havers_0 : decode cX2_havers 0 = .ok (.iconst 0, 1) := by decide +kernel
theorem dX2_havers_1 : decode cX2_havers 1 = .ok (.istore_n 2, 1) := by decide +kernel
theorem dX2_havers_2 : decode cX2_havers 2 = .ok (.iconst 0, 1) := by decide +kernel
theorem dX2_havers_3 : decode cX2_havers 3 = .ok (.istore_n 3, 1) := by decide +kernel
theorem dX2_havers_4 : decode cX2_havers 4 = .ok (.iload_n 3, 1) := by decide +kernel
theorem dX2_havers_5 : decode cX2_havers 5 = .ok (.aload_n 0, 1) := by decide +kernel
theorem dX2_havers_6 : decode cX2_havers 6 = .ok (.getfield 21, 3) := by decide +kernel
theorem dX2_havers_9 : decode cX2_havers 9 = .ok (.if_icmp .ge 25, 3) := by decide +kernel
theorem dX2_havers_12 : decode cX2_havers 12 = .ok (.aload_n 0, 1) := by decide +kernel
theorem dX2_havers_13 : decode cX2_havers 13 = .ok (.getfield 15, 3) := by decide +kernel
theorem dX2_havers_16 : decode cX2_havers 16 = .ok (.iload_n 3, 1) := by decide +kernel
theorem dX2_havers_17 : decode cX2_havers 17 = .ok (.iaload, 1) := by decide +kernel
theorem dX2_havers_18 : decode cX2_havers 18 = .ok (.iload_n 1, 1) := by decide +kernel
theorem dX2_havers_19 : decode cX2_havers 19 = .ok (.invokestatic 32, 3) := by decide +kernel
theorem dX2_havers_22 : decode cX2_havers 22 = .ok (.ifCond .eq 6, 3) := by decide +kernel
theorem dX2_havers_25 : decode cX2_havers 25 = .ok (.iinc 2 1, 3) := by decide +kernel
theorem dX2_havers_28 : decode cX2_havers 28 = .ok (.iinc 3 1, 3) := by decide +kernel
theorem dX2_havers_31 : decode cX2_havers 31 = .ok (.goto (-27), 3) := by decide +kernel
theorem dX2_havers_34 : decode cX2_havers 34 = .ok (.iload_n 2, 1) := by decide +kernel
theorem dX2_havers_35 : decode cX2_havers 35 = .ok (.ireturn, 1) := by decide +kernel
theorem dX2_kindOf_0 : decode cX2_kindOf 0 = .ok (.aload_n 0, 1) := by decide +kernel
theorem dX2_kindOf_1 : decode cX2_kindOf 1 = .ok (.iload_n 1, 1) := by decide +kernel
theorem dX2_kindOf_2 : decode cX2_kindOf 2 = .ok (.invokevirtual 77, 3) := by decide +kernel
theorem dX2_kindOf_5 : decode cX2_kindOf 5 = .ok (.ifCond .eq 5, 3) := by decide +kernel
theorem dX2_kindOf_8 : decode cX2_kindOf 8 = .ok (.iconst 3, 1) := by decide +kernel
theorem dX2_kindOf_9 : decode cX2_kindOf 9 = .ok (.ireturn, 1) := by decide +kernel
theorem dX2_kindOf_10 : decode cX2_kindOf 10 = .ok (.iconst 2, 1) := by decide +kernel
theorem dX2_kindOf_11 : decode cX2_kindOf 11 = .ok (.aload_n 0, 1) := by decide +kernel
theorem dX2_kindOf_12 : decode cX2_kindOf 12 = .ok (.iload_n 1, 1) := by decide +kernel
theorem dX2_kindOf_13 : decode cX2_kindOf 13 = .ok (.invokevirtual 54, 3) := by decide +kernel
theorem dX2_kindOf_16 : decode cX2_kindOf 16 = .ok (.imul, 1) := by decide +kernel
theorem dX2_kindOf_17 : decode cX2_kindOf 17 = .ok (.aload_n 0, 1) := by decide +kernel
theorem dX2_kindOf_18 : decode cX2_kindOf 18 = .ok (.getfield 9, 3) := by decide +kernel
theorem dX2_kindOf_21 : decode cX2_kindOf 21 = .ok (.iload_n 1, 1) := by decide +kernel
theorem dX2_kindOf_22 : decode cX2_kindOf 22 = .ok (.iaload, 1) := by decide +kernel
theorem dX2_kindOf_23 : decode cX2_kindOf 23 = .ok (.if_icmp .lt 7, 3) := by decide +kernel
theorem dX2_kindOf_26 : decode cX2_kindOf 26 = .ok (.iconst 2, 1) := by decide +kernel
theorem dX2_kindOf_27 : decode cX2_kindOf 27 = .ok (.goto 4, 3) := by decide +kernel
theorem dX2_kindOf_30 : decode cX2_kindOf 30 = .ok (.iconst 1, 1) := by decide +kernel
theorem dX2_kindOf_31 : decode cX2_kindOf 31 = .ok (.ireturn, 1) := by decide +kernel
theorem dX2_isOfKind_0 : decode cX2_isOfKind 0 = .ok (.aload_n 0, 1) := by decide +kernel
theorem dX2_isOfKind_1 : decode cX2_isOfKind 1 = .ok (.iload_n 1, 1) := by decide +kernel
theorem dX2_isOfKind_2 : decode cX2_isOfKind 2 = .ok (.invokevirtual 81, 3) := by decide +kernel
theorem dX2_isOfKind_5 : decode cX2_isOfKind 5 = .ok (.istore_n 3, 1) := by decide +kernel
theorem dX2_isOfKind_6 : decode cX2_isOfKind 6 = .ok (.iload_n 2, 1) := by decide +kernel
theorem dX2_isOfKind_7 : decode cX2_isOfKind 7 = .ok (.ifCond .eq 18, 3) := by decide +kernel
theorem dX2_isOfKind_10 : decode cX2_isOfKind 10 = .ok (.iload_n 2, 1) := by decide +kernel
theorem dX2_isOfKind_11 : decode cX2_isOfKind 11 = .ok (.iload_n 3, 1) := by decide +kernel
theorem dX2_isOfKind_12 : decode cX2_isOfKind 12 = .ok (.if_icmp .eq 13, 3) := by decide +kernel
theorem dX2_isOfKind_15 : decode cX2_isOfKind 15 = .ok (.iload_n 2, 1) := by decide +kernel
theorem dX2_isOfKind_16 : decode cX2_isOfKind 16 = .ok (.iconst 1, 1) := by decide +kernel
theorem dX2_isOfKind_17 : decode cX2_isOfKind 17 = .ok (.if_icmp .ne 12, 3) := by decide +kernel
theorem dX2_isOfKind_20 : decode cX2_isOfKind 20 = .ok (.iload_n 3, 1) := by decide +kernel
theorem dX2_isOfKind_21 : decode cX2_isOfKind 21 = .ok (.iconst 2, 1) := by decide +kernel
theorem dX2_isOfKind_22 : decode cX2_isOfKind 22 = .ok (.if_icmp .ne 7, 3) := by decide +kernel
theorem dX2_isOfKind_25 : decode cX2_isOfKind 25 = .ok (.iconst 1, 1) := by decide +kernel
theorem dX2_isOfKind_26 : decode cX2_isOfKind 26 = .ok (.goto 4, 3) := by decide +kernel
theorem dX2_isOfKind_29 : decode cX2_isOfKind 29 = .ok (.iconst 0, 1) := by decide +kernel
theorem dX2_isOfKind_30 : decode cX2_isOfKind 30 = .ok (.ireturn, 1) := by decide +kernel
theorem dX2_nears_0 : decode cX2_nears 0 = .ok (.iconst 0, 1) := by decide +kernel
theorem dX2_nears_1 : decode cX2_nears 1 = .ok (.istore_n 1, 1) := by decide +kernel
theorem dX2_nears_2 : decode cX2_nears 2 = .ok (.iconst 0, 1) := by decide +kernel
theorem dX2_nears_3 : decode cX2_nears 3 = .ok (.istore_n 2, 1) := by decide +kernel
theorem dX2_nears_4 : decode cX2_nears 4 = .ok (.iload_n 2, 1) := by decide +kernel
theorem dX2_nears_5 : decode cX2_nears 5 = .ok (.aload_n 0, 1) := by decide +kernel
theorem dX2_nears_6 : decode cX2_nears 6 = .ok (.getfield 21, 3) := by decide +kernel
theorem dX2_nears_9 : decode cX2_nears 9 = .ok (.if_icmp .ge 21, 3) := by decide +kernel
theorem dX2_nears_12 : decode cX2_nears 12 = .ok (.aload_n 0, 1) := by decide +kernel
theorem dX2_nears_13 : decode cX2_nears 13 = .ok (.iload_n 2, 1) := by decide +kernel
theorem dX2_nears_14 : decode cX2_nears 14 = .ok (.invokevirtual 81, 3) := by decide +kernel
theorem dX2_nears_17 : decode cX2_nears 17 = .ok (.iconst 2, 1) := by decide +kernel
theorem dX2_nears_18 : decode cX2_nears 18 = .ok (.if_icmp .ne 6, 3) := by decide +kernel
theorem dX2_nears_21 : decode cX2_nears 21 = .ok (.iinc 1 1, 3) := by decide +kernel
theorem dX2_nears_24 : decode cX2_nears 24 = .ok (.iinc 2 1, 3) := by decide +kernel
theorem dX2_nears_27 : decode cX2_nears 27 = .ok (.goto (-23), 3) := by decide +kernel
theorem dX2_nears_30 : decode cX2_nears 30 = .ok (.iload_n 1, 1) := by decide +kernel
theorem dX2_nears_31 : decode cX2_nears 31 = .ok (.ireturn, 1) := by decide +kernel
theorem dX3_init_0 : decode cX3_init 0 = .ok (.aload_n 0, 1) := by decide +kernel
theorem dX3_init_1 : decode cX3_init 1 = .ok (.invokespecial 3, 3) := by decide +kernel
theorem dX3_init_4 : decode cX3_init 4 = .ok (.aload_n 0, 1) := by decide +kernel
theorem dX3_init_5 : decode cX3_init 5 = .ok (.bipush 8, 2) := by decide +kernel
theorem dX3_init_7 : decode cX3_init 7 = .ok (.bipush 60, 2) := by decide +kernel
theorem dX3_init_9 : decode cX3_init 9 = .ok (.multianewarray 9 2, 4) := by decide +kernel
theorem dX3_init_13 : decode cX3_init 13 = .ok (.putfield 11, 3) := by decide +kernel
theorem dX3_init_16 : decode cX3_init 16 = .ok (.aload_n 0, 1) := by decide +kernel
theorem dX3_init_17 : decode cX3_init 17 = .ok (.bipush 8, 2) := by decide +kernel
theorem dX3_init_19 : decode cX3_init 19 = .ok (.newarray .int, 2) := by decide +kernel
theorem dX3_init_21 : decode cX3_init 21 = .ok (.putfield 16, 3) := by decide +kernel
theorem dX3_init_24 : decode cX3_init 24 = .ok (.aload_n 0, 1) := by decide +kernel
theorem dX3_init_25 : decode cX3_init 25 = .ok (.bipush 8, 2) := by decide +kernel
theorem dX3_init_27 : decode cX3_init 27 = .ok (.newarray .int, 2) := by decide +kernel
theorem dX3_init_29 : decode cX3_init 29 = .ok (.putfield 20, 3) := by decide +kernel
theorem dX3_init_32 : decode cX3_init 32 = .ok (.iconst 0, 1) := by decide +kernel
theorem dX3_init_33 : decode cX3_init 33 = .ok (.istore_n 1, 1) := by decide +kernel
theorem dX3_init_34 : decode cX3_init 34 = .ok (.iload_n 1, 1) := by decide +kernel
theorem dX3_init_35 : decode cX3_init 35 = .ok (.bipush 8, 2) := by decide +kernel
theorem dX3_init_37 : decode cX3_init 37 = .ok (.if_icmp .ge 16, 3) := by decide +kernel
theorem dX3_init_40 : decode cX3_init 40 = .ok (.aload_n 0, 1) := by decide +kernel
theorem dX3_init_41 : decode cX3_init 41 = .ok (.getfield 20, 3) := by decide +kernel
theorem dX3_init_44 : decode cX3_init 44 = .ok (.iload_n 1, 1) := by decide +kernel
theorem dX3_init_45 : decode cX3_init 45 = .ok (.iconst (-1), 1) := by decide +kernel
theorem dX3_init_46 : decode cX3_init 46 = .ok (.iastore, 1) := by decide +kernel
theorem dX3_init_47 : decode cX3_init 47 = .ok (.iinc 1 1, 3) := by decide +kernel
theorem dX3_init_50 : decode cX3_init 50 = .ok (.goto (-16), 3) := by decide +kernel
theorem dX3_init_53 : decode cX3_init 53 = .ok (.return_, 1) := by decide +kernel
theorem dX3_isMissing_0 : decode cX3_isMissing 0 = .ok (.aload_n 0, 1) := by decide +kernel
theorem dX3_isMissing_1 : decode cX3_isMissing 1 = .ok (.getfield 20, 3) := by decide +kernel
theorem dX3_isMissing_4 : decode cX3_isMissing 4 = .ok (.iload_n 1, 1) := by decide +kernel
theorem dX3_isMissing_5 : decode cX3_isMissing 5 = .ok (.iaload, 1) := by decide +kernel
theorem dX3_isMissing_6 : decode cX3_isMissing 6 = .ok (.iconst (-1), 1) := by decide +kernel
theorem dX3_isMissing_7 : decode cX3_isMissing 7 = .ok (.if_icmp .ne 7, 3) := by decide +kernel
theorem dX3_isMissing_10 : decode cX3_isMissing 10 = .ok (.iconst 1, 1) := by decide +kernel
theorem dX3_isMissing_11 : decode cX3_isMissing 11 = .ok (.goto 4, 3) := by decide +kernel
theorem dX3_isMissing_14 : decode cX3_isMissing 14 = .ok (.iconst 0, 1) := by decide +kernel
theorem dX3_isMissing_15 : decode cX3_isMissing 15 = .ok (.ireturn, 1) := by decide +kernel
theorem dX3_findItems_0 : decode cX3_findItems 0 = .ok (.aload_n 0, 1) := by decide +kernel
theorem dX3_findItems_1 : decode cX3_findItems 1 = .ok (.iload_n 1, 1) := by decide +kernel
theorem dX3_findItems_2 : decode cX3_findItems 2 = .ok (.invokevirtual 23, 3) := by decide +kernel
theorem dX3_findItems_5 : decode cX3_findItems 5 = .ok (.ifCond .eq 5, 3) := by decide +kernel
theorem dX3_findItems_8 : decode cX3_findItems 8 = .ok (.iconst 1, 1) := by decide +kernel
theorem dX3_findItems_9 : decode cX3_findItems 9 = .ok (.ireturn, 1) := by decide +kernel
theorem dX3_findItems_10 : decode cX3_findItems 10 = .ok (.aload_n 0, 1) := by decide +kernel
theorem dX3_findItems_11 : decode cX3_findItems 11 = .ok (.iload_n 1, 1) := by decide +kernel
theorem dX3_findItems_12 : decode cX3_findItems 12 = .ok (.iload_n 2, 1) := by decide +kernel
theorem dX3_findItems_13 : decode cX3_findItems 13 = .ok (.iload_n 3, 1) := by decide +kernel
theorem dX3_findItems_14 : decode cX3_findItems 14 = .ok (.invokevirtual 27, 3) := by decide +kernel
theorem dX3_findItems_17 : decode cX3_findItems 17 = .ok (.ifCond .eq 7, 3) := by decide +kernel
theorem dX3_findItems_20 : decode cX3_findItems 20 = .ok (.iconst 0, 1) := by decide +kernel
theorem dX3_findItems_21 : decode cX3_findItems 21 = .ok (.goto 4, 3) := by decide +kernel
theorem dX3_findItems_24 : decode cX3_findItems 24 = .ok (.iconst 2, 1) := by decide +kernel
theorem dX3_findItems_25 : decode cX3_findItems 25 = .ok (.ireturn, 1) := by decide +kernel
theorem dX3_findPair_0 : decode cX3_findPair 0 = .ok (.aload_n 0, 1) := by decide +kernel
theorem dX3_findPair_1 : decode cX3_findPair 1 = .ok (.iload_n 1, 1) := by decide +kernel
theorem dX3_findPair_2 : decode cX3_findPair 2 = .ok (.invokevirtual 23, 3) := by decide +kernel
theorem dX3_findPair_5 : decode cX3_findPair 5 = .ok (.ifCond .ne 11, 3) := by decide +kernel
theorem dX3_findPair_8 : decode cX3_findPair 8 = .ok (.aload_n 0, 1) := by decide +kernel
theorem dX3_findPair_9 : decode cX3_findPair 9 = .ok (.iload_n 3, 1) := by decide +kernel
theorem dX3_findPair_10 : decode cX3_findPair 10 = .ok (.invokevirtual 23, 3) := by decide +kernel
theorem dX3_findPair_13 : decode cX3_findPair 13 = .ok (.ifCond .eq 5, 3) := by decide +kernel
theorem dX3_findPair_16 : decode cX3_findPair 16 = .ok (.iconst 1, 1) := by decide +kernel
theorem dX3_findPair_17 : decode cX3_findPair 17 = .ok (.ireturn, 1) := by decide +kernel
theorem dX3_findPair_18 : decode cX3_findPair 18 = .ok (.aload_n 0, 1) := by decide +kernel
theorem dX3_findPair_19 : decode cX3_findPair 19 = .ok (.getfield 16, 3) := by decide +kernel
theorem dX3_findPair_22 : decode cX3_findPair 22 = .ok (.iload_n 1, 1) := by decide +kernel
theorem dX3_findPair_23 : decode cX3_findPair 23 = .ok (.iaload, 1) := by decide +kernel
theorem dX3_findPair_24 : decode cX3_findPair 24 = .ok (.aload_n 0, 1) := by decide +kernel
theorem dX3_findPair_25 : decode cX3_findPair 25 = .ok (.getfield 16, 3) := by decide +kernel
theorem dX3_findPair_28 : decode cX3_findPair 28 = .ok (.iload_n 3, 1) := by decide +kernel
theorem dX3_findPair_29 : decode cX3_findPair 29 = .ok (.iaload, 1) := by decide +kernel
theorem dX3_findPair_30 : decode cX3_findPair 30 = .ok (.if_icmp .eq 5, 3) := by decide +kernel
theorem dX3_findPair_33 : decode cX3_findPair 33 = .ok (.iconst 5, 1) := by decide +kernel
theorem dX3_findPair_34 : decode cX3_findPair 34 = .ok (.ireturn, 1) := by decide +kernel
theorem dX3_findPair_35 : decode cX3_findPair 35 = .ok (.aload_n 0, 1) := by decide +kernel
theorem dX3_findPair_36 : decode cX3_findPair 36 = .ok (.iload_n 1, 1) := by decide +kernel
theorem dX3_findPair_37 : decode cX3_findPair 37 = .ok (.iload_n 2, 1) := by decide +kernel
theorem dX3_findPair_38 : decode cX3_findPair 38 = .ok (.iload 5, 2) := by decide +kernel
theorem dX3_findPair_40 : decode cX3_findPair 40 = .ok (.invokevirtual 27, 3) := by decide +kernel
theorem dX3_findPair_43 : decode cX3_findPair 43 = .ok (.ifCond .eq 19, 3) := by decide +kernel
theorem dX3_findPair_46 : decode cX3_findPair 46 = .ok (.aload_n 0, 1) := by decide +kernel
theorem dX3_findPair_47 : decode cX3_findPair 47 = .ok (.iload_n 3, 1) := by decide +kernel
theorem dX3_findPair_48 : decode cX3_findPair 48 = .ok (.iload 4, 2) := by decide +kernel
theorem dX3_findPair_50 : decode cX3_findPair 50 = .ok (.iload 5, 2) := by decide +kernel
theorem dX3_findPair_52 : decode cX3_findPair 52 = .ok (.invokevirtual 27, 3) := by decide +kernel
theorem dX3_findPair_55 : decode cX3_findPair 55 = .ok (.ifCond .eq 7, 3) := by decide +kernel
theorem dX3_findPair_58 : decode cX3_findPair 58 = .ok (.iconst 0, 1) := by decide +kernel
theorem dX3_findPair_59 : decode cX3_findPair 59 = .ok (.goto 4, 3) := by decide +kernel
theorem dX3_findPair_62 : decode cX3_findPair 62 = .ok (.iconst 2, 1) := by decide +kernel
theorem dX3_findPair_63 : decode cX3_findPair 63 = .ok (.ireturn, 1) := by decide +kernel
theorem dX3_isRow_0 : decode cX3_isRow 0 = .ok (.iload_n 2, 1) := by decide +kernel
theorem dX3_isRow_1 : decode cX3_isRow 1 = .ok (.ifCond .lt 23, 3) := by decide +kernel
theorem dX3_isRow_4 : decode cX3_isRow 4 = .ok (.iload_n 3, 1) := by decide +kernel
theorem dX3_isRow_5 : decode cX3_isRow 5 = .ok (.ifCond .lt 19, 3) := by decide +kernel
theorem dX3_isRow_8 : decode cX3_isRow 8 = .ok (.iload_n 2, 1) := by decide +kernel
theorem dX3_isRow_9 : decode cX3_isRow 9 = .ok (.aload_n 0, 1) := by decide +kernel
theorem dX3_isRow_10 : decode cX3_isRow 10 = .ok (.getfield 20, 3) := by decide +kernel
theorem dX3_isRow_13 : decode cX3_isRow 13 = .ok (.iload_n 1, 1) := by decide +kernel
theorem dX3_isRow_14 : decode cX3_isRow 14 = .ok (.iaload, 1) := by decide +kernel
theorem dX3_isRow_15 : decode cX3_isRow 15 = .ok (.iload_n 3, 1) := by decide +kernel
theorem dX3_isRow_16 : decode cX3_isRow 16 = .ok (.isub, 1) := by decide +kernel
theorem dX3_isRow_17 : decode cX3_isRow 17 = .ok (.if_icmp .gt 7, 3) := by decide +kernel
theorem dX3_isRow_20 : decode cX3_isRow 20 = .ok (.iconst 1, 1) := by decide +kernel
theorem dX3_isRow_21 : decode cX3_isRow 21 = .ok (.goto 4, 3) := by decide +kernel
theorem dX3_isRow_24 : decode cX3_isRow 24 = .ok (.iconst 0, 1) := by decide +kernel
theorem dX3_isRow_25 : decode cX3_isRow 25 = .ok (.ireturn, 1) := by decide +kernel
theorem dX3_lay_0 : decode cX3_lay 0 = .ok (.iconst 0, 1) := by decide +kernel
theorem dX3_lay_1 : decode cX3_lay 1 = .ok (.istore 4, 2) := by decide +kernel
theorem dX3_lay_3 : decode cX3_lay 3 = .ok (.iload 4, 2) := by decide +kernel
theorem dX3_lay_5 : decode cX3_lay 5 = .ok (.iload_n 3, 1) := by decide +kernel
theorem dX3_lay_6 : decode cX3_lay 6 = .ok (.if_icmp .ge 19, 3) := by decide +kernel
theorem dX3_lay_9 : decode cX3_lay 9 = .ok (.aload_n 0, 1) := by decide +kernel
theorem dX3_lay_10 : decode cX3_lay 10 = .ok (.getfield 11, 3) := by decide +kernel
theorem dX3_lay_13 : decode cX3_lay 13 = .ok (.iload_n 1, 1) := by decide +kernel
theorem dX3_lay_14 : decode cX3_lay 14 = .ok (.aaload, 1) := by decide +kernel
theorem dX3_lay_15 : decode cX3_lay 15 = .ok (.iload 4, 2) := by decide +kernel
theorem dX3_lay_17 : decode cX3_lay 17 = .ok (.iconst 0, 1) := by decide +kernel
theorem dX3_lay_18 : decode cX3_lay 18 = .ok (.iastore, 1) := by decide +kernel
theorem dX3_lay_19 : decode cX3_lay 19 = .ok (.iinc 4 1, 3) := by decide +kernel
theorem dX3_lay_22 : decode cX3_lay 22 = .ok (.goto (-19), 3) := by decide +kernel
theorem dX3_lay_25 : decode cX3_lay 25 = .ok (.aload_n 0, 1) := by decide +kernel
theorem dX3_lay_26 : decode cX3_lay 26 = .ok (.getfield 16, 3) := by decide +kernel
theorem dX3_lay_29 : decode cX3_lay 29 = .ok (.iload_n 1, 1) := by decide +kernel
theorem dX3_lay_30 : decode cX3_lay 30 = .ok (.iload_n 2, 1) := by decide +kernel
theorem dX3_lay_31 : decode cX3_lay 31 = .ok (.iastore, 1) := by decide +kernel
theorem dX3_lay_32 : decode cX3_lay 32 = .ok (.aload_n 0, 1) := by decide +kernel
theorem dX3_lay_33 : decode cX3_lay 33 = .ok (.getfield 20, 3) := by decide +kernel
theorem dX3_lay_36 : decode cX3_lay 36 = .ok (.iload_n 1, 1) := by decide +kernel
theorem dX3_lay_37 : decode cX3_lay 37 = .ok (.iload_n 3, 1) := by decide +kernel
theorem dX3_lay_38 : decode cX3_lay 38 = .ok (.iastore, 1) := by decide +kernel
theorem dX3_lay_39 : decode cX3_lay 39 = .ok (.iload_n 3, 1) := by decide +kernel
theorem dX3_lay_40 : decode cX3_lay 40 = .ok (.ireturn, 1) := by decide +kernel
theorem dX3_put_0 : decode cX3_put 0 = .ok (.aload_n 0, 1) := by decide +kernel
theorem dX3_put_1 : decode cX3_put 1 = .ok (.getfield 11, 3) := by decide +kernel
theorem dX3_put_4 : decode cX3_put 4 = .ok (.iload_n 1, 1) := by decide +kernel
theorem dX3_put_5 : decode cX3_put 5 = .ok (.aaload, 1) := by decide +kernel
theorem dX3_put_6 : decode cX3_put 6 = .ok (.iload_n 2, 1) := by decide +kernel
theorem dX3_put_7 : decode cX3_put 7 = .ok (.aload_n 0, 1) := by decide +kernel
theorem dX3_put_8 : decode cX3_put 8 = .ok (.getfield 16, 3) := by decide +kernel
theorem dX3_put_11 : decode cX3_put 11 = .ok (.iload_n 1, 1) := by decide +kernel
theorem dX3_put_12 : decode cX3_put 12 = .ok (.iaload, 1) := by decide +kernel
theorem dX3_put_13 : decode cX3_put 13 = .ok (.iload_n 3, 1) := by decide +kernel
theorem dX3_put_14 : decode cX3_put 14 = .ok (.invokestatic 31, 3) := by decide +kernel
theorem dX3_put_17 : decode cX3_put 17 = .ok (.iastore, 1) := by decide +kernel
theorem dX3_put_18 : decode cX3_put 18 = .ok (.aload_n 0, 1) := by decide +kernel
theorem dX3_put_19 : decode cX3_put 19 = .ok (.getfield 11, 3) := by decide +kernel
theorem dX3_put_22 : decode cX3_put 22 = .ok (.iload_n 1, 1) := by decide +kernel
theorem dX3_put_23 : decode cX3_put 23 = .ok (.aaload, 1) := by decide +kernel
theorem dX3_put_24 : decode cX3_put 24 = .ok (.iload_n 2, 1) := by decide +kernel
theorem dX3_put_25 : decode cX3_put 25 = .ok (.iaload, 1) := by decide +kernel
theorem dX3_put_26 : decode cX3_put 26 = .ok (.ireturn, 1) := by decide +kernel
theorem dX3_fit_0 : decode cX3_fit 0 = .ok (.iload_n 0, 1) := by decide +kernel
theorem dX3_fit_1 : decode cX3_fit 1 = .ok (.lookupswitch 33 #[(0, 27), (1, 30)], 27) := by decide +kernel
theorem dX3_fit_28 : decode cX3_fit 28 = .ok (.iload_n 1, 1) := by decide +kernel
theorem dX3_fit_29 : decode cX3_fit 29 = .ok (.i2b, 1) := by decide +kernel
theorem dX3_fit_30 : decode cX3_fit 30 = .ok (.ireturn, 1) := by decide +kernel
theorem dX3_fit_31 : decode cX3_fit 31 = .ok (.iload_n 1, 1) := by decide +kernel
theorem dX3_fit_32 : decode cX3_fit 32 = .ok (.i2s, 1) := by decide +kernel
theorem dX3_fit_33 : decode cX3_fit 33 = .ok (.ireturn, 1) := by decide +kernel
theorem dX3_fit_34 : decode cX3_fit 34 = .ok (.iload_n 1, 1) := by decide +kernel
theorem dX3_fit_35 : decode cX3_fit 35 = .ok (.ireturn, 1) := by decide +kernel
theorem dX3_item_0 : decode cX3_item 0 = .ok (.aload_n 0, 1) := by decide +kernel
theorem dX3_item_1 : decode cX3_item 1 = .ok (.getfield 11, 3) := by decide +kernel
theorem dX3_item_4 : decode cX3_item 4 = .ok (.iload_n 1, 1) := by decide +kernel
theorem dX3_item_5 : decode cX3_item 5 = .ok (.aaload, 1) := by decide +kernel
theorem dX3_item_6 : decode cX3_item 6 = .ok (.iload_n 2, 1) := by decide +kernel
theorem dX3_item_7 : decode cX3_item 7 = .ok (.iaload, 1) := by decide +kernel
theorem dX3_item_8 : decode cX3_item 8 = .ok (.ireturn, 1) := by decide +kernel
theorem dX3_move_0 : decode cX3_move 0 = .ok (.aload_n 0, 1) := by decide +kernel
theorem dX3_move_1 : decode cX3_move 1 = .ok (.getfield 11, 3) := by decide +kernel
theorem dX3_move_4 : decode cX3_move 4 = .ok (.iload_n 1, 1) := by decide +kernel
theorem dX3_move_5 : decode cX3_move 5 = .ok (.aaload, 1) := by decide +kernel
theorem dX3_move_6 : decode cX3_move 6 = .ok (.iload_n 2, 1) := by decide +kernel
theorem dX3_move_7 : decode cX3_move 7 = .ok (.aload_n 0, 1) := by decide +kernel
theorem dX3_move_8 : decode cX3_move 8 = .ok (.getfield 11, 3) := by decide +kernel
theorem dX3_move_11 : decode cX3_move 11 = .ok (.iload_n 3, 1) := by decide +kernel
theorem dX3_move_12 : decode cX3_move 12 = .ok (.aaload, 1) := by decide +kernel
theorem dX3_move_13 : decode cX3_move 13 = .ok (.iload 4, 2) := by decide +kernel
theorem dX3_move_15 : decode cX3_move 15 = .ok (.iload 5, 2) := by decide +kernel
theorem dX3_move_17 : decode cX3_move 17 = .ok (.invokestatic 35, 3) := by decide +kernel
theorem dX3_move_20 : decode cX3_move 20 = .ok (.iload 5, 2) := by decide +kernel
theorem dX3_move_22 : decode cX3_move 22 = .ok (.ireturn, 1) := by decide +kernel
theorem dX3_remove_0 : decode cX3_remove 0 = .ok (.aload_n 0, 1) := by decide +kernel
theorem dX3_remove_1 : decode cX3_remove 1 = .ok (.getfield 20, 3) := by decide +kernel
theorem dX3_remove_4 : decode cX3_remove 4 = .ok (.iload_n 1, 1) := by decide +kernel
theorem dX3_remove_5 : decode cX3_remove 5 = .ok (.iaload, 1) := by decide +kernel
theorem dX3_remove_6 : decode cX3_remove 6 = .ok (.istore_n 2, 1) := by decide +kernel
theorem dX3_remove_7 : decode cX3_remove 7 = .ok (.aload_n 0, 1) := by decide +kernel
theorem dX3_remove_8 : decode cX3_remove 8 = .ok (.getfield 20, 3) := by decide +kernel
theorem dX3_remove_11 : decode cX3_remove 11 = .ok (.iload_n 1, 1) := by decide +kernel
theorem dX3_remove_12 : decode cX3_remove 12 = .ok (.iconst (-1), 1) := by decide +kernel
theorem dX3_remove_13 : decode cX3_remove 13 = .ok (.iastore, 1) := by decide +kernel
theorem dX3_remove_14 : decode cX3_remove 14 = .ok (.iload_n 2, 1) := by decide +kernel
theorem dX3_remove_15 : decode cX3_remove 15 = .ok (.ireturn, 1) := by decide +kernel
theorem dX3_present_0 : decode cX3_present 0 = .ok (.iconst 0, 1) := by decide +kernel
theorem dX3_present_1 : decode cX3_present 1 = .ok (.istore_n 1, 1) := by decide +kernel
theorem dX3_present_2 : decode cX3_present 2 = .ok (.iconst 0, 1) := by decide +kernel
theorem dX3_present_3 : decode cX3_present 3 = .ok (.istore_n 2, 1) := by decide +kernel
theorem dX3_present_4 : decode cX3_present 4 = .ok (.iload_n 2, 1) := by decide +kernel
theorem dX3_present_5 : decode cX3_present 5 = .ok (.bipush 8, 2) := by decide +kernel
theorem dX3_present_7 : decode cX3_present 7 = .ok (.if_icmp .ge 20, 3) := by decide +kernel
theorem dX3_present_10 : decode cX3_present 10 = .ok (.aload_n 0, 1) := by decide +kernel
theorem dX3_present_11 : decode cX3_present 11 = .ok (.iload_n 2, 1) := by decide +kernel
theorem dX3_present_12 : decode cX3_present 12 = .ok (.invokevirtual 23, 3) := by decide +kernel
theorem dX3_present_15 : decode cX3_present 15 = .ok (.ifCond .ne 6, 3) := by decide +kernel
theorem dX3_present_18 : decode cX3_present 18 = .ok (.iinc 1 1, 3) := by decide +kernel
theorem dX3_present_21 : decode cX3_present 21 = .ok (.iinc 2 1, 3) := by decide +kernel
theorem dX3_present_24 : decode cX3_present 24 = .ok (.goto (-20), 3) := by decide +kernel
theorem dX3_present_27 : decode cX3_present 27 = .ok (.iload_n 1, 1) := by decide +kernel
theorem dX3_present_28 : decode cX3_present 28 = .ok (.ireturn, 1) := by decide +kernel
theorem dJ6_bitCount_0f7a4_0 : decode cJ6_bitCount_0f7a4 0 = .ok (.iload_n 0, 1) := by decide +kernel
theorem dJ6_bitCount_0f7a4_1 : decode cJ6_bitCount_0f7a4 1 = .ok (.iload_n 0, 1) := by decide +kernel
theorem dJ6_bitCount_0f7a4_2 : decode cJ6_bitCount_0f7a4 2 = .ok (.iconst 1, 1) := by decide +kernel
theorem dJ6_bitCount_0f7a4_3 : decode cJ6_bitCount_0f7a4 3 = .ok (.iushr, 1) := by decide +kernel
theorem dJ6_bitCount_0f7a4_4 : decode cJ6_bitCount_0f7a4 4 = .ok (.ldc_w 265, 3) := by decide +kernel
theorem dJ6_bitCount_0f7a4_7 : decode cJ6_bitCount_0f7a4 7 = .ok (.iand, 1) := by decide +kernel
theorem dJ6_bitCount_0f7a4_8 : decode cJ6_bitCount_0f7a4 8 = .ok (.isub, 1) := by decide +kernel
theorem dJ6_bitCount_0f7a4_9 : decode cJ6_bitCount_0f7a4 9 = .ok (.istore_n 0, 1) := by decide +kernel
theorem dJ6_bitCount_0f7a4_10 : decode cJ6_bitCount_0f7a4 10 = .ok (.iload_n 0, 1) := by decide +kernel
theorem dJ6_bitCount_0f7a4_11 : decode cJ6_bitCount_0f7a4 11 = .ok (.ldc_w 266, 3) := by decide +kernel
theorem dJ6_bitCount_0f7a4_14 : decode cJ6_bitCount_0f7a4 14 = .ok (.iand, 1) := by decide +kernel
theorem dJ6_bitCount_0f7a4_15 : decode cJ6_bitCount_0f7a4 15 = .ok (.iload_n 0, 1) := by decide +kernel
theorem dJ6_bitCount_0f7a4_16 : decode cJ6_bitCount_0f7a4 16 = .ok (.iconst 2, 1) := by decide +kernel
theorem dJ6_bitCount_0f7a4_17 : decode cJ6_bitCount_0f7a4 17 = .ok (.iushr, 1) := by decide +kernel
theorem dJ6_bitCount_0f7a4_18 : decode cJ6_bitCount_0f7a4 18 = .ok (.ldc_w 266, 3) := by decide +kernel
theorem dJ6_bitCount_0f7a4_21 : decode cJ6_bitCount_0f7a4 21 = .ok (.iand, 1) := by decide +kernel
theorem dJ6_bitCount_0f7a4_22 : decode cJ6_bitCount_0f7a4 22 = .ok (.iadd, 1) := by decide +kernel
theorem dJ6_bitCount_0f7a4_23 : decode cJ6_bitCount_0f7a4 23 = .ok (.istore_n 0, 1) := by decide +kernel
theorem dJ6_bitCount_0f7a4_24 : decode cJ6_bitCount_0f7a4 24 = .ok (.iload_n 0, 1) := by decide +kernel
theorem dJ6_bitCount_0f7a4_25 : decode cJ6_bitCount_0f7a4 25 = .ok (.iload_n 0, 1) := by decide +kernel
theorem dJ6_bitCount_0f7a4_26 : decode cJ6_bitCount_0f7a4 26 = .ok (.iconst 4, 1) := by decide +kernel
theorem dJ6_bitCount_0f7a4_27 : decode cJ6_bitCount_0f7a4 27 = .ok (.iushr, 1) := by decide +kernel
theorem dJ6_bitCount_0f7a4_28 : decode cJ6_bitCount_0f7a4 28 = .ok (.iadd, 1) := by decide +kernel
theorem dJ6_bitCount_0f7a4_29 : decode cJ6_bitCount_0f7a4 29 = .ok (.ldc_w 267, 3) := by decide +kernel
theorem dJ6_bitCount_0f7a4_32 : decode cJ6_bitCount_0f7a4 32 = .ok (.iand, 1) := by decide +kernel
theorem dJ6_bitCount_0f7a4_33 : decode cJ6_bitCount_0f7a4 33 = .ok (.istore_n 0, 1) := by decide +kernel
theorem dJ6_bitCount_0f7a4_34 : decode cJ6_bitCount_0f7a4 34 = .ok (.iload_n 0, 1) := by decide +kernel
theorem dJ6_bitCount_0f7a4_35 : decode cJ6_bitCount_0f7a4 35 = .ok (.iload_n 0, 1) := by decide +kernel
theorem dJ6_bitCount_0f7a4_36 : decode cJ6_bitCount_0f7a4 36 = .ok (.bipush 8, 2) := by decide +kernel
theorem dJ6_bitCount_0f7a4_38 : decode cJ6_bitCount_0f7a4 38 = .ok (.iushr, 1) := by decide +kernel
theorem dJ6_bitCount_0f7a4_39 : decode cJ6_bitCount_0f7a4 39 = .ok (.iadd, 1) := by decide +kernel
theorem dJ6_bitCount_0f7a4_40 : decode cJ6_bitCount_0f7a4 40 = .ok (.istore_n 0, 1) := by decide +kernel
theorem dJ6_bitCount_0f7a4_41 : decode cJ6_bitCount_0f7a4 41 = .ok (.iload_n 0, 1) := by decide +kernel
theorem dJ6_bitCount_0f7a4_42 : decode cJ6_bitCount_0f7a4 42 = .ok (.iload_n 0, 1) := by decide +kernel
theorem dJ6_bitCount_0f7a4_43 : decode cJ6_bitCount_0f7a4 43 = .ok (.bipush 16, 2) := by decide +kernel
theorem dJ6_bitCount_0f7a4_45 : decode cJ6_bitCount_0f7a4 45 = .ok (.iushr, 1) := by decide +kernel
theorem dJ6_bitCount_0f7a4_46 : decode cJ6_bitCount_0f7a4 46 = .ok (.iadd, 1) := by decide +kernel
theorem dJ6_bitCount_0f7a4_47 : decode cJ6_bitCount_0f7a4 47 = .ok (.istore_n 0, 1) := by decide +kernel
theorem dJ6_bitCount_0f7a4_48 : decode cJ6_bitCount_0f7a4 48 = .ok (.iload_n 0, 1) := by decide +kernel
theorem dJ6_bitCount_0f7a4_49 : decode cJ6_bitCount_0f7a4 49 = .ok (.bipush 63, 2) := by decide +kernel
theorem dJ6_bitCount_0f7a4_51 : decode cJ6_bitCount_0f7a4 51 = .ok (.iand, 1) := by decide +kernel
theorem dJ6_bitCount_0f7a4_52 : decode cJ6_bitCount_0f7a4 52 = .ok (.ireturn, 1) := by decide +kernel
theorem dJ9_max_7cf53_0 : decode cJ9_max_7cf53 0 = .ok (.iload_n 0, 1) := by decide +kernel
theorem dJ9_max_7cf53_1 : decode cJ9_max_7cf53 1 = .ok (.iload_n 1, 1) := by decide +kernel
theorem dJ9_max_7cf53_2 : decode cJ9_max_7cf53 2 = .ok (.if_icmp .lt 7, 3) := by decide +kernel
theorem dJ9_max_7cf53_5 : decode cJ9_max_7cf53 5 = .ok (.iload_n 0, 1) := by decide +kernel
theorem dJ9_max_7cf53_6 : decode cJ9_max_7cf53 6 = .ok (.goto 4, 3) := by decide +kernel
theorem dJ9_max_7cf53_9 : decode cJ9_max_7cf53 9 = .ok (.iload_n 1, 1) := by decide +kernel
theorem dJ9_max_7cf53_10 : decode cJ9_max_7cf53 10 = .ok (.ireturn, 1) := by decide +kernel
theorem dJ9_min_7cf53_0 : decode cJ9_min_7cf53 0 = .ok (.iload_n 0, 1) := by decide +kernel
theorem dJ9_min_7cf53_1 : decode cJ9_min_7cf53 1 = .ok (.iload_n 1, 1) := by decide +kernel
theorem dJ9_min_7cf53_2 : decode cJ9_min_7cf53 2 = .ok (.if_icmp .gt 7, 3) := by decide +kernel
theorem dJ9_min_7cf53_5 : decode cJ9_min_7cf53 5 = .ok (.iload_n 0, 1) := by decide +kernel
theorem dJ9_min_7cf53_6 : decode cJ9_min_7cf53 6 = .ok (.goto 4, 3) := by decide +kernel
theorem dJ9_min_7cf53_9 : decode cJ9_min_7cf53 9 = .ok (.iload_n 1, 1) := by decide +kernel
theorem dJ9_min_7cf53_10 : decode cJ9_min_7cf53 10 = .ok (.ireturn, 1) := by decide +kernel
end
section
theorem dX4_init_0 : decode cX4_init 0 = .ok (.aload_n 0, 1) := by decide +kernel
theorem dX4_init_1 : decode cX4_init 1 = .ok (.invokespecial 3, 3) := by decide +kernel
theorem dX4_init_4 : decode cX4_init 4 = .ok (.aload_n 0, 1) := by decide +kernel
theorem dX4_init_5 : decode cX4_init 5 = .ok (.bipush 10, 2) := by decide +kernel
theorem dX4_init_7 : decode cX4_init 7 = .ok (.bipush 10, 2) := by decide +kernel
theorem dX4_init_9 : decode cX4_init 9 = .ok (.multianewarray 9 2, 4) := by decide +kernel
theorem dX4_init_13 : decode cX4_init 13 = .ok (.putfield 11, 3) := by decide +kernel
theorem dX4_init_16 : decode cX4_init 16 = .ok (.aload_n 0, 1) := by decide +kernel
theorem dX4_init_17 : decode cX4_init 17 = .ok (.bipush 10, 2) := by decide +kernel
theorem dX4_init_19 : decode cX4_init 19 = .ok (.newarray .int, 2) := by decide +kernel
theorem dX4_init_21 : decode cX4_init 21 = .ok (.putfield 16, 3) := by decide +kernel
theorem dX4_init_24 : decode cX4_init 24 = .ok (.aload_n 0, 1) := by decide +kernel
theorem dX4_init_25 : decode cX4_init 25 = .ok (.bipush 10, 2) := by decide +kernel
theorem dX4_init_27 : decode cX4_init 27 = .ok (.newarray .int, 2) := by decide +kernel
theorem dX4_init_29 : decode cX4_init 29 = .ok (.putfield 20, 3) := by decide +kernel
theorem dX4_init_32 : decode cX4_init 32 = .ok (.aload_n 0, 1) := by decide +kernel
theorem dX4_init_33 : decode cX4_init 33 = .ok (.bipush 10, 2) := by decide +kernel
theorem dX4_init_35 : decode cX4_init 35 = .ok (.bipush 10, 2) := by decide +kernel
theorem dX4_init_37 : decode cX4_init 37 = .ok (.multianewarray 9 2, 4) := by decide +kernel
theorem dX4_init_41 : decode cX4_init 41 = .ok (.putfield 23, 3) := by decide +kernel
theorem dX4_init_44 : decode cX4_init 44 = .ok (.aload_n 0, 1) := by decide +kernel
theorem dX4_init_45 : decode cX4_init 45 = .ok (.bipush 10, 2) := by decide +kernel
theorem dX4_init_47 : decode cX4_init 47 = .ok (.newarray .int, 2) := by decide +kernel
theorem dX4_init_49 : decode cX4_init 49 = .ok (.putfield 26, 3) := by decide +kernel
theorem dX4_init_52 : decode cX4_init 52 = .ok (.return_, 1) := by decide +kernel
theorem dX4_isSite_0 : decode cX4_isSite 0 = .ok (.iload_n 1, 1) := by decide +kernel
theorem dX4_isSite_1 : decode cX4_isSite 1 = .ok (.aload_n 0, 1) := by decide +kernel
theorem dX4_isSite_2 : decode cX4_isSite 2 = .ok (.getfield 29, 3) := by decide +kernel
theorem dX4_isSite_5 : decode cX4_isSite 5 = .ok (.invokestatic 33, 3) := by decide +kernel
theorem dX4_isSite_8 : decode cX4_isSite 8 = .ok (.ireturn, 1) := by decide +kernel
theorem dX4_isWayBought_0 : decode cX4_isWayBought 0 = .ok (.aload_n 0, 1) := by decide +kernel
theorem dX4_isWayBought_1 : decode cX4_isWayBought 1 = .ok (.getfield 16, 3) := by decide +kernel
theorem dX4_isWayBought_4 : decode cX4_isWayBought 4 = .ok (.iload_n 1, 1) := by decide +kernel
theorem dX4_isWayBought_5 : decode cX4_isWayBought 5 = .ok (.iaload, 1) := by decide +kernel
theorem dX4_isWayBought_6 : decode cX4_isWayBought 6 = .ok (.iload_n 2, 1) := by decide +kernel
theorem dX4_isWayBought_7 : decode cX4_isWayBought 7 = .ok (.invokestatic 37, 3) := by decide +kernel
theorem dX4_isWayBought_10 : decode cX4_isWayBought 10 = .ok (.ireturn, 1) := by decide +kernel
theorem dX4_add_0 : decode cX4_add 0 = .ok (.aload_n 0, 1) := by decide +kernel
theorem dX4_add_1 : decode cX4_add 1 = .ok (.dup, 1) := by decide +kernel
theorem dX4_add_2 : decode cX4_add 2 = .ok (.getfield 29, 3) := by decide +kernel
theorem dX4_add_5 : decode cX4_add 5 = .ok (.iconst 1, 1) := by decide +kernel
theorem dX4_add_6 : decode cX4_add 6 = .ok (.iadd, 1) := by decide +kernel
theorem dX4_add_7 : decode cX4_add 7 = .ok (.putfield 29, 3) := by decide +kernel
theorem dX4_add_10 : decode cX4_add 10 = .ok (.aload_n 0, 1) := by decide +kernel
theorem dX4_add_11 : decode cX4_add 11 = .ok (.getfield 29, 3) := by decide +kernel
theorem dX4_add_14 : decode cX4_add 14 = .ok (.iconst 1, 1) := by decide +kernel
theorem dX4_add_15 : decode cX4_add 15 = .ok (.isub, 1) := by decide +kernel
theorem dX4_add_16 : decode cX4_add 16 = .ok (.ireturn, 1) := by decide +kernel
theorem dX4_lay_0 : decode cX4_lay 0 = .ok (.aload_n 0, 1) := by decide +kernel
theorem dX4_lay_1 : decode cX4_lay 1 = .ok (.getfield 11, 3) := by decide +kernel
theorem dX4_lay_4 : decode cX4_lay 4 = .ok (.iload_n 1, 1) := by decide +kernel
theorem dX4_lay_5 : decode cX4_lay 5 = .ok (.aaload, 1) := by decide +kernel
theorem dX4_lay_6 : decode cX4_lay 6 = .ok (.iload_n 2, 1) := by decide +kernel
theorem dX4_lay_7 : decode cX4_lay 7 = .ok (.iaload, 1) := by decide +kernel
theorem dX4_lay_8 : decode cX4_lay 8 = .ok (.istore 4, 2) := by decide +kernel
theorem dX4_lay_10 : decode cX4_lay 10 = .ok (.iload 4, 2) := by decide +kernel
theorem dX4_lay_12 : decode cX4_lay 12 = .ok (.ifCond .ne 13, 3) := by decide +kernel
theorem dX4_lay_15 : decode cX4_lay 15 = .ok (.aload_n 0, 1) := by decide +kernel
theorem dX4_lay_16 : decode cX4_lay 16 = .ok (.dup, 1) := by decide +kernel
theorem dX4_lay_17 : decode cX4_lay 17 = .ok (.getfield 40, 3) := by decide +kernel
theorem dX4_lay_20 : decode cX4_lay 20 = .ok (.iconst 1, 1) := by decide +kernel
theorem dX4_lay_21 : decode cX4_lay 21 = .ok (.iadd, 1) := by decide +kernel
theorem dX4_lay_22 : decode cX4_lay 22 = .ok (.putfield 40, 3) := by decide +kernel
theorem dX4_lay_25 : decode cX4_lay 25 = .ok (.aload_n 0, 1) := by decide +kernel
theorem dX4_lay_26 : decode cX4_lay 26 = .ok (.getfield 11, 3) := by decide +kernel
theorem dX4_lay_29 : decode cX4_lay 29 = .ok (.iload_n 1, 1) := by decide +kernel
theorem dX4_lay_30 : decode cX4_lay 30 = .ok (.aaload, 1) := by decide +kernel
theorem dX4_lay_31 : decode cX4_lay 31 = .ok (.iload_n 2, 1) := by decide +kernel
theorem dX4_lay_32 : decode cX4_lay 32 = .ok (.iload_n 3, 1) := by decide +kernel
theorem dX4_lay_33 : decode cX4_lay 33 = .ok (.iastore, 1) := by decide +kernel
theorem dX4_lay_34 : decode cX4_lay 34 = .ok (.aload_n 0, 1) := by decide +kernel
theorem dX4_lay_35 : decode cX4_lay 35 = .ok (.getfield 11, 3) := by decide +kernel
theorem dX4_lay_38 : decode cX4_lay 38 = .ok (.iload_n 2, 1) := by decide +kernel
theorem dX4_lay_39 : decode cX4_lay 39 = .ok (.aaload, 1) := by decide +kernel
theorem dX4_lay_40 : decode cX4_lay 40 = .ok (.iload_n 1, 1) := by decide +kernel
theorem dX4_lay_41 : decode cX4_lay 41 = .ok (.iload_n 3, 1) := by decide +kernel
theorem dX4_lay_42 : decode cX4_lay 42 = .ok (.iastore, 1) := by decide +kernel
theorem dX4_lay_43 : decode cX4_lay 43 = .ok (.iload 4, 2) := by decide +kernel
theorem dX4_lay_45 : decode cX4_lay 45 = .ok (.ireturn, 1) := by decide +kernel
theorem dX4_join_0 : decode cX4_join 0 = .ok (.aload_n 0, 1) := by decide +kernel
theorem dX4_join_1 : decode cX4_join 1 = .ok (.getfield 43, 3) := by decide +kernel
theorem dX4_join_4 : decode cX4_join 4 = .ok (.ifCond .ne 15, 3) := by decide +kernel
theorem dX4_join_7 : decode cX4_join 7 = .ok (.aload_n 0, 1) := by decide +kernel
theorem dX4_join_8 : decode cX4_join 8 = .ok (.iload_n 1, 1) := by decide +kernel
theorem dX4_join_9 : decode cX4_join 9 = .ok (.putfield 46, 3) := by decide +kernel
theorem dX4_join_12 : decode cX4_join 12 = .ok (.aload_n 0, 1) := by decide +kernel
theorem dX4_join_13 : decode cX4_join 13 = .ok (.iconst 1, 1) := by decide +kernel
theorem dX4_join_14 : decode cX4_join 14 = .ok (.iload_n 1, 1) := by decide +kernel
theorem dX4_join_15 : decode cX4_join 15 = .ok (.ishl, 1) := by decide +kernel
theorem dX4_join_16 : decode cX4_join 16 = .ok (.putfield 49, 3) := by decide +kernel
theorem dX4_join_19 : decode cX4_join 19 = .ok (.aload_n 0, 1) := by decide +kernel
theorem dX4_join_20 : decode cX4_join 20 = .ok (.invokevirtual 52, 3) := by decide +kernel
theorem dX4_join_23 : decode cX4_join 23 = .ok (.aload_n 0, 1) := by decide +kernel
theorem dX4_join_24 : decode cX4_join 24 = .ok (.getfield 20, 3) := by decide +kernel
theorem dX4_join_27 : decode cX4_join 27 = .ok (.iload_n 1, 1) := by decide +kernel
theorem dX4_join_28 : decode cX4_join 28 = .ok (.iaload, 1) := by decide +kernel
theorem dX4_join_29 : decode cX4_join 29 = .ok (.ldc 55, 2) := by decide +kernel
theorem dX4_join_31 : decode cX4_join 31 = .ok (.if_icmp .lt 6, 3) := by decide +kernel
theorem dX4_join_34 : decode cX4_join 34 = .ok (.ldc 56, 2) := by decide +kernel
theorem dX4_join_36 : decode cX4_join 36 = .ok (.ireturn, 1) := by decide +kernel
theorem dX4_join_37 : decode cX4_join 37 = .ok (.aload_n 0, 1) := by decide +kernel
theorem dX4_join_38 : decode cX4_join 38 = .ok (.iload_n 1, 1) := by decide +kernel
theorem dX4_join_39 : decode cX4_join 39 = .ok (.invokevirtual 57, 3) := by decide +kernel
theorem dX4_join_42 : decode cX4_join 42 = .ok (.istore_n 2, 1) := by decide +kernel
theorem dX4_join_43 : decode cX4_join 43 = .ok (.aload_n 0, 1) := by decide +kernel
theorem dX4_join_44 : decode cX4_join 44 = .ok (.dup, 1) := by decide +kernel
theorem dX4_join_45 : decode cX4_join 45 = .ok (.getfield 43, 3) := by decide +kernel
theorem dX4_join_48 : decode cX4_join 48 = .ok (.iconst 1, 1) := by decide +kernel
theorem dX4_join_49 : decode cX4_join 49 = .ok (.iload_n 1, 1) := by decide +kernel
theorem dX4_join_50 : decode cX4_join 50 = .ok (.ishl, 1) := by decide +kernel
theorem dX4_join_51 : decode cX4_join 51 = .ok (.ior, 1) := by decide +kernel
theorem dX4_join_52 : decode cX4_join 52 = .ok (.putfield 43, 3) := by decide +kernel
theorem dX4_join_55 : decode cX4_join 55 = .ok (.aload_n 0, 1) := by decide +kernel
theorem dX4_join_56 : decode cX4_join 56 = .ok (.dup, 1) := by decide +kernel
theorem dX4_join_57 : decode cX4_join 57 = .ok (.getfield 61, 3) := by decide +kernel
theorem dX4_join_60 : decode cX4_join 60 = .ok (.iload_n 2, 1) := by decide +kernel
theorem dX4_join_61 : decode cX4_join 61 = .ok (.iadd, 1) := by decide +kernel
theorem dX4_join_62 : decode cX4_join 62 = .ok (.putfield 61, 3) := by decide +kernel
theorem dX4_join_65 : decode cX4_join 65 = .ok (.iload_n 2, 1) := by decide +kernel
theorem dX4_join_66 : decode cX4_join 66 = .ok (.ireturn, 1) := by decide +kernel
theorem dX4_weighRows_0 : decode cX4_weighRows 0 = .ok (.iconst 0, 1) := by decide +kernel
theorem dX4_weighRows_1 : decode cX4_weighRows 1 = .ok (.istore_n 1, 1) := by decide +kernel
theorem dX4_weighRows_2 : decode cX4_weighRows 2 = .ok (.iload_n 1, 1) := by decide +kernel
theorem dX4_weighRows_3 : decode cX4_weighRows 3 = .ok (.aload_n 0, 1) := by decide +kernel
theorem dX4_weighRows_4 : decode cX4_weighRows 4 = .ok (.getfield 29, 3) := by decide +kernel
theorem dX4_weighRows_7 : decode cX4_weighRows 7 = .ok (.if_icmp .ge 32, 3) := by decide +kernel
theorem dX4_weighRows_10 : decode cX4_weighRows 10 = .ok (.aload_n 0, 1) := by decide +kernel
theorem dX4_weighRows_11 : decode cX4_weighRows 11 = .ok (.getfield 20, 3) := by decide +kernel
theorem dX4_weighRows_14 : decode cX4_weighRows 14 = .ok (.iload_n 1, 1) := by decide +kernel
theorem dX4_weighRows_15 : decode cX4_weighRows 15 = .ok (.aload_n 0, 1) := by decide +kernel
theorem dX4_weighRows_16 : decode cX4_weighRows 16 = .ok (.getfield 49, 3) := by decide +kernel
theorem dX4_weighRows_19 : decode cX4_weighRows 19 = .ok (.iload_n 1, 1) := by decide +kernel
theorem dX4_weighRows_20 : decode cX4_weighRows 20 = .ok (.invokestatic 37, 3) := by decide +kernel
theorem dX4_weighRows_23 : decode cX4_weighRows 23 = .ok (.ifCond .eq 7, 3) := by decide +kernel
theorem dX4_weighRows_26 : decode cX4_weighRows 26 = .ok (.iconst 0, 1) := by decide +kernel
theorem dX4_weighRows_27 : decode cX4_weighRows 27 = .ok (.goto 5, 3) := by decide +kernel
theorem dX4_weighRows_30 : decode cX4_weighRows 30 = .ok (.ldc 55, 2) := by decide +kernel
theorem dX4_weighRows_32 : decode cX4_weighRows 32 = .ok (.iastore, 1) := by decide +kernel
theorem dX4_weighRows_33 : decode cX4_weighRows 33 = .ok (.iinc 1 1, 3) := by decide +kernel
theorem dX4_weighRows_36 : decode cX4_weighRows 36 = .ok (.goto (-34), 3) := by decide +kernel
theorem dX4_weighRows_39 : decode cX4_weighRows 39 = .ok (.iconst 0, 1) := by decide +kernel
theorem dX4_weighRows_40 : decode cX4_weighRows 40 = .ok (.istore_n 1, 1) := by decide +kernel
theorem dX4_weighRows_41 : decode cX4_weighRows 41 = .ok (.iload_n 1, 1) := by decide +kernel
theorem dX4_weighRows_42 : decode cX4_weighRows 42 = .ok (.aload_n 0, 1) := by decide +kernel
theorem dX4_weighRows_43 : decode cX4_weighRows 43 = .ok (.getfield 29, 3) := by decide +kernel
theorem dX4_weighRows_46 : decode cX4_weighRows 46 = .ok (.if_icmp .ge 36, 3) := by decide +kernel
theorem dX4_weighRows_49 : decode cX4_weighRows 49 = .ok (.iconst 0, 1) := by decide +kernel
theorem dX4_weighRows_50 : decode cX4_weighRows 50 = .ok (.istore_n 2, 1) := by decide +kernel
theorem dX4_weighRows_51 : decode cX4_weighRows 51 = .ok (.iload_n 2, 1) := by decide +kernel
theorem dX4_weighRows_52 : decode cX4_weighRows 52 = .ok (.aload_n 0, 1) := by decide +kernel
theorem dX4_weighRows_53 : decode cX4_weighRows 53 = .ok (.getfield 29, 3) := by decide +kernel
theorem dX4_weighRows_56 : decode cX4_weighRows 56 = .ok (.if_icmp .ge 20, 3) := by decide +kernel
theorem dX4_weighRows_59 : decode cX4_weighRows 59 = .ok (.aload_n 0, 1) := by decide +kernel
theorem dX4_weighRows_60 : decode cX4_weighRows 60 = .ok (.getfield 20, 3) := by decide +kernel
theorem dX4_weighRows_63 : decode cX4_weighRows 63 = .ok (.iload_n 2, 1) := by decide +kernel
theorem dX4_weighRows_64 : decode cX4_weighRows 64 = .ok (.aload_n 0, 1) := by decide +kernel
theorem dX4_weighRows_65 : decode cX4_weighRows 65 = .ok (.iload_n 2, 1) := by decide +kernel
theorem dX4_weighRows_66 : decode cX4_weighRows 66 = .ok (.invokevirtual 64, 3) := by decide +kernel
theorem dX4_weighRows_69 : decode cX4_weighRows 69 = .ok (.iastore, 1) := by decide +kernel
theorem dX4_weighRows_70 : decode cX4_weighRows 70 = .ok (.iinc 2 1, 3) := by decide +kernel
theorem dX4_weighRows_73 : decode cX4_weighRows 73 = .ok (.goto (-22), 3) := by decide +kernel
theorem dX4_weighRows_76 : decode cX4_weighRows 76 = .ok (.iinc 1 1, 3) := by decide +kernel
theorem dX4_weighRows_79 : decode cX4_weighRows 79 = .ok (.goto (-38), 3) := by decide +kernel
theorem dX4_weighRows_82 : decode cX4_weighRows 82 = .ok (.return_, 1) := by decide +kernel
theorem dX4_leastWeight_0 : decode cX4_leastWeight 0 = .ok (.aload_n 0, 1) := by decide +kernel
theorem dX4_leastWeight_1 : decode cX4_leastWeight 1 = .ok (.getfield 20, 3) := by decide +kernel
theorem dX4_leastWeight_4 : decode cX4_leastWeight 4 = .ok (.iload_n 1, 1) := by decide +kernel
theorem dX4_leastWeight_5 : decode cX4_leastWeight 5 = .ok (.iaload, 1) := by decide +kernel
theorem dX4_leastWeight_6 : decode cX4_leastWeight 6 = .ok (.istore_n 2, 1) := by decide +kernel
theorem dX4_leastWeight_7 : decode cX4_leastWeight 7 = .ok (.iconst 0, 1) := by decide +kernel
theorem dX4_leastWeight_8 : decode cX4_leastWeight 8 = .ok (.istore_n 3, 1) := by decide +kernel
theorem dX4_leastWeight_9 : decode cX4_leastWeight 9 = .ok (.iload_n 3, 1) := by decide +kernel
theorem dX4_leastWeight_10 : decode cX4_leastWeight 10 = .ok (.aload_n 0, 1) := by decide +kernel
theorem dX4_leastWeight_11 : decode cX4_leastWeight 11 = .ok (.getfield 29, 3) := by decide +kernel
theorem dX4_leastWeight_14 : decode cX4_leastWeight 14 = .ok (.if_icmp .ge 38, 3) := by decide +kernel
theorem dX4_leastWeight_17 : decode cX4_leastWeight 17 = .ok (.aload_n 0, 1) := by decide +kernel
theorem dX4_leastWeight_18 : decode cX4_leastWeight 18 = .ok (.getfield 11, 3) := by decide +kernel
theorem dX4_leastWeight_21 : decode cX4_leastWeight 21 = .ok (.iload_n 1, 1) := by decide +kernel
theorem dX4_leastWeight_22 : decode cX4_leastWeight 22 = .ok (.aaload, 1) := by decide +kernel
theorem dX4_leastWeight_23 : decode cX4_leastWeight 23 = .ok (.iload_n 3, 1) := by decide +kernel
theorem dX4_leastWeight_24 : decode cX4_leastWeight 24 = .ok (.iaload, 1) := by decide +kernel
theorem dX4_leastWeight_25 : decode cX4_leastWeight 25 = .ok (.ifCond .le 21, 3) := by decide +kernel
theorem dX4_leastWeight_28 : decode cX4_leastWeight 28 = .ok (.iload_n 2, 1) := by decide +kernel
theorem dX4_leastWeight_29 : decode cX4_leastWeight 29 = .ok (.aload_n 0, 1) := by decide +kernel
theorem dX4_leastWeight_30 : decode cX4_leastWeight 30 = .ok (.getfield 20, 3) := by decide +kernel
theorem dX4_leastWeight_33 : decode cX4_leastWeight 33 = .ok (.iload_n 3, 1) := by decide +kernel
theorem dX4_leastWeight_34 : decode cX4_leastWeight 34 = .ok (.iaload, 1) := by decide +kernel
theorem dX4_leastWeight_35 : decode cX4_leastWeight 35 = .ok (.aload_n 0, 1) := by decide +kernel
theorem dX4_leastWeight_36 : decode cX4_leastWeight 36 = .ok (.iload_n 1, 1) := by decide +kernel
theorem dX4_leastWeight_37 : decode cX4_leastWeight 37 = .ok (.iload_n 3, 1) := by decide +kernel
theorem dX4_leastWeight_38 : decode cX4_leastWeight 38 = .ok (.invokevirtual 67, 3) := by decide +kernel
theorem dX4_leastWeight_41 : decode cX4_leastWeight 41 = .ok (.iadd, 1) := by decide +kernel
theorem dX4_leastWeight_42 : decode cX4_leastWeight 42 = .ok (.invokestatic 71, 3) := by decide +kernel
theorem dX4_leastWeight_45 : decode cX4_leastWeight 45 = .ok (.istore_n 2, 1) := by decide +kernel
theorem dX4_leastWeight_46 : decode cX4_leastWeight 46 = .ok (.iinc 3 1, 3) := by decide +kernel
theorem dX4_leastWeight_49 : decode cX4_leastWeight 49 = .ok (.goto (-40), 3) := by decide +kernel
theorem dX4_leastWeight_52 : decode cX4_leastWeight 52 = .ok (.iload_n 2, 1) := by decide +kernel
theorem dX4_leastWeight_53 : decode cX4_leastWeight 53 = .ok (.ireturn, 1) := by decide +kernel
theorem dX4_weightOf_0 : decode cX4_weightOf 0 = .ok (.aload_n 0, 1) := by decide +kernel
theorem dX4_weightOf_1 : decode cX4_weightOf 1 = .ok (.getfield 11, 3) := by decide +kernel
theorem dX4_weightOf_4 : decode cX4_weightOf 4 = .ok (.iload_n 1, 1) := by decide +kernel
theorem dX4_weightOf_5 : decode cX4_weightOf 5 = .ok (.aaload, 1) := by decide +kernel
theorem dX4_weightOf_6 : decode cX4_weightOf 6 = .ok (.iload_n 2, 1) := by decide +kernel
theorem dX4_weightOf_7 : decode cX4_weightOf 7 = .ok (.iaload, 1) := by decide +kernel
theorem dX4_weightOf_8 : decode cX4_weightOf 8 = .ok (.bipush 16, 2) := by decide +kernel
theorem dX4_weightOf_10 : decode cX4_weightOf 10 = .ok (.imul, 1) := by decide +kernel
theorem dX4_weightOf_11 : decode cX4_weightOf 11 = .ok (.iconst 1, 1) := by decide +kernel
theorem dX4_weightOf_12 : decode cX4_weightOf 12 = .ok (.iadd, 1) := by decide +kernel
theorem dX4_weightOf_13 : decode cX4_weightOf 13 = .ok (.ireturn, 1) := by decide +kernel
theorem dX4_buyRow_0 : decode cX4_buyRow 0 = .ok (.iconst 0, 1) := by decide +kernel
theorem dX4_buyRow_1 : decode cX4_buyRow 1 = .ok (.istore_n 2, 1) := by decide +kernel
theorem dX4_buyRow_2 : decode cX4_buyRow 2 = .ok (.iload_n 1, 1) := by decide +kernel
theorem dX4_buyRow_3 : decode cX4_buyRow 3 = .ok (.istore_n 3, 1) := by decide +kernel
theorem dX4_buyRow_4 : decode cX4_buyRow 4 = .ok (.iconst 0, 1) := by decide +kernel
theorem dX4_buyRow_5 : decode cX4_buyRow 5 = .ok (.istore 4, 2) := by decide +kernel
theorem dX4_buyRow_7 : decode cX4_buyRow 7 = .ok (.iload 4, 2) := by decide +kernel
theorem dX4_buyRow_9 : decode cX4_buyRow 9 = .ok (.aload_n 0, 1) := by decide +kernel
theorem dX4_buyRow_10 : decode cX4_buyRow 10 = .ok (.getfield 29, 3) := by decide +kernel
theorem dX4_buyRow_13 : decode cX4_buyRow 13 = .ok (.if_icmp .ge 47, 3) := by decide +kernel
theorem dX4_buyRow_16 : decode cX4_buyRow 16 = .ok (.aload_n 0, 1) := by decide +kernel
theorem dX4_buyRow_17 : decode cX4_buyRow 17 = .ok (.getfield 20, 3) := by decide +kernel
theorem dX4_buyRow_20 : decode cX4_buyRow 20 = .ok (.iload_n 3, 1) := by decide +kernel
theorem dX4_buyRow_21 : decode cX4_buyRow 21 = .ok (.iaload, 1) := by decide +kernel
theorem dX4_buyRow_22 : decode cX4_buyRow 22 = .ok (.ifCond .le 38, 3) := by decide +kernel
theorem dX4_buyRow_25 : decode cX4_buyRow 25 = .ok (.aload_n 0, 1) := by decide +kernel
theorem dX4_buyRow_26 : decode cX4_buyRow 26 = .ok (.iload_n 3, 1) := by decide +kernel
theorem dX4_buyRow_27 : decode cX4_buyRow 27 = .ok (.invokevirtual 76, 3) := by decide +kernel
theorem dX4_buyRow_30 : decode cX4_buyRow 30 = .ok (.istore 5, 2) := by decide +kernel
theorem dX4_buyRow_32 : decode cX4_buyRow 32 = .ok (.iload_n 2, 1) := by decide +kernel
theorem dX4_buyRow_33 : decode cX4_buyRow 33 = .ok (.aload_n 0, 1) := by decide +kernel
theorem dX4_buyRow_34 : decode cX4_buyRow 34 = .ok (.getfield 11, 3) := by decide +kernel
theorem dX4_buyRow_37 : decode cX4_buyRow 37 = .ok (.iload_n 3, 1) := by decide +kernel
theorem dX4_buyRow_38 : decode cX4_buyRow 38 = .ok (.aaload, 1) := by decide +kernel
theorem dX4_buyRow_39 : decode cX4_buyRow 39 = .ok (.iload 5, 2) := by decide +kernel
theorem dX4_buyRow_41 : decode cX4_buyRow 41 = .ok (.iaload, 1) := by decide +kernel
theorem dX4_buyRow_42 : decode cX4_buyRow 42 = .ok (.iadd, 1) := by decide +kernel
theorem dX4_buyRow_43 : decode cX4_buyRow 43 = .ok (.istore_n 2, 1) := by decide +kernel
theorem dX4_buyRow_44 : decode cX4_buyRow 44 = .ok (.aload_n 0, 1) := by decide +kernel
theorem dX4_buyRow_45 : decode cX4_buyRow 45 = .ok (.iload_n 3, 1) := by decide +kernel
theorem dX4_buyRow_46 : decode cX4_buyRow 46 = .ok (.iload 5, 2) := by decide +kernel
theorem dX4_buyRow_48 : decode cX4_buyRow 48 = .ok (.invokevirtual 79, 3) := by decide +kernel
theorem dX4_buyRow_51 : decode cX4_buyRow 51 = .ok (.iload 5, 2) := by decide +kernel
theorem dX4_buyRow_53 : decode cX4_buyRow 53 = .ok (.istore_n 3, 1) := by decide +kernel
theorem dX4_buyRow_54 : decode cX4_buyRow 54 = .ok (.iinc 4 1, 3) := by decide +kernel
theorem dX4_buyRow_57 : decode cX4_buyRow 57 = .ok (.goto (-50), 3) := by decide +kernel
theorem dX4_buyRow_60 : decode cX4_buyRow 60 = .ok (.iload_n 2, 1) := by decide +kernel
theorem dX4_buyRow_61 : decode cX4_buyRow 61 = .ok (.ireturn, 1) := by decide +kernel
theorem dX4_nextOnRow_0 : decode cX4_nextOnRow 0 = .ok (.iconst 0, 1) := by decide +kernel
theorem dX4_nextOnRow_1 : decode cX4_nextOnRow 1 = .ok (.istore_n 2, 1) := by decide +kernel
theorem dX4_nextOnRow_2 : decode cX4_nextOnRow 2 = .ok (.iload_n 2, 1) := by decide +kernel
theorem dX4_nextOnRow_3 : decode cX4_nextOnRow 3 = .ok (.aload_n 0, 1) := by decide +kernel
theorem dX4_nextOnRow_4 : decode cX4_nextOnRow 4 = .ok (.getfield 29, 3) := by decide +kernel
theorem dX4_nextOnRow_7 : decode cX4_nextOnRow 7 = .ok (.if_icmp .ge 44, 3) := by decide +kernel
theorem dX4_nextOnRow_10 : decode cX4_nextOnRow 10 = .ok (.aload_n 0, 1) := by decide +kernel
theorem dX4_nextOnRow_11 : decode cX4_nextOnRow 11 = .ok (.getfield 11, 3) := by decide +kernel
theorem dX4_nextOnRow_14 : decode cX4_nextOnRow 14 = .ok (.iload_n 1, 1) := by decide +kernel
theorem dX4_nextOnRow_15 : decode cX4_nextOnRow 15 = .ok (.aaload, 1) := by decide +kernel
theorem dX4_nextOnRow_16 : decode cX4_nextOnRow 16 = .ok (.iload_n 2, 1) := by decide +kernel
theorem dX4_nextOnRow_17 : decode cX4_nextOnRow 17 = .ok (.iaload, 1) := by decide +kernel
theorem dX4_nextOnRow_18 : decode cX4_nextOnRow 18 = .ok (.ifCond .le 27, 3) := by decide +kernel
theorem dX4_nextOnRow_21 : decode cX4_nextOnRow 21 = .ok (.aload_n 0, 1) := by decide +kernel
theorem dX4_nextOnRow_22 : decode cX4_nextOnRow 22 = .ok (.getfield 20, 3) := by decide +kernel
theorem dX4_nextOnRow_25 : decode cX4_nextOnRow 25 = .ok (.iload_n 2, 1) := by decide +kernel
theorem dX4_nextOnRow_26 : decode cX4_nextOnRow 26 = .ok (.iaload, 1) := by decide +kernel
theorem dX4_nextOnRow_27 : decode cX4_nextOnRow 27 = .ok (.aload_n 0, 1) := by decide +kernel
theorem dX4_nextOnRow_28 : decode cX4_nextOnRow 28 = .ok (.iload_n 1, 1) := by decide +kernel
theorem dX4_nextOnRow_29 : decode cX4_nextOnRow 29 = .ok (.iload_n 2, 1) := by decide +kernel
theorem dX4_nextOnRow_30 : decode cX4_nextOnRow 30 = .ok (.invokevirtual 67, 3) := by decide +kernel
theorem dX4_nextOnRow_33 : decode cX4_nextOnRow 33 = .ok (.iadd, 1) := by decide +kernel
theorem dX4_nextOnRow_34 : decode cX4_nextOnRow 34 = .ok (.aload_n 0, 1) := by decide +kernel
theorem dX4_nextOnRow_35 : decode cX4_nextOnRow 35 = .ok (.getfield 20, 3) := by decide +kernel
theorem dX4_nextOnRow_38 : decode cX4_nextOnRow 38 = .ok (.iload_n 1, 1) := by decide +kernel
theorem dX4_nextOnRow_39 : decode cX4_nextOnRow 39 = .ok (.iaload, 1) := by decide +kernel
theorem dX4_nextOnRow_40 : decode cX4_nextOnRow 40 = .ok (.if_icmp .ne 5, 3) := by decide +kernel
theorem dX4_nextOnRow_43 : decode cX4_nextOnRow 43 = .ok (.iload_n 2, 1) := by decide +kernel
theorem dX4_nextOnRow_44 : decode cX4_nextOnRow 44 = .ok (.ireturn, 1) := by decide +kernel
theorem dX4_nextOnRow_45 : decode cX4_nextOnRow 45 = .ok (.iinc 2 1, 3) := by decide +kernel
theorem dX4_nextOnRow_48 : decode cX4_nextOnRow 48 = .ok (.goto (-46), 3) := by decide +kernel
theorem dX4_nextOnRow_51 : decode cX4_nextOnRow 51 = .ok (.iload_n 1, 1) := by decide +kernel
theorem dX4_nextOnRow_52 : decode cX4_nextOnRow 52 = .ok (.ireturn, 1) := by decide +kernel
theorem dX4_buyWay_0 : decode cX4_buyWay 0 = .ok (.aload_n 0, 1) := by decide +kernel
theorem dX4_buyWay_1 : decode cX4_buyWay 1 = .ok (.getfield 16, 3) := by decide +kernel
theorem dX4_buyWay_4 : decode cX4_buyWay 4 = .ok (.iload_n 1, 1) := by decide +kernel
theorem dX4_buyWay_5 : decode cX4_buyWay 5 = .ok (.dup2, 1) := by decide +kernel
theorem dX4_buyWay_6 : decode cX4_buyWay 6 = .ok (.iaload, 1) := by decide +kernel
theorem dX4_buyWay_7 : decode cX4_buyWay 7 = .ok (.iconst 1, 1) := by decide +kernel
theorem dX4_buyWay_8 : decode cX4_buyWay 8 = .ok (.iload_n 2, 1) := by decide +kernel
theorem dX4_buyWay_9 : decode cX4_buyWay 9 = .ok (.ishl, 1) := by decide +kernel
theorem dX4_buyWay_10 : decode cX4_buyWay 10 = .ok (.ior, 1) := by decide +kernel
theorem dX4_buyWay_11 : decode cX4_buyWay 11 = .ok (.iastore, 1) := by decide +kernel
theorem dX4_buyWay_12 : decode cX4_buyWay 12 = .ok (.aload_n 0, 1) := by decide +kernel
theorem dX4_buyWay_13 : decode cX4_buyWay 13 = .ok (.getfield 16, 3) := by decide +kernel
theorem dX4_buyWay_16 : decode cX4_buyWay 16 = .ok (.iload_n 2, 1) := by decide +kernel
theorem dX4_buyWay_17 : decode cX4_buyWay 17 = .ok (.dup2, 1) := by decide +kernel
theorem dX4_buyWay_18 : decode cX4_buyWay 18 = .ok (.iaload, 1) := by decide +kernel
theorem dX4_buyWay_19 : decode cX4_buyWay 19 = .ok (.iconst 1, 1) := by decide +kernel
theorem dX4_buyWay_20 : decode cX4_buyWay 20 = .ok (.iload_n 1, 1) := by decide +kernel
theorem dX4_buyWay_21 : decode cX4_buyWay 21 = .ok (.ishl, 1) := by decide +kernel
theorem dX4_buyWay_22 : decode cX4_buyWay 22 = .ok (.ior, 1) := by decide +kernel
theorem dX4_buyWay_23 : decode cX4_buyWay 23 = .ok (.iastore, 1) := by decide +kernel
theorem dX4_buyWay_24 : decode cX4_buyWay 24 = .ok (.aload_n 0, 1) := by decide +kernel
theorem dX4_buyWay_25 : decode cX4_buyWay 25 = .ok (.dup, 1) := by decide +kernel
theorem dX4_buyWay_26 : decode cX4_buyWay 26 = .ok (.getfield 49, 3) := by decide +kernel
theorem dX4_buyWay_29 : decode cX4_buyWay 29 = .ok (.iconst 1, 1) := by decide +kernel
theorem dX4_buyWay_30 : decode cX4_buyWay 30 = .ok (.iload_n 1, 1) := by decide +kernel
theorem dX4_buyWay_31 : decode cX4_buyWay 31 = .ok (.ishl, 1) := by decide +kernel
theorem dX4_buyWay_32 : decode cX4_buyWay 32 = .ok (.iconst 1, 1) := by decide +kernel
theorem dX4_buyWay_33 : decode cX4_buyWay 33 = .ok (.iload_n 2, 1) := by decide +kernel
theorem dX4_buyWay_34 : decode cX4_buyWay 34 = .ok (.ishl, 1) := by decide +kernel
theorem dX4_buyWay_35 : decode cX4_buyWay 35 = .ok (.ior, 1) := by decide +kernel
theorem dX4_buyWay_36 : decode cX4_buyWay 36 = .ok (.ior, 1) := by decide +kernel
theorem dX4_buyWay_37 : decode cX4_buyWay 37 = .ok (.putfield 49, 3) := by decide +kernel
theorem dX4_buyWay_40 : decode cX4_buyWay 40 = .ok (.aload_n 0, 1) := by decide +kernel
theorem dX4_buyWay_41 : decode cX4_buyWay 41 = .ok (.dup, 1) := by decide +kernel
theorem dX4_buyWay_42 : decode cX4_buyWay 42 = .ok (.getfield 83, 3) := by decide +kernel
theorem dX4_buyWay_45 : decode cX4_buyWay 45 = .ok (.iconst 1, 1) := by decide +kernel
theorem dX4_buyWay_46 : decode cX4_buyWay 46 = .ok (.iadd, 1) := by decide +kernel
theorem dX4_buyWay_47 : decode cX4_buyWay 47 = .ok (.putfield 83, 3) := by decide +kernel
theorem dX4_buyWay_50 : decode cX4_buyWay 50 = .ok (.return_, 1) := by decide +kernel
theorem dX4_least_0 : decode cX4_least 0 = .ok (.aload_n 0, 1) := by decide +kernel
theorem dX4_least_1 : decode cX4_least 1 = .ok (.getfield 43, 3) := by decide +kernel
theorem dX4_least_4 : decode cX4_least 4 = .ok (.invokestatic 86, 3) := by decide +kernel
theorem dX4_least_7 : decode cX4_least 7 = .ok (.iconst 2, 1) := by decide +kernel
theorem dX4_least_8 : decode cX4_least 8 = .ok (.isub, 1) := by decide +kernel
theorem dX4_least_9 : decode cX4_least 9 = .ok (.istore_n 1, 1) := by decide +kernel
theorem dX4_least_10 : decode cX4_least 10 = .ok (.iload_n 1, 1) := by decide +kernel
theorem dX4_least_11 : decode cX4_least 11 = .ok (.ifCond .ge 5, 3) := by decide +kernel
theorem dX4_least_14 : decode cX4_least 14 = .ok (.iconst 0, 1) := by decide +kernel
theorem dX4_least_15 : decode cX4_least 15 = .ok (.ireturn, 1) := by decide +kernel
theorem dX4_least_16 : decode cX4_least 16 = .ok (.aload_n 0, 1) := by decide +kernel
theorem dX4_least_17 : decode cX4_least 17 = .ok (.invokevirtual 91, 3) := by decide +kernel
theorem dX4_least_20 : decode cX4_least 20 = .ok (.ldc 55, 2) := by decide +kernel
theorem dX4_least_22 : decode cX4_least 22 = .ok (.istore_n 2, 1) := by decide +kernel
theorem dX4_least_23 : decode cX4_least 23 = .ok (.iconst 0, 1) := by decide +kernel
theorem dX4_least_24 : decode cX4_least 24 = .ok (.istore_n 3, 1) := by decide +kernel
theorem dX4_least_25 : decode cX4_least 25 = .ok (.iload_n 3, 1) := by decide +kernel
theorem dX4_least_26 : decode cX4_least 26 = .ok (.iconst 1, 1) := by decide +kernel
theorem dX4_least_27 : decode cX4_least 27 = .ok (.aload_n 0, 1) := by decide +kernel
theorem dX4_least_28 : decode cX4_least 28 = .ok (.getfield 29, 3) := by decide +kernel
theorem dX4_least_31 : decode cX4_least 31 = .ok (.ishl, 1) := by decide +kernel
theorem dX4_least_32 : decode cX4_least 32 = .ok (.if_icmp .ge 41, 3) := by decide +kernel
theorem dX4_least_35 : decode cX4_least 35 = .ok (.iload_n 3, 1) := by decide +kernel
theorem dX4_least_36 : decode cX4_least 36 = .ok (.aload_n 0, 1) := by decide +kernel
theorem dX4_least_37 : decode cX4_least 37 = .ok (.getfield 43, 3) := by decide +kernel
theorem dX4_least_40 : decode cX4_least 40 = .ok (.iand, 1) := by decide +kernel
theorem dX4_least_41 : decode cX4_least 41 = .ok (.ifCond .ne 26, 3) := by decide +kernel
theorem dX4_least_44 : decode cX4_least 44 = .ok (.iload_n 3, 1) := by decide +kernel
theorem dX4_least_45 : decode cX4_least 45 = .ok (.invokestatic 86, 3) := by decide +kernel
theorem dX4_least_48 : decode cX4_least 48 = .ok (.iload_n 1, 1) := by decide +kernel
theorem dX4_least_49 : decode cX4_least 49 = .ok (.if_icmp .gt 18, 3) := by decide +kernel
theorem dX4_least_52 : decode cX4_least 52 = .ok (.iload_n 2, 1) := by decide +kernel
theorem dX4_least_53 : decode cX4_least 53 = .ok (.aload_n 0, 1) := by decide +kernel
theorem dX4_least_54 : decode cX4_least 54 = .ok (.aload_n 0, 1) := by decide +kernel
theorem dX4_least_55 : decode cX4_least 55 = .ok (.getfield 43, 3) := by decide +kernel
theorem dX4_least_58 : decode cX4_least 58 = .ok (.iload_n 3, 1) := by decide +kernel
theorem dX4_least_59 : decode cX4_least 59 = .ok (.ior, 1) := by decide +kernel
theorem dX4_least_60 : decode cX4_least 60 = .ok (.invokevirtual 94, 3) := by decide +kernel
theorem dX4_least_63 : decode cX4_least 63 = .ok (.invokestatic 71, 3) := by decide +kernel
theorem dX4_least_66 : decode cX4_least 66 = .ok (.istore_n 2, 1) := by decide +kernel
theorem dX4_least_67 : decode cX4_least 67 = .ok (.iinc 3 1, 3) := by decide +kernel
theorem dX4_least_70 : decode cX4_least 70 = .ok (.goto (-45), 3) := by decide +kernel
theorem dX4_least_73 : decode cX4_least 73 = .ok (.iload_n 2, 1) := by decide +kernel
theorem dX4_least_74 : decode cX4_least 74 = .ok (.ldc 55, 2) := by decide +kernel
theorem dX4_least_76 : decode cX4_least 76 = .ok (.if_icmp .ge 7, 3) := by decide +kernel
theorem dX4_least_79 : decode cX4_least 79 = .ok (.iload_n 2, 1) := by decide +kernel
theorem dX4_least_80 : decode cX4_least 80 = .ok (.goto 5, 3) := by decide +kernel
theorem dX4_least_83 : decode cX4_least 83 = .ok (.ldc 56, 2) := by decide +kernel
theorem dX4_least_85 : decode cX4_least 85 = .ok (.ireturn, 1) := by decide +kernel
theorem dX4_findNearest_0 : decode cX4_findNearest 0 = .ok (.iconst 0, 1) := by decide +kernel
theorem dX4_findNearest_1 : decode cX4_findNearest 1 = .ok (.istore_n 1, 1) := by decide +kernel
theorem dX4_findNearest_2 : decode cX4_findNearest 2 = .ok (.iload_n 1, 1) := by decide +kernel
theorem dX4_findNearest_3 : decode cX4_findNearest 3 = .ok (.aload_n 0, 1) := by decide +kernel
theorem dX4_findNearest_4 : decode cX4_findNearest 4 = .ok (.getfield 29, 3) := by decide +kernel
theorem dX4_findNearest_7 : decode cX4_findNearest 7 = .ok (.if_icmp .ge 66, 3) := by decide +kernel
theorem dX4_findNearest_10 : decode cX4_findNearest 10 = .ok (.iconst 0, 1) := by decide +kernel
theorem dX4_findNearest_11 : decode cX4_findNearest 11 = .ok (.istore_n 2, 1) := by decide +kernel
theorem dX4_findNearest_12 : decode cX4_findNearest 12 = .ok (.iload_n 2, 1) := by decide +kernel
theorem dX4_findNearest_13 : decode cX4_findNearest 13 = .ok (.aload_n 0, 1) := by decide +kernel
theorem dX4_findNearest_14 : decode cX4_findNearest 14 = .ok (.getfield 29, 3) := by decide +kernel
theorem dX4_findNearest_17 : decode cX4_findNearest 17 = .ok (.if_icmp .ge 41, 3) := by decide +kernel
theorem dX4_findNearest_20 : decode cX4_findNearest 20 = .ok (.aload_n 0, 1) := by decide +kernel
theorem dX4_findNearest_21 : decode cX4_findNearest 21 = .ok (.getfield 23, 3) := by decide +kernel
theorem dX4_findNearest_24 : decode cX4_findNearest 24 = .ok (.iload_n 1, 1) := by decide +kernel
theorem dX4_findNearest_25 : decode cX4_findNearest 25 = .ok (.aaload, 1) := by decide +kernel
theorem dX4_findNearest_26 : decode cX4_findNearest 26 = .ok (.iload_n 2, 1) := by decide +kernel
theorem dX4_findNearest_27 : decode cX4_findNearest 27 = .ok (.aload_n 0, 1) := by decide +kernel
theorem dX4_findNearest_28 : decode cX4_findNearest 28 = .ok (.getfield 11, 3) := by decide +kernel
theorem dX4_findNearest_31 : decode cX4_findNearest 31 = .ok (.iload_n 1, 1) := by decide +kernel
theorem dX4_findNearest_32 : decode cX4_findNearest 32 = .ok (.aaload, 1) := by decide +kernel
theorem dX4_findNearest_33 : decode cX4_findNearest 33 = .ok (.iload_n 2, 1) := by decide +kernel
theorem dX4_findNearest_34 : decode cX4_findNearest 34 = .ok (.iaload, 1) := by decide +kernel
theorem dX4_findNearest_35 : decode cX4_findNearest 35 = .ok (.ifCond .le 14, 3) := by decide +kernel
theorem dX4_findNearest_38 : decode cX4_findNearest 38 = .ok (.aload_n 0, 1) := by decide +kernel
theorem dX4_findNearest_39 : decode cX4_findNearest 39 = .ok (.getfield 11, 3) := by decide +kernel
theorem dX4_findNearest_42 : decode cX4_findNearest 42 = .ok (.iload_n 1, 1) := by decide +kernel
theorem dX4_findNearest_43 : decode cX4_findNearest 43 = .ok (.aaload, 1) := by decide +kernel
theorem dX4_findNearest_44 : decode cX4_findNearest 44 = .ok (.iload_n 2, 1) := by decide +kernel
theorem dX4_findNearest_45 : decode cX4_findNearest 45 = .ok (.iaload, 1) := by decide +kernel
theorem dX4_findNearest_46 : decode cX4_findNearest 46 = .ok (.goto 5, 3) := by decide +kernel
theorem dX4_findNearest_49 : decode cX4_findNearest 49 = .ok (.ldc 55, 2) := by decide +kernel
theorem dX4_findNearest_51 : decode cX4_findNearest 51 = .ok (.iastore, 1) := by decide +kernel
theorem dX4_findNearest_52 : decode cX4_findNearest 52 = .ok (.iinc 2 1, 3) := by decide +kernel
theorem dX4_findNearest_55 : decode cX4_findNearest 55 = .ok (.goto (-43), 3) := by decide +kernel
theorem dX4_findNearest_58 : decode cX4_findNearest 58 = .ok (.aload_n 0, 1) := by decide +kernel
theorem dX4_findNearest_59 : decode cX4_findNearest 59 = .ok (.getfield 23, 3) := by decide +kernel
theorem dX4_findNearest_62 : decode cX4_findNearest 62 = .ok (.iload_n 1, 1) := by decide +kernel
theorem dX4_findNearest_63 : decode cX4_findNearest 63 = .ok (.aaload, 1) := by decide +kernel
theorem dX4_findNearest_64 : decode cX4_findNearest 64 = .ok (.iload_n 1, 1) := by decide +kernel
theorem dX4_findNearest_65 : decode cX4_findNearest 65 = .ok (.iconst 0, 1) := by decide +kernel
theorem dX4_findNearest_66 : decode cX4_findNearest 66 = .ok (.iastore, 1) := by decide +kernel
theorem dX4_findNearest_67 : decode cX4_findNearest 67 = .ok (.iinc 1 1, 3) := by decide +kernel
theorem dX4_findNearest_70 : decode cX4_findNearest 70 = .ok (.goto (-68), 3) := by decide +kernel
theorem dX4_findNearest_73 : decode cX4_findNearest 73 = .ok (.iconst 0, 1) := by decide +kernel
theorem dX4_findNearest_74 : decode cX4_findNearest 74 = .ok (.istore_n 1, 1) := by decide +kernel
theorem dX4_findNearest_75 : decode cX4_findNearest 75 = .ok (.iload_n 1, 1) := by decide +kernel
theorem dX4_findNearest_76 : decode cX4_findNearest 76 = .ok (.aload_n 0, 1) := by decide +kernel
theorem dX4_findNearest_77 : decode cX4_findNearest 77 = .ok (.getfield 29, 3) := by decide +kernel
theorem dX4_findNearest_80 : decode cX4_findNearest 80 = .ok (.if_icmp .ge 44, 3) := by decide +kernel
theorem dX4_findNearest_83 : decode cX4_findNearest 83 = .ok (.iconst 0, 1) := by decide +kernel
theorem dX4_findNearest_84 : decode cX4_findNearest 84 = .ok (.istore_n 2, 1) := by decide +kernel
theorem dX4_findNearest_85 : decode cX4_findNearest 85 = .ok (.iload_n 2, 1) := by decide +kernel
theorem dX4_findNearest_86 : decode cX4_findNearest 86 = .ok (.aload_n 0, 1) := by decide +kernel
theorem dX4_findNearest_87 : decode cX4_findNearest 87 = .ok (.getfield 29, 3) := by decide +kernel
theorem dX4_findNearest_90 : decode cX4_findNearest 90 = .ok (.if_icmp .ge 28, 3) := by decide +kernel
theorem dX4_findNearest_93 : decode cX4_findNearest 93 = .ok (.aload_n 0, 1) := by decide +kernel
theorem dX4_findNearest_94 : decode cX4_findNearest 94 = .ok (.aload_n 0, 1) := by decide +kernel
theorem dX4_findNearest_95 : decode cX4_findNearest 95 = .ok (.getfield 23, 3) := by decide +kernel
theorem dX4_findNearest_98 : decode cX4_findNearest 98 = .ok (.iload_n 2, 1) := by decide +kernel
theorem dX4_findNearest_99 : decode cX4_findNearest 99 = .ok (.aaload, 1) := by decide +kernel
theorem dX4_findNearest_100 : decode cX4_findNearest 100 = .ok (.aload_n 0, 1) := by decide +kernel
theorem dX4_findNearest_101 : decode cX4_findNearest 101 = .ok (.getfield 23, 3) := by decide +kernel
theorem dX4_findNearest_104 : decode cX4_findNearest 104 = .ok (.iload_n 2, 1) := by decide +kernel
theorem dX4_findNearest_105 : decode cX4_findNearest 105 = .ok (.aaload, 1) := by decide +kernel
theorem dX4_findNearest_106 : decode cX4_findNearest 106 = .ok (.iload_n 1, 1) := by decide +kernel
theorem dX4_findNearest_107 : decode cX4_findNearest 107 = .ok (.iaload, 1) := by decide +kernel
theorem dX4_findNearest_108 : decode cX4_findNearest 108 = .ok (.iload_n 1, 1) := by decide +kernel
theorem dX4_findNearest_109 : decode cX4_findNearest 109 = .ok (.invokevirtual 97, 3) := by decide +kernel
theorem dX4_findNearest_112 : decode cX4_findNearest 112 = .ok (.iinc 2 1, 3) := by decide +kernel
theorem dX4_findNearest_115 : decode cX4_findNearest 115 = .ok (.goto (-30), 3) := by decide +kernel
theorem dX4_findNearest_118 : decode cX4_findNearest 118 = .ok (.iinc 1 1, 3) := by decide +kernel
theorem dX4_findNearest_121 : decode cX4_findNearest 121 = .ok (.goto (-46), 3) := by decide +kernel
theorem dX4_findNearest_124 : decode cX4_findNearest 124 = .ok (.return_, 1) := by decide +kernel
theorem dX4_shorten_0 : decode cX4_shorten 0 = .ok (.iconst 0, 1) := by decide +kernel
theorem dX4_shorten_1 : decode cX4_shorten 1 = .ok (.istore 4, 2) := by decide +kernel
theorem dX4_shorten_3 : decode cX4_shorten 3 = .ok (.iload 4, 2) := by decide +kernel
theorem dX4_shorten_5 : decode cX4_shorten 5 = .ok (.aload_n 0, 1) := by decide +kernel
theorem dX4_shorten_6 : decode cX4_shorten 6 = .ok (.getfield 29, 3) := by decide +kernel
theorem dX4_shorten_9 : decode cX4_shorten 9 = .ok (.if_icmp .ge 31, 3) := by decide +kernel
theorem dX4_shorten_12 : decode cX4_shorten 12 = .ok (.aload_n 1, 1) := by decide +kernel
theorem dX4_shorten_13 : decode cX4_shorten 13 = .ok (.iload 4, 2) := by decide +kernel
theorem dX4_shorten_15 : decode cX4_shorten 15 = .ok (.aload_n 1, 1) := by decide +kernel
theorem dX4_shorten_16 : decode cX4_shorten 16 = .ok (.iload 4, 2) := by decide +kernel
theorem dX4_shorten_18 : decode cX4_shorten 18 = .ok (.iaload, 1) := by decide +kernel
theorem dX4_shorten_19 : decode cX4_shorten 19 = .ok (.iload_n 2, 1) := by decide +kernel
theorem dX4_shorten_20 : decode cX4_shorten 20 = .ok (.aload_n 0, 1) := by decide +kernel
theorem dX4_shorten_21 : decode cX4_shorten 21 = .ok (.getfield 23, 3) := by decide +kernel
theorem dX4_shorten_24 : decode cX4_shorten 24 = .ok (.iload_n 3, 1) := by decide +kernel
theorem dX4_shorten_25 : decode cX4_shorten 25 = .ok (.aaload, 1) := by decide +kernel
theorem dX4_shorten_26 : decode cX4_shorten 26 = .ok (.iload 4, 2) := by decide +kernel
theorem dX4_shorten_28 : decode cX4_shorten 28 = .ok (.iaload, 1) := by decide +kernel
theorem dX4_shorten_29 : decode cX4_shorten 29 = .ok (.iadd, 1) := by decide +kernel
theorem dX4_shorten_30 : decode cX4_shorten 30 = .ok (.invokestatic 71, 3) := by decide +kernel
theorem dX4_shorten_33 : decode cX4_shorten 33 = .ok (.iastore, 1) := by decide +kernel
theorem dX4_shorten_34 : decode cX4_shorten 34 = .ok (.iinc 4 1, 3) := by decide +kernel
theorem dX4_shorten_37 : decode cX4_shorten 37 = .ok (.goto (-34), 3) := by decide +kernel
theorem dX4_shorten_40 : decode cX4_shorten 40 = .ok (.return_, 1) := by decide +kernel
theorem dX4_treeOf_0 : decode cX4_treeOf 0 = .ok (.iconst 0, 1) := by decide +kernel
theorem dX4_treeOf_1 : decode cX4_treeOf 1 = .ok (.istore_n 2, 1) := by decide +kernel
theorem dX4_treeOf_2 : decode cX4_treeOf 2 = .ok (.iload_n 1, 1) := by decide +kernel
theorem dX4_treeOf_3 : decode cX4_treeOf 3 = .ok (.iconst 1, 1) := by decide +kernel
theorem dX4_treeOf_4 : decode cX4_treeOf 4 = .ok (.aload_n 0, 1) := by decide +kernel
theorem dX4_treeOf_5 : decode cX4_treeOf 5 = .ok (.getfield 46, 3) := by decide +kernel
theorem dX4_treeOf_8 : decode cX4_treeOf 8 = .ok (.ishl, 1) := by decide +kernel
theorem dX4_treeOf_9 : decode cX4_treeOf 9 = .ok (.iconst (-1), 1) := by decide +kernel
theorem dX4_treeOf_10 : decode cX4_treeOf 10 = .ok (.ixor, 1) := by decide +kernel
theorem dX4_treeOf_11 : decode cX4_treeOf 11 = .ok (.iand, 1) := by decide +kernel
theorem dX4_treeOf_12 : decode cX4_treeOf 12 = .ok (.istore_n 3, 1) := by decide +kernel
theorem dX4_treeOf_13 : decode cX4_treeOf 13 = .ok (.iconst 0, 1) := by decide +kernel
theorem dX4_treeOf_14 : decode cX4_treeOf 14 = .ok (.istore 4, 2) := by decide +kernel
theorem dX4_treeOf_16 : decode cX4_treeOf 16 = .ok (.iload 4, 2) := by decide +kernel
theorem dX4_treeOf_18 : decode cX4_treeOf 18 = .ok (.aload_n 0, 1) := by decide +kernel
theorem dX4_treeOf_19 : decode cX4_treeOf 19 = .ok (.getfield 29, 3) := by decide +kernel
theorem dX4_treeOf_22 : decode cX4_treeOf 22 = .ok (.if_icmp .ge 28, 3) := by decide +kernel
theorem dX4_treeOf_25 : decode cX4_treeOf 25 = .ok (.aload_n 0, 1) := by decide +kernel
theorem dX4_treeOf_26 : decode cX4_treeOf 26 = .ok (.getfield 26, 3) := by decide +kernel
theorem dX4_treeOf_29 : decode cX4_treeOf 29 = .ok (.iload 4, 2) := by decide +kernel
theorem dX4_treeOf_31 : decode cX4_treeOf 31 = .ok (.aload_n 0, 1) := by decide +kernel
theorem dX4_treeOf_32 : decode cX4_treeOf 32 = .ok (.getfield 23, 3) := by decide +kernel
theorem dX4_treeOf_35 : decode cX4_treeOf 35 = .ok (.aload_n 0, 1) := by decide +kernel
theorem dX4_treeOf_36 : decode cX4_treeOf 36 = .ok (.getfield 46, 3) := by decide +kernel
theorem dX4_treeOf_39 : decode cX4_treeOf 39 = .ok (.aaload, 1) := by decide +kernel
theorem dX4_treeOf_40 : decode cX4_treeOf 40 = .ok (.iload 4, 2) := by decide +kernel
theorem dX4_treeOf_42 : decode cX4_treeOf 42 = .ok (.iaload, 1) := by decide +kernel
theorem dX4_treeOf_43 : decode cX4_treeOf 43 = .ok (.iastore, 1) := by decide +kernel
theorem dX4_treeOf_44 : decode cX4_treeOf 44 = .ok (.iinc 4 1, 3) := by decide +kernel
theorem dX4_treeOf_47 : decode cX4_treeOf 47 = .ok (.goto (-31), 3) := by decide +kernel
theorem dX4_treeOf_50 : decode cX4_treeOf 50 = .ok (.iconst 0, 1) := by decide +kernel
theorem dX4_treeOf_51 : decode cX4_treeOf 51 = .ok (.istore 4, 2) := by decide +kernel
theorem dX4_treeOf_53 : decode cX4_treeOf 53 = .ok (.iload 4, 2) := by decide +kernel
theorem dX4_treeOf_55 : decode cX4_treeOf 55 = .ok (.aload_n 0, 1) := by decide +kernel
theorem dX4_treeOf_56 : decode cX4_treeOf 56 = .ok (.getfield 29, 3) := by decide +kernel
theorem dX4_treeOf_59 : decode cX4_treeOf 59 = .ok (.if_icmp .ge 50, 3) := by decide +kernel
theorem dX4_treeOf_62 : decode cX4_treeOf 62 = .ok (.iload_n 3, 1) := by decide +kernel
theorem dX4_treeOf_63 : decode cX4_treeOf 63 = .ok (.ifCond .eq 46, 3) := by decide +kernel
theorem dX4_treeOf_66 : decode cX4_treeOf 66 = .ok (.aload_n 0, 1) := by decide +kernel
theorem dX4_treeOf_67 : decode cX4_treeOf 67 = .ok (.iload_n 3, 1) := by decide +kernel
theorem dX4_treeOf_68 : decode cX4_treeOf 68 = .ok (.invokevirtual 101, 3) := by decide +kernel
theorem dX4_treeOf_71 : decode cX4_treeOf 71 = .ok (.istore 5, 2) := by decide +kernel
theorem dX4_treeOf_73 : decode cX4_treeOf 73 = .ok (.iload_n 2, 1) := by decide +kernel
theorem dX4_treeOf_74 : decode cX4_treeOf 74 = .ok (.aload_n 0, 1) := by decide +kernel
theorem dX4_treeOf_75 : decode cX4_treeOf 75 = .ok (.getfield 26, 3) := by decide +kernel
theorem dX4_treeOf_78 : decode cX4_treeOf 78 = .ok (.iload 5, 2) := by decide +kernel
theorem dX4_treeOf_80 : decode cX4_treeOf 80 = .ok (.iaload, 1) := by decide +kernel
theorem dX4_treeOf_81 : decode cX4_treeOf 81 = .ok (.iadd, 1) := by decide +kernel
theorem dX4_treeOf_82 : decode cX4_treeOf 82 = .ok (.istore_n 2, 1) := by decide +kernel
theorem dX4_treeOf_83 : decode cX4_treeOf 83 = .ok (.iload_n 3, 1) := by decide +kernel
theorem dX4_treeOf_84 : decode cX4_treeOf 84 = .ok (.iconst 1, 1) := by decide +kernel
theorem dX4_treeOf_85 : decode cX4_treeOf 85 = .ok (.iload 5, 2) := by decide +kernel
theorem dX4_treeOf_87 : decode cX4_treeOf 87 = .ok (.ishl, 1) := by decide +kernel
theorem dX4_treeOf_88 : decode cX4_treeOf 88 = .ok (.iconst (-1), 1) := by decide +kernel
theorem dX4_treeOf_89 : decode cX4_treeOf 89 = .ok (.ixor, 1) := by decide +kernel
theorem dX4_treeOf_90 : decode cX4_treeOf 90 = .ok (.iand, 1) := by decide +kernel
theorem dX4_treeOf_91 : decode cX4_treeOf 91 = .ok (.istore_n 3, 1) := by decide +kernel
theorem dX4_treeOf_92 : decode cX4_treeOf 92 = .ok (.aload_n 0, 1) := by decide +kernel
theorem dX4_treeOf_93 : decode cX4_treeOf 93 = .ok (.aload_n 0, 1) := by decide +kernel
theorem dX4_treeOf_94 : decode cX4_treeOf 94 = .ok (.getfield 26, 3) := by decide +kernel
theorem dX4_treeOf_97 : decode cX4_treeOf 97 = .ok (.iconst 0, 1) := by decide +kernel
theorem dX4_treeOf_98 : decode cX4_treeOf 98 = .ok (.iload 5, 2) := by decide +kernel
theorem dX4_treeOf_100 : decode cX4_treeOf 100 = .ok (.invokevirtual 97, 3) := by decide +kernel
theorem dX4_treeOf_103 : decode cX4_treeOf 103 = .ok (.iinc 4 1, 3) := by decide +kernel
theorem dX4_treeOf_106 : decode cX4_treeOf 106 = .ok (.goto (-53), 3) := by decide +kernel
theorem dX4_treeOf_109 : decode cX4_treeOf 109 = .ok (.iload_n 2, 1) := by decide +kernel
theorem dX4_treeOf_110 : decode cX4_treeOf 110 = .ok (.ireturn, 1) := by decide +kernel
theorem dX4_nearestOf_0 : decode cX4_nearestOf 0 = .ok (.aload_n 0, 1) := by decide +kernel
theorem dX4_nearestOf_1 : decode cX4_nearestOf 1 = .ok (.getfield 46, 3) := by decide +kernel
theorem dX4_nearestOf_4 : decode cX4_nearestOf 4 = .ok (.istore_n 2, 1) := by decide +kernel
theorem dX4_nearestOf_5 : decode cX4_nearestOf 5 = .ok (.ldc 104, 2) := by decide +kernel
theorem dX4_nearestOf_7 : decode cX4_nearestOf 7 = .ok (.istore_n 3, 1) := by decide +kernel
theorem dX4_nearestOf_8 : decode cX4_nearestOf 8 = .ok (.iconst 0, 1) := by decide +kernel
theorem dX4_nearestOf_9 : decode cX4_nearestOf 9 = .ok (.istore 4, 2) := by decide +kernel
theorem dX4_nearestOf_11 : decode cX4_nearestOf 11 = .ok (.iload 4, 2) := by decide +kernel
theorem dX4_nearestOf_13 : decode cX4_nearestOf 13 = .ok (.aload_n 0, 1) := by decide +kernel
theorem dX4_nearestOf_14 : decode cX4_nearestOf 14 = .ok (.getfield 29, 3) := by decide +kernel
theorem dX4_nearestOf_17 : decode cX4_nearestOf 17 = .ok (.if_icmp .ge 40, 3) := by decide +kernel
theorem dX4_nearestOf_20 : decode cX4_nearestOf 20 = .ok (.iload_n 1, 1) := by decide +kernel
theorem dX4_nearestOf_21 : decode cX4_nearestOf 21 = .ok (.iload 4, 2) := by decide +kernel
theorem dX4_nearestOf_23 : decode cX4_nearestOf 23 = .ok (.invokestatic 37, 3) := by decide +kernel
theorem dX4_nearestOf_26 : decode cX4_nearestOf 26 = .ok (.ifCond .eq 25, 3) := by decide +kernel
theorem dX4_nearestOf_29 : decode cX4_nearestOf 29 = .ok (.aload_n 0, 1) := by decide +kernel
theorem dX4_nearestOf_30 : decode cX4_nearestOf 30 = .ok (.getfield 26, 3) := by decide +kernel
theorem dX4_nearestOf_33 : decode cX4_nearestOf 33 = .ok (.iload 4, 2) := by decide +kernel
theorem dX4_nearestOf_35 : decode cX4_nearestOf 35 = .ok (.iaload, 1) := by decide +kernel
theorem dX4_nearestOf_36 : decode cX4_nearestOf 36 = .ok (.iload_n 3, 1) := by decide +kernel
theorem dX4_nearestOf_37 : decode cX4_nearestOf 37 = .ok (.if_icmp .ge 14, 3) := by decide +kernel
theorem dX4_nearestOf_40 : decode cX4_nearestOf 40 = .ok (.iload 4, 2) := by decide +kernel
theorem dX4_nearestOf_42 : decode cX4_nearestOf 42 = .ok (.istore_n 2, 1) := by decide +kernel
theorem dX4_nearestOf_43 : decode cX4_nearestOf 43 = .ok (.aload_n 0, 1) := by decide +kernel
theorem dX4_nearestOf_44 : decode cX4_nearestOf 44 = .ok (.getfield 26, 3) := by decide +kernel
theorem dX4_nearestOf_47 : decode cX4_nearestOf 47 = .ok (.iload 4, 2) := by decide +kernel
theorem dX4_nearestOf_49 : decode cX4_nearestOf 49 = .ok (.iaload, 1) := by decide +kernel
theorem dX4_nearestOf_50 : decode cX4_nearestOf 50 = .ok (.istore_n 3, 1) := by decide +kernel
theorem dX4_nearestOf_51 : decode cX4_nearestOf 51 = .ok (.iinc 4 1, 3) := by decide +kernel
theorem dX4_nearestOf_54 : decode cX4_nearestOf 54 = .ok (.goto (-43), 3) := by decide +kernel
theorem dX4_nearestOf_57 : decode cX4_nearestOf 57 = .ok (.iload_n 2, 1) := by decide +kernel
theorem dX4_nearestOf_58 : decode cX4_nearestOf 58 = .ok (.ireturn, 1) := by decide +kernel
theorem dX5_init_0 : decode cX5_init 0 = .ok (.aload_n 0, 1) := by decide +kernel
theorem dX5_init_1 : decode cX5_init 1 = .ok (.invokespecial 1, 3) := by decide +kernel
theorem dX5_init_4 : decode cX5_init 4 = .ok (.aload_n 0, 1) := by decide +kernel
theorem dX5_init_5 : decode cX5_init 5 = .ok (.new 7, 3) := by decide +kernel
theorem dX5_init_8 : decode cX5_init 8 = .ok (.dup, 1) := by decide +kernel
theorem dX5_init_9 : decode cX5_init 9 = .ok (.invokespecial 9, 3) := by decide +kernel
theorem dX5_init_12 : decode cX5_init 12 = .ok (.putfield 10, 3) := by decide +kernel
theorem dX5_init_15 : decode cX5_init 15 = .ok (.aload_n 0, 1) := by decide +kernel
theorem dX5_init_16 : decode cX5_init 16 = .ok (.new 16, 3) := by decide +kernel
theorem dX5_init_19 : decode cX5_init 19 = .ok (.dup, 1) := by decide +kernel
theorem dX5_init_20 : decode cX5_init 20 = .ok (.invokespecial 18, 3) := by decide +kernel
theorem dX5_init_23 : decode cX5_init 23 = .ok (.putfield 19, 3) := by decide +kernel
theorem dX5_init_26 : decode cX5_init 26 = .ok (.aload_n 0, 1) := by decide +kernel
theorem dX5_init_27 : decode cX5_init 27 = .ok (.new 23, 3) := by decide +kernel
theorem dX5_init_30 : decode cX5_init 30 = .ok (.dup, 1) := by decide +kernel
theorem dX5_init_31 : decode cX5_init 31 = .ok (.invokespecial 25, 3) := by decide +kernel
theorem dX5_init_34 : decode cX5_init 34 = .ok (.putfield 26, 3) := by decide +kernel
theorem dX5_init_37 : decode cX5_init 37 = .ok (.aload_n 0, 1) := by decide +kernel
theorem dX5_init_38 : decode cX5_init 38 = .ok (.new 30, 3) := by decide +kernel
theorem dX5_init_41 : decode cX5_init 41 = .ok (.dup, 1) := by decide +kernel
theorem dX5_init_42 : decode cX5_init 42 = .ok (.invokespecial 32, 3) := by decide +kernel
theorem dX5_init_45 : decode cX5_init 45 = .ok (.putfield 33, 3) := by decide +kernel
theorem dX5_init_48 : decode cX5_init 48 = .ok (.aload_n 0, 1) := by decide +kernel
theorem dX5_init_49 : decode cX5_init 49 = .ok (.new 37, 3) := by decide +kernel
theorem dX5_init_52 : decode cX5_init 52 = .ok (.dup, 1) := by decide +kernel
theorem dX5_init_53 : decode cX5_init 53 = .ok (.invokespecial 39, 3) := by decide +kernel
theorem dX5_init_56 : decode cX5_init 56 = .ok (.putfield 40, 3) := by decide +kernel
theorem dX5_init_59 : decode cX5_init 59 = .ok (.aload_n 0, 1) := by decide +kernel
theorem dX5_init_60 : decode cX5_init 60 = .ok (.iconst 0, 1) := by decide +kernel
theorem dX5_init_61 : decode cX5_init 61 = .ok (.putfield 44, 3) := by decide +kernel
theorem dX5_init_64 : decode cX5_init 64 = .ok (.return_, 1) := by decide +kernel
theorem dX5_sheet_0 : decode cX5_sheet 0 = .ok (.iload_n 1, 1) := by decide +kernel
theorem dX5_sheet_1 : decode cX5_sheet 1 = .ok (.bipush 8, 2) := by decide +kernel
theorem dX5_sheet_3 : decode cX5_sheet 3 = .ok (.invokestatic 48, 3) := by decide +kernel
theorem dX5_sheet_6 : decode cX5_sheet 6 = .ok (.ifCond .eq 17, 3) := by decide +kernel
theorem dX5_sheet_9 : decode cX5_sheet 9 = .ok (.iload_n 2, 1) := by decide +kernel
theorem dX5_sheet_10 : decode cX5_sheet 10 = .ok (.iconst 3, 1) := by decide +kernel
theorem dX5_sheet_11 : decode cX5_sheet 11 = .ok (.invokestatic 48, 3) := by decide +kernel
theorem dX5_sheet_14 : decode cX5_sheet 14 = .ok (.ifCond .eq 9, 3) := by decide +kernel
theorem dX5_sheet_17 : decode cX5_sheet 17 = .ok (.iload_n 3, 1) := by decide +kernel
theorem dX5_sheet_18 : decode cX5_sheet 18 = .ok (.bipush 60, 2) := by decide +kernel
theorem dX5_sheet_20 : decode cX5_sheet 20 = .ok (.if_icmp .le 6, 3) := by decide +kernel
theorem dX5_sheet_23 : decode cX5_sheet 23 = .ok (.ldc 52, 2) := by decide +kernel
theorem dX5_sheet_25 : decode cX5_sheet 25 = .ok (.ireturn, 1) := by decide +kernel
theorem dX5_sheet_26 : decode cX5_sheet 26 = .ok (.aload_n 0, 1) := by decide +kernel
theorem dX5_sheet_27 : decode cX5_sheet 27 = .ok (.iload_n 3, 1) := by decide +kernel
theorem dX5_sheet_28 : decode cX5_sheet 28 = .ok (.ifCond .ge 7, 3) := by decide +kernel
theorem dX5_sheet_31 : decode cX5_sheet 31 = .ok (.iconst 4, 1) := by decide +kernel
theorem dX5_sheet_32 : decode cX5_sheet 32 = .ok (.goto 4, 3) := by decide +kernel
theorem dX5_sheet_35 : decode cX5_sheet 35 = .ok (.iconst 0, 1) := by decide +kernel
theorem dX5_sheet_36 : decode cX5_sheet 36 = .ok (.putfield 44, 3) := by decide +kernel
theorem dX5_sheet_39 : decode cX5_sheet 39 = .ok (.aload_n 0, 1) := by decide +kernel
theorem dX5_sheet_40 : decode cX5_sheet 40 = .ok (.getfield 44, 3) := by decide +kernel
theorem dX5_sheet_43 : decode cX5_sheet 43 = .ok (.ifCond .ne 16, 3) := by decide +kernel
theorem dX5_sheet_46 : decode cX5_sheet 46 = .ok (.aload_n 0, 1) := by decide +kernel
theorem dX5_sheet_47 : decode cX5_sheet 47 = .ok (.getfield 10, 3) := by decide +kernel
theorem dX5_sheet_50 : decode cX5_sheet 50 = .ok (.iload_n 1, 1) := by decide +kernel
theorem dX5_sheet_51 : decode cX5_sheet 51 = .ok (.iload_n 2, 1) := by decide +kernel
theorem dX5_sheet_52 : decode cX5_sheet 52 = .ok (.iload_n 3, 1) := by decide +kernel
theorem dX5_sheet_53 : decode cX5_sheet 53 = .ok (.invokevirtual 53, 3) := by decide +kernel
theorem dX5_sheet_56 : decode cX5_sheet 56 = .ok (.goto 10, 3) := by decide +kernel
theorem dX5_sheet_59 : decode cX5_sheet 59 = .ok (.ldc 57, 2) := by decide +kernel
theorem dX5_sheet_61 : decode cX5_sheet 61 = .ok (.aload_n 0, 1) := by decide +kernel
theorem dX5_sheet_62 : decode cX5_sheet 62 = .ok (.getfield 44, 3) := by decide +kernel
theorem dX5_sheet_65 : decode cX5_sheet 65 = .ok (.isub, 1) := by decide +kernel
theorem dX5_sheet_66 : decode cX5_sheet 66 = .ok (.ireturn, 1) := by decide +kernel
theorem dX5_set_0 : decode cX5_set 0 = .ok (.iload_n 1, 1) := by decide +kernel
theorem dX5_set_1 : decode cX5_set 1 = .ok (.bipush 8, 2) := by decide +kernel
theorem dX5_set_3 : decode cX5_set 3 = .ok (.invokestatic 48, 3) := by decide +kernel
theorem dX5_set_6 : decode cX5_set 6 = .ok (.ifCond .ne 6, 3) := by decide +kernel
theorem dX5_set_9 : decode cX5_set 9 = .ok (.ldc 52, 2) := by decide +kernel
theorem dX5_set_11 : decode cX5_set 11 = .ok (.ireturn, 1) := by decide +kernel
theorem dX5_set_12 : decode cX5_set 12 = .ok (.aload_n 0, 1) := by decide +kernel
theorem dX5_set_13 : decode cX5_set 13 = .ok (.aload_n 0, 1) := by decide +kernel
theorem dX5_set_14 : decode cX5_set 14 = .ok (.getfield 10, 3) := by decide +kernel
theorem dX5_set_17 : decode cX5_set 17 = .ok (.iload_n 1, 1) := by decide +kernel
theorem dX5_set_18 : decode cX5_set 18 = .ok (.iload_n 2, 1) := by decide +kernel
theorem dX5_set_19 : decode cX5_set 19 = .ok (.iconst 1, 1) := by decide +kernel
theorem dX5_set_20 : decode cX5_set 20 = .ok (.invokevirtual 58, 3) := by decide +kernel
theorem dX5_set_23 : decode cX5_set 23 = .ok (.putfield 44, 3) := by decide +kernel
theorem dX5_set_26 : decode cX5_set 26 = .ok (.aload_n 0, 1) := by decide +kernel
theorem dX5_set_27 : decode cX5_set 27 = .ok (.getfield 44, 3) := by decide +kernel
theorem dX5_set_30 : decode cX5_set 30 = .ok (.ifCond .ne 16, 3) := by decide +kernel
theorem dX5_set_33 : decode cX5_set 33 = .ok (.aload_n 0, 1) := by decide +kernel
theorem dX5_set_34 : decode cX5_set 34 = .ok (.getfield 10, 3) := by decide +kernel
theorem dX5_set_37 : decode cX5_set 37 = .ok (.iload_n 1, 1) := by decide +kernel
theorem dX5_set_38 : decode cX5_set 38 = .ok (.iload_n 2, 1) := by decide +kernel
theorem dX5_set_39 : decode cX5_set 39 = .ok (.iload_n 3, 1) := by decide +kernel
theorem dX5_set_40 : decode cX5_set 40 = .ok (.invokevirtual 61, 3) := by decide +kernel
theorem dX5_set_43 : decode cX5_set 43 = .ok (.goto 10, 3) := by decide +kernel
theorem dX5_set_46 : decode cX5_set 46 = .ok (.ldc 57, 2) := by decide +kernel
theorem dX5_set_48 : decode cX5_set 48 = .ok (.aload_n 0, 1) := by decide +kernel
theorem dX5_set_49 : decode cX5_set 49 = .ok (.getfield 44, 3) := by decide +kernel
theorem dX5_set_52 : decode cX5_set 52 = .ok (.isub, 1) := by decide +kernel
theorem dX5_set_53 : decode cX5_set 53 = .ok (.ireturn, 1) := by decide +kernel
theorem dX5_copy_0 : decode cX5_copy 0 = .ok (.iload_n 1, 1) := by decide +kernel
theorem dX5_copy_1 : decode cX5_copy 1 = .ok (.bipush 8, 2) := by decide +kernel
theorem dX5_copy_3 : decode cX5_copy 3 = .ok (.invokestatic 48, 3) := by decide +kernel
theorem dX5_copy_6 : decode cX5_copy 6 = .ok (.ifCond .eq 12, 3) := by decide +kernel
theorem dX5_copy_9 : decode cX5_copy 9 = .ok (.iload_n 3, 1) := by decide +kernel
theorem dX5_copy_10 : decode cX5_copy 10 = .ok (.bipush 8, 2) := by decide +kernel
theorem dX5_copy_12 : decode cX5_copy 12 = .ok (.invokestatic 48, 3) := by decide +kernel
theorem dX5_copy_15 : decode cX5_copy 15 = .ok (.ifCond .ne 6, 3) := by decide +kernel
theorem dX5_copy_18 : decode cX5_copy 18 = .ok (.ldc 52, 2) := by decide +kernel
theorem dX5_copy_20 : decode cX5_copy 20 = .ok (.ireturn, 1) := by decide +kernel
theorem dX5_copy_21 : decode cX5_copy 21 = .ok (.aload_n 0, 1) := by decide +kernel
theorem dX5_copy_22 : decode cX5_copy 22 = .ok (.aload_n 0, 1) := by decide +kernel
theorem dX5_copy_23 : decode cX5_copy 23 = .ok (.getfield 10, 3) := by decide +kernel
theorem dX5_copy_26 : decode cX5_copy 26 = .ok (.iload_n 1, 1) := by decide +kernel
theorem dX5_copy_27 : decode cX5_copy 27 = .ok (.iload_n 2, 1) := by decide +kernel
theorem dX5_copy_28 : decode cX5_copy 28 = .ok (.iload_n 3, 1) := by decide +kernel
theorem dX5_copy_29 : decode cX5_copy 29 = .ok (.iload 4, 2) := by decide +kernel
theorem dX5_copy_31 : decode cX5_copy 31 = .ok (.iload 5, 2) := by decide +kernel
theorem dX5_copy_33 : decode cX5_copy 33 = .ok (.invokevirtual 64, 3) := by decide +kernel
theorem dX5_copy_36 : decode cX5_copy 36 = .ok (.putfield 44, 3) := by decide +kernel
theorem dX5_copy_39 : decode cX5_copy 39 = .ok (.aload_n 0, 1) := by decide +kernel
theorem dX5_copy_40 : decode cX5_copy 40 = .ok (.getfield 44, 3) := by decide +kernel
theorem dX5_copy_43 : decode cX5_copy 43 = .ok (.ifCond .ne 20, 3) := by decide +kernel
theorem dX5_copy_46 : decode cX5_copy 46 = .ok (.aload_n 0, 1) := by decide +kernel
theorem dX5_copy_47 : decode cX5_copy 47 = .ok (.getfield 10, 3) := by decide +kernel
theorem dX5_copy_50 : decode cX5_copy 50 = .ok (.iload_n 1, 1) := by decide +kernel
theorem dX5_copy_51 : decode cX5_copy 51 = .ok (.iload_n 2, 1) := by decide +kernel
theorem dX5_copy_52 : decode cX5_copy 52 = .ok (.iload_n 3, 1) := by decide +kernel
theorem dX5_copy_53 : decode cX5_copy 53 = .ok (.iload 4, 2) := by decide +kernel
theorem dX5_copy_55 : decode cX5_copy 55 = .ok (.iload 5, 2) := by decide +kernel
theorem dX5_copy_57 : decode cX5_copy 57 = .ok (.invokevirtual 68, 3) := by decide +kernel
theorem dX5_copy_60 : decode cX5_copy 60 = .ok (.goto 10, 3) := by decide +kernel
theorem dX5_copy_63 : decode cX5_copy 63 = .ok (.ldc 57, 2) := by decide +kernel
theorem dX5_copy_65 : decode cX5_copy 65 = .ok (.aload_n 0, 1) := by decide +kernel
theorem dX5_copy_66 : decode cX5_copy 66 = .ok (.getfield 44, 3) := by decide +kernel
theorem dX5_copy_69 : decode cX5_copy 69 = .ok (.isub, 1) := by decide +kernel
theorem dX5_copy_70 : decode cX5_copy 70 = .ok (.ireturn, 1) := by decide +kernel
theorem dX5_drop_0 : decode cX5_drop 0 = .ok (.iload_n 1, 1) := by decide +kernel
theorem dX5_drop_1 : decode cX5_drop 1 = .ok (.bipush 8, 2) := by decide +kernel
theorem dX5_drop_3 : decode cX5_drop 3 = .ok (.invokestatic 48, 3) := by decide +kernel
theorem dX5_drop_6 : decode cX5_drop 6 = .ok (.ifCond .ne 6, 3) := by decide +kernel
theorem dX5_drop_9 : decode cX5_drop 9 = .ok (.ldc 52, 2) := by decide +kernel
theorem dX5_drop_11 : decode cX5_drop 11 = .ok (.ireturn, 1) := by decide +kernel
theorem dX5_drop_12 : decode cX5_drop 12 = .ok (.aload_n 0, 1) := by decide +kernel
theorem dX5_drop_13 : decode cX5_drop 13 = .ok (.aload_n 0, 1) := by decide +kernel
theorem dX5_drop_14 : decode cX5_drop 14 = .ok (.getfield 10, 3) := by decide +kernel
theorem dX5_drop_17 : decode cX5_drop 17 = .ok (.iload_n 1, 1) := by decide +kernel
theorem dX5_drop_18 : decode cX5_drop 18 = .ok (.invokevirtual 71, 3) := by decide +kernel
theorem dX5_drop_21 : decode cX5_drop 21 = .ok (.ifCond .eq 7, 3) := by decide +kernel
theorem dX5_drop_24 : decode cX5_drop 24 = .ok (.iconst 1, 1) := by decide +kernel
theorem dX5_drop_25 : decode cX5_drop 25 = .ok (.goto 4, 3) := by decide +kernel
theorem dX5_drop_28 : decode cX5_drop 28 = .ok (.iconst 0, 1) := by decide +kernel
theorem dX5_drop_29 : decode cX5_drop 29 = .ok (.putfield 44, 3) := by decide +kernel
theorem dX5_drop_32 : decode cX5_drop 32 = .ok (.aload_n 0, 1) := by decide +kernel
theorem dX5_drop_33 : decode cX5_drop 33 = .ok (.getfield 44, 3) := by decide +kernel
theorem dX5_drop_36 : decode cX5_drop 36 = .ok (.ifCond .ne 14, 3) := by decide +kernel
theorem dX5_drop_39 : decode cX5_drop 39 = .ok (.aload_n 0, 1) := by decide +kernel
theorem dX5_drop_40 : decode cX5_drop 40 = .ok (.getfield 10, 3) := by decide +kernel
theorem dX5_drop_43 : decode cX5_drop 43 = .ok (.iload_n 1, 1) := by decide +kernel
theorem dX5_drop_44 : decode cX5_drop 44 = .ok (.invokevirtual 75, 3) := by decide +kernel
theorem dX5_drop_47 : decode cX5_drop 47 = .ok (.goto 10, 3) := by decide +kernel
theorem dX5_drop_50 : decode cX5_drop 50 = .ok (.ldc 57, 2) := by decide +kernel
theorem dX5_drop_52 : decode cX5_drop 52 = .ok (.aload_n 0, 1) := by decide +kernel
theorem dX5_drop_53 : decode cX5_drop 53 = .ok (.getfield 44, 3) := by decide +kernel
theorem dX5_drop_56 : decode cX5_drop 56 = .ok (.isub, 1) := by decide +kernel
theorem dX5_drop_57 : decode cX5_drop 57 = .ok (.ireturn, 1) := by decide +kernel
theorem dX5_offer_0 : decode cX5_offer 0 = .ok (.iload_n 1, 1) := by decide +kernel
theorem dX5_offer_1 : decode cX5_offer 1 = .ok (.iconst 1, 1) := by decide +kernel
theorem dX5_offer_2 : decode cX5_offer 2 = .ok (.sipush 1000, 3) := by decide +kernel
theorem dX5_offer_5 : decode cX5_offer 5 = .ok (.invokestatic 79, 3) := by decide +kernel
theorem dX5_offer_8 : decode cX5_offer 8 = .ok (.ifCond .eq 14, 3) := by decide +kernel
theorem dX5_offer_11 : decode cX5_offer 11 = .ok (.iload_n 2, 1) := by decide +kernel
theorem dX5_offer_12 : decode cX5_offer 12 = .ok (.iconst 1, 1) := by decide +kernel
theorem dX5_offer_13 : decode cX5_offer 13 = .ok (.sipush 4095, 3) := by decide +kernel
theorem dX5_offer_16 : decode cX5_offer 16 = .ok (.invokestatic 79, 3) := by decide +kernel
theorem dX5_offer_19 : decode cX5_offer 19 = .ok (.ifCond .ne 6, 3) := by decide +kernel
theorem dX5_offer_22 : decode cX5_offer 22 = .ok (.ldc 52, 2) := by decide +kernel
theorem dX5_offer_24 : decode cX5_offer 24 = .ok (.ireturn, 1) := by decide +kernel
theorem dX5_offer_25 : decode cX5_offer 25 = .ok (.aload_n 0, 1) := by decide +kernel
theorem dX5_offer_26 : decode cX5_offer 26 = .ok (.getfield 19, 3) := by decide +kernel
theorem dX5_offer_29 : decode cX5_offer 29 = .ok (.getfield 83, 3) := by decide +kernel
theorem dX5_offer_32 : decode cX5_offer 32 = .ok (.ifCond .eq 6, 3) := by decide +kernel
theorem dX5_offer_35 : decode cX5_offer 35 = .ok (.ldc 86, 2) := by decide +kernel
theorem dX5_offer_37 : decode cX5_offer 37 = .ok (.ireturn, 1) := by decide +kernel
theorem dX5_offer_38 : decode cX5_offer 38 = .ok (.aload_n 0, 1) := by decide +kernel
theorem dX5_offer_39 : decode cX5_offer 39 = .ok (.getfield 19, 3) := by decide +kernel
theorem dX5_offer_42 : decode cX5_offer 42 = .ok (.getfield 87, 3) := by decide +kernel
theorem dX5_offer_45 : decode cX5_offer 45 = .ok (.bipush 10, 2) := by decide +kernel
theorem dX5_offer_47 : decode cX5_offer 47 = .ok (.if_icmp .ge 15, 3) := by decide +kernel
theorem dX5_offer_50 : decode cX5_offer 50 = .ok (.aload_n 0, 1) := by decide +kernel
theorem dX5_offer_51 : decode cX5_offer 51 = .ok (.getfield 19, 3) := by decide +kernel
theorem dX5_offer_54 : decode cX5_offer 54 = .ok (.iload_n 1, 1) := by decide +kernel
theorem dX5_offer_55 : decode cX5_offer 55 = .ok (.iload_n 2, 1) := by decide +kernel
theorem dX5_offer_56 : decode cX5_offer 56 = .ok (.invokevirtual 90, 3) := by decide +kernel
theorem dX5_offer_59 : decode cX5_offer 59 = .ok (.goto 5, 3) := by decide +kernel
theorem dX5_offer_62 : decode cX5_offer 62 = .ok (.ldc 94, 2) := by decide +kernel
theorem dX5_offer_64 : decode cX5_offer 64 = .ok (.ireturn, 1) := by decide +kernel
theorem dX5_demand_0 : decode cX5_demand 0 = .ok (.iload_n 1, 1) := by decide +kernel
theorem dX5_demand_1 : decode cX5_demand 1 = .ok (.bipush 12, 2) := by decide +kernel
theorem dX5_demand_3 : decode cX5_demand 3 = .ok (.invokestatic 48, 3) := by decide +kernel
theorem dX5_demand_6 : decode cX5_demand 6 = .ok (.ifCond .ne 6, 3) := by decide +kernel
theorem dX5_demand_9 : decode cX5_demand 9 = .ok (.ldc 52, 2) := by decide +kernel
theorem dX5_demand_11 : decode cX5_demand 11 = .ok (.ireturn, 1) := by decide +kernel
theorem dX5_demand_12 : decode cX5_demand 12 = .ok (.aload_n 0, 1) := by decide +kernel
theorem dX5_demand_13 : decode cX5_demand 13 = .ok (.getfield 19, 3) := by decide +kernel
theorem dX5_demand_16 : decode cX5_demand 16 = .ok (.iload_n 1, 1) := by decide +kernel
theorem dX5_demand_17 : decode cX5_demand 17 = .ok (.invokevirtual 95, 3) := by decide +kernel
theorem dX5_demand_20 : decode cX5_demand 20 = .ok (.ifCond .eq 14, 3) := by decide +kernel
theorem dX5_demand_23 : decode cX5_demand 23 = .ok (.aload_n 0, 1) := by decide +kernel
theorem dX5_demand_24 : decode cX5_demand 24 = .ok (.getfield 19, 3) := by decide +kernel
theorem dX5_demand_27 : decode cX5_demand 27 = .ok (.iload_n 1, 1) := by decide +kernel
theorem dX5_demand_28 : decode cX5_demand 28 = .ok (.invokevirtual 98, 3) := by decide +kernel
theorem dX5_demand_31 : decode cX5_demand 31 = .ok (.goto 5, 3) := by decide +kernel
theorem dX5_demand_34 : decode cX5_demand 34 = .ok (.ldc 86, 2) := by decide +kernel
theorem dX5_demand_36 : decode cX5_demand 36 = .ok (.ireturn, 1) := by decide +kernel
theorem dX5_demands_0 : decode cX5_demands 0 = .ok (.iload_n 1, 1) := by decide +kernel
theorem dX5_demands_1 : decode cX5_demands 1 = .ok (.bipush 8, 2) := by decide +kernel
theorem dX5_demands_3 : decode cX5_demands 3 = .ok (.invokestatic 48, 3) := by decide +kernel
theorem dX5_demands_6 : decode cX5_demands 6 = .ok (.ifCond .eq 13, 3) := by decide +kernel
theorem dX5_demands_9 : decode cX5_demands 9 = .ok (.iload_n 3, 1) := by decide +kernel
theorem dX5_demands_10 : decode cX5_demands 10 = .ok (.iconst 1, 1) := by decide +kernel
theorem dX5_demands_11 : decode cX5_demands 11 = .ok (.bipush 60, 2) := by decide +kernel
theorem dX5_demands_13 : decode cX5_demands 13 = .ok (.invokestatic 79, 3) := by decide +kernel
theorem dX5_demands_16 : decode cX5_demands 16 = .ok (.ifCond .ne 6, 3) := by decide +kernel
theorem dX5_demands_19 : decode cX5_demands 19 = .ok (.ldc 52, 2) := by decide +kernel
theorem dX5_demands_21 : decode cX5_demands 21 = .ok (.ireturn, 1) := by decide +kernel
theorem dX5_demands_22 : decode cX5_demands 22 = .ok (.aload_n 0, 1) := by decide +kernel
theorem dX5_demands_23 : decode cX5_demands 23 = .ok (.aload_n 0, 1) := by decide +kernel
theorem dX5_demands_24 : decode cX5_demands 24 = .ok (.getfield 10, 3) := by decide +kernel
theorem dX5_demands_27 : decode cX5_demands 27 = .ok (.iload_n 1, 1) := by decide +kernel
theorem dX5_demands_28 : decode cX5_demands 28 = .ok (.iload_n 2, 1) := by decide +kernel
theorem dX5_demands_29 : decode cX5_demands 29 = .ok (.iload_n 3, 1) := by decide +kernel
theorem dX5_demands_30 : decode cX5_demands 30 = .ok (.invokevirtual 58, 3) := by decide +kernel
theorem dX5_demands_33 : decode cX5_demands 33 = .ok (.putfield 44, 3) := by decide +kernel
theorem dX5_demands_36 : decode cX5_demands 36 = .ok (.aload_n 0, 1) := by decide +kernel
theorem dX5_demands_37 : decode cX5_demands 37 = .ok (.getfield 44, 3) := by decide +kernel
theorem dX5_demands_40 : decode cX5_demands 40 = .ok (.ifCond .ne 13, 3) := by decide +kernel
theorem dX5_demands_43 : decode cX5_demands 43 = .ok (.aload_n 0, 1) := by decide +kernel
theorem dX5_demands_44 : decode cX5_demands 44 = .ok (.iload_n 1, 1) := by decide +kernel
theorem dX5_demands_45 : decode cX5_demands 45 = .ok (.iload_n 2, 1) := by decide +kernel
theorem dX5_demands_46 : decode cX5_demands 46 = .ok (.iload_n 3, 1) := by decide +kernel
theorem dX5_demands_47 : decode cX5_demands 47 = .ok (.invokevirtual 101, 3) := by decide +kernel
theorem dX5_demands_50 : decode cX5_demands 50 = .ok (.goto 10, 3) := by decide +kernel
theorem dX5_demands_53 : decode cX5_demands 53 = .ok (.ldc 57, 2) := by decide +kernel
theorem dX5_demands_55 : decode cX5_demands 55 = .ok (.aload_n 0, 1) := by decide +kernel
theorem dX5_demands_56 : decode cX5_demands 56 = .ok (.getfield 44, 3) := by decide +kernel
theorem dX5_demands_59 : decode cX5_demands 59 = .ok (.isub, 1) := by decide +kernel
theorem dX5_demands_60 : decode cX5_demands 60 = .ok (.ireturn, 1) := by decide +kernel
theorem dX5_meetItems_0 : decode cX5_meetItems 0 = .ok (.iconst 0, 1) := by decide +kernel
theorem dX5_meetItems_1 : decode cX5_meetItems 1 = .ok (.istore 4, 2) := by decide +kernel
theorem dX5_meetItems_3 : decode cX5_meetItems 3 = .ok (.iload_n 2, 1) := by decide +kernel
theorem dX5_meetItems_4 : decode cX5_meetItems 4 = .ok (.istore 5, 2) := by decide +kernel
theorem dX5_meetItems_6 : decode cX5_meetItems 6 = .ok (.iload 5, 2) := by decide +kernel
theorem dX5_meetItems_8 : decode cX5_meetItems 8 = .ok (.iload_n 2, 1) := by decide +kernel
theorem dX5_meetItems_9 : decode cX5_meetItems 9 = .ok (.iload_n 3, 1) := by decide +kernel
theorem dX5_meetItems_10 : decode cX5_meetItems 10 = .ok (.iadd, 1) := by decide +kernel
theorem dX5_meetItems_11 : decode cX5_meetItems 11 = .ok (.if_icmp .ge 57, 3) := by decide +kernel
theorem dX5_meetItems_14 : decode cX5_meetItems 14 = .ok (.aload_n 0, 1) := by decide +kernel
theorem dX5_meetItems_15 : decode cX5_meetItems 15 = .ok (.getfield 10, 3) := by decide +kernel
theorem dX5_meetItems_18 : decode cX5_meetItems 18 = .ok (.iload_n 1, 1) := by decide +kernel
theorem dX5_meetItems_19 : decode cX5_meetItems 19 = .ok (.iload 5, 2) := by decide +kernel
theorem dX5_meetItems_21 : decode cX5_meetItems 21 = .ok (.invokevirtual 104, 3) := by decide +kernel
theorem dX5_meetItems_24 : decode cX5_meetItems 24 = .ok (.istore 6, 2) := by decide +kernel
theorem dX5_meetItems_26 : decode cX5_meetItems 26 = .ok (.iload 6, 2) := by decide +kernel
theorem dX5_meetItems_28 : decode cX5_meetItems 28 = .ok (.bipush 12, 2) := by decide +kernel
theorem dX5_meetItems_30 : decode cX5_meetItems 30 = .ok (.invokestatic 48, 3) := by decide +kernel
theorem dX5_meetItems_33 : decode cX5_meetItems 33 = .ok (.ifCond .eq 29, 3) := by decide +kernel
theorem dX5_meetItems_36 : decode cX5_meetItems 36 = .ok (.aload_n 0, 1) := by decide +kernel
theorem dX5_meetItems_37 : decode cX5_meetItems 37 = .ok (.getfield 19, 3) := by decide +kernel
theorem dX5_meetItems_40 : decode cX5_meetItems 40 = .ok (.iload 6, 2) := by decide +kernel
theorem dX5_meetItems_42 : decode cX5_meetItems 42 = .ok (.invokevirtual 95, 3) := by decide +kernel
theorem dX5_meetItems_45 : decode cX5_meetItems 45 = .ok (.ifCond .eq 17, 3) := by decide +kernel
theorem dX5_meetItems_48 : decode cX5_meetItems 48 = .ok (.iload 4, 2) := by decide +kernel
theorem dX5_meetItems_50 : decode cX5_meetItems 50 = .ok (.aload_n 0, 1) := by decide +kernel
theorem dX5_meetItems_51 : decode cX5_meetItems 51 = .ok (.getfield 19, 3) := by decide +kernel
theorem dX5_meetItems_54 : decode cX5_meetItems 54 = .ok (.iload 6, 2) := by decide +kernel
theorem dX5_meetItems_56 : decode cX5_meetItems 56 = .ok (.invokevirtual 98, 3) := by decide +kernel
theorem dX5_meetItems_59 : decode cX5_meetItems 59 = .ok (.iadd, 1) := by decide +kernel
theorem dX5_meetItems_60 : decode cX5_meetItems 60 = .ok (.istore 4, 2) := by decide +kernel
theorem dX5_meetItems_62 : decode cX5_meetItems 62 = .ok (.iinc 5 1, 3) := by decide +kernel
theorem dX5_meetItems_65 : decode cX5_meetItems 65 = .ok (.goto (-59), 3) := by decide +kernel
theorem dX5_meetItems_68 : decode cX5_meetItems 68 = .ok (.iload 4, 2) := by decide +kernel
theorem dX5_meetItems_70 : decode cX5_meetItems 70 = .ok (.ireturn, 1) := by decide +kernel
theorem dX5_covers_0 : decode cX5_covers 0 = .ok (.iload_n 1, 1) := by decide +kernel
theorem dX5_covers_1 : decode cX5_covers 1 = .ok (.tableswitch 87 0 5 #[39, 47, 55, 63, 71, 79], 39) := by decide +kernel
theorem dX5_covers_40 : decode cX5_covers 40 = .ok (.aload_n 0, 1) := by decide +kernel
theorem dX5_covers_41 : decode cX5_covers 41 = .ok (.getfield 19, 3) := by decide +kernel
theorem dX5_covers_44 : decode cX5_covers 44 = .ok (.getfield 107, 3) := by decide +kernel
theorem dX5_covers_47 : decode cX5_covers 47 = .ok (.ireturn, 1) := by decide +kernel
theorem dX5_covers_48 : decode cX5_covers 48 = .ok (.aload_n 0, 1) := by decide +kernel
theorem dX5_covers_49 : decode cX5_covers 49 = .ok (.getfield 19, 3) := by decide +kernel
theorem dX5_covers_52 : decode cX5_covers 52 = .ok (.invokevirtual 110, 3) := by decide +kernel
theorem dX5_covers_55 : decode cX5_covers 55 = .ok (.ireturn, 1) := by decide +kernel
theorem dX5_covers_56 : decode cX5_covers 56 = .ok (.aload_n 0, 1) := by decide +kernel
theorem dX5_covers_57 : decode cX5_covers 57 = .ok (.getfield 19, 3) := by decide +kernel
theorem dX5_covers_60 : decode cX5_covers 60 = .ok (.invokevirtual 114, 3) := by decide +kernel
theorem dX5_covers_63 : decode cX5_covers 63 = .ok (.ireturn, 1) := by decide +kernel
theorem dX5_covers_64 : decode cX5_covers 64 = .ok (.aload_n 0, 1) := by decide +kernel
theorem dX5_covers_65 : decode cX5_covers 65 = .ok (.getfield 19, 3) := by decide +kernel
theorem dX5_covers_68 : decode cX5_covers 68 = .ok (.invokevirtual 117, 3) := by decide +kernel
theorem dX5_covers_71 : decode cX5_covers 71 = .ok (.ireturn, 1) := by decide +kernel
theorem dX5_covers_72 : decode cX5_covers 72 = .ok (.aload_n 0, 1) := by decide +kernel
theorem dX5_covers_73 : decode cX5_covers 73 = .ok (.getfield 19, 3) := by decide +kernel
theorem dX5_covers_76 : decode cX5_covers 76 = .ok (.getfield 83, 3) := by decide +kernel
theorem dX5_covers_79 : decode cX5_covers 79 = .ok (.ireturn, 1) := by decide +kernel
theorem dX5_covers_80 : decode cX5_covers 80 = .ok (.aload_n 0, 1) := by decide +kernel
theorem dX5_covers_81 : decode cX5_covers 81 = .ok (.getfield 19, 3) := by decide +kernel
theorem dX5_covers_84 : decode cX5_covers 84 = .ok (.getfield 120, 3) := by decide +kernel
theorem dX5_covers_87 : decode cX5_covers 87 = .ok (.ireturn, 1) := by decide +kernel
theorem dX5_covers_88 : decode cX5_covers 88 = .ok (.ldc 52, 2) := by decide +kernel
theorem dX5_covers_90 : decode cX5_covers 90 = .ok (.ireturn, 1) := by decide +kernel
theorem dX5_told_0 : decode cX5_told 0 = .ok (.aload_n 0, 1) := by decide +kernel
theorem dX5_told_1 : decode cX5_told 1 = .ok (.getfield 19, 3) := by decide +kernel
theorem dX5_told_4 : decode cX5_told 4 = .ok (.iload_n 1, 1) := by decide +kernel
theorem dX5_told_5 : decode cX5_told 5 = .ok (.invokevirtual 123, 3) := by decide +kernel
theorem dX5_told_8 : decode cX5_told 8 = .ok (.ifCond .ne 6, 3) := by decide +kernel
theorem dX5_told_11 : decode cX5_told 11 = .ok (.ldc 52, 2) := by decide +kernel
theorem dX5_told_13 : decode cX5_told 13 = .ok (.ireturn, 1) := by decide +kernel
theorem dX5_told_14 : decode cX5_told 14 = .ok (.iload_n 2, 1) := by decide +kernel
theorem dX5_told_15 : decode cX5_told 15 = .ok (.tableswitch 75 0 3 #[29, 39, 49, 58], 29) := by decide +kernel
theorem dX5_told_44 : decode cX5_told 44 = .ok (.aload_n 0, 1) := by decide +kernel
theorem dX5_told_45 : decode cX5_told 45 = .ok (.getfield 19, 3) := by decide +kernel
theorem dX5_told_48 : decode cX5_told 48 = .ok (.getfield 126, 3) := by decide +kernel
theorem dX5_told_51 : decode cX5_told 51 = .ok (.iload_n 1, 1) := by decide +kernel
theorem dX5_told_52 : decode cX5_told 52 = .ok (.iaload, 1) := by decide +kernel
theorem dX5_told_53 : decode cX5_told 53 = .ok (.ireturn, 1) := by decide +kernel
theorem dX5_told_54 : decode cX5_told 54 = .ok (.aload_n 0, 1) := by decide +kernel
theorem dX5_told_55 : decode cX5_told 55 = .ok (.getfield 19, 3) := by decide +kernel
theorem dX5_told_58 : decode cX5_told 58 = .ok (.getfield 130, 3) := by decide +kernel
theorem dX5_told_61 : decode cX5_told 61 = .ok (.iload_n 1, 1) := by decide +kernel
theorem dX5_told_62 : decode cX5_told 62 = .ok (.iaload, 1) := by decide +kernel
theorem dX5_told_63 : decode cX5_told 63 = .ok (.ireturn, 1) := by decide +kernel
theorem dX5_told_64 : decode cX5_told 64 = .ok (.aload_n 0, 1) := by decide +kernel
theorem dX5_told_65 : decode cX5_told 65 = .ok (.getfield 19, 3) := by decide +kernel
theorem dX5_told_68 : decode cX5_told 68 = .ok (.iload_n 1, 1) := by decide +kernel
theorem dX5_told_69 : decode cX5_told 69 = .ok (.invokevirtual 133, 3) := by decide +kernel
theorem dX5_told_72 : decode cX5_told 72 = .ok (.ireturn, 1) := by decide +kernel
theorem dX5_told_73 : decode cX5_told 73 = .ok (.aload_n 0, 1) := by decide +kernel
theorem dX5_told_74 : decode cX5_told 74 = .ok (.getfield 19, 3) := by decide +kernel
theorem dX5_told_77 : decode cX5_told 77 = .ok (.iload_n 1, 1) := by decide +kernel
theorem dX5_told_78 : decode cX5_told 78 = .ok (.invokevirtual 136, 3) := by decide +kernel
theorem dX5_told_81 : decode cX5_told 81 = .ok (.ifCond .eq 7, 3) := by decide +kernel
theorem dX5_told_84 : decode cX5_told 84 = .ok (.iconst 1, 1) := by decide +kernel
theorem dX5_told_85 : decode cX5_told 85 = .ok (.goto 4, 3) := by decide +kernel
theorem dX5_told_88 : decode cX5_told 88 = .ok (.iconst 0, 1) := by decide +kernel
theorem dX5_told_89 : decode cX5_told 89 = .ok (.ireturn, 1) := by decide +kernel
theorem dX5_told_90 : decode cX5_told 90 = .ok (.ldc 52, 2) := by decide +kernel
theorem dX5_told_92 : decode cX5_told 92 = .ok (.ireturn, 1) := by decide +kernel
theorem dX5_price_0 : decode cX5_price 0 = .ok (.iload_n 1, 1) := by decide +kernel
theorem dX5_price_1 : decode cX5_price 1 = .ok (.bipush 12, 2) := by decide +kernel
theorem dX5_price_3 : decode cX5_price 3 = .ok (.invokestatic 48, 3) := by decide +kernel
theorem dX5_price_6 : decode cX5_price 6 = .ok (.ifCond .eq 15, 3) := by decide +kernel
theorem dX5_price_9 : decode cX5_price 9 = .ok (.aload_n 0, 1) := by decide +kernel
theorem dX5_price_10 : decode cX5_price 10 = .ok (.getfield 19, 3) := by decide +kernel
theorem dX5_price_13 : decode cX5_price 13 = .ok (.getfield 139, 3) := by decide +kernel
theorem dX5_price_16 : decode cX5_price 16 = .ok (.iload_n 1, 1) := by decide +kernel
theorem dX5_price_17 : decode cX5_price 17 = .ok (.iaload, 1) := by decide +kernel
theorem dX5_price_18 : decode cX5_price 18 = .ok (.goto 5, 3) := by decide +kernel
theorem dX5_price_21 : decode cX5_price 21 = .ok (.ldc 52, 2) := by decide +kernel
theorem dX5_price_23 : decode cX5_price 23 = .ok (.ireturn, 1) := by decide +kernel
theorem dX5_lease_0 : decode cX5_lease 0 = .ok (.iload_n 1, 1) := by decide +kernel
theorem dX5_lease_1 : decode cX5_lease 1 = .ok (.iconst 1, 1) := by decide +kernel
theorem dX5_lease_2 : decode cX5_lease 2 = .ok (.bipush 64, 2) := by decide +kernel
theorem dX5_lease_4 : decode cX5_lease 4 = .ok (.invokestatic 79, 3) := by decide +kernel
theorem dX5_lease_7 : decode cX5_lease 7 = .ok (.ifCond .eq 14, 3) := by decide +kernel
theorem dX5_lease_10 : decode cX5_lease 10 = .ok (.iload_n 2, 1) := by decide +kernel
theorem dX5_lease_11 : decode cX5_lease 11 = .ok (.iconst 1, 1) := by decide +kernel
theorem dX5_lease_12 : decode cX5_lease 12 = .ok (.sipush 1000, 3) := by decide +kernel
theorem dX5_lease_15 : decode cX5_lease 15 = .ok (.invokestatic 79, 3) := by decide +kernel
theorem dX5_lease_18 : decode cX5_lease 18 = .ok (.ifCond .ne 6, 3) := by decide +kernel
theorem dX5_lease_21 : decode cX5_lease 21 = .ok (.ldc 52, 2) := by decide +kernel
theorem dX5_lease_23 : decode cX5_lease 23 = .ok (.ireturn, 1) := by decide +kernel
theorem dX5_lease_24 : decode cX5_lease 24 = .ok (.aload_n 0, 1) := by decide +kernel
theorem dX5_lease_25 : decode cX5_lease 25 = .ok (.getfield 26, 3) := by decide +kernel
theorem dX5_lease_28 : decode cX5_lease 28 = .ok (.getfield 142, 3) := by decide +kernel
theorem dX5_lease_31 : decode cX5_lease 31 = .ok (.ifCond .gt 14, 3) := by decide +kernel
theorem dX5_lease_34 : decode cX5_lease 34 = .ok (.aload_n 0, 1) := by decide +kernel
theorem dX5_lease_35 : decode cX5_lease 35 = .ok (.getfield 26, 3) := by decide +kernel
theorem dX5_lease_38 : decode cX5_lease 38 = .ok (.iload_n 1, 1) := by decide +kernel
theorem dX5_lease_39 : decode cX5_lease 39 = .ok (.invokevirtual 145, 3) := by decide +kernel
theorem dX5_lease_42 : decode cX5_lease 42 = .ok (.ifCond .ne 6, 3) := by decide +kernel
theorem dX5_lease_45 : decode cX5_lease 45 = .ok (.ldc 86, 2) := by decide +kernel
theorem dX5_lease_47 : decode cX5_lease 47 = .ok (.ireturn, 1) := by decide +kernel
theorem dX5_lease_48 : decode cX5_lease 48 = .ok (.aload_n 0, 1) := by decide +kernel
theorem dX5_lease_49 : decode cX5_lease 49 = .ok (.getfield 26, 3) := by decide +kernel
theorem dX5_lease_52 : decode cX5_lease 52 = .ok (.getfield 148, 3) := by decide +kernel
theorem dX5_lease_55 : decode cX5_lease 55 = .ok (.iconst 4, 1) := by decide +kernel
theorem dX5_lease_56 : decode cX5_lease 56 = .ok (.if_icmp .ge 15, 3) := by decide +kernel
theorem dX5_lease_59 : decode cX5_lease 59 = .ok (.aload_n 0, 1) := by decide +kernel
theorem dX5_lease_60 : decode cX5_lease 60 = .ok (.getfield 26, 3) := by decide +kernel
theorem dX5_lease_63 : decode cX5_lease 63 = .ok (.iload_n 1, 1) := by decide +kernel
theorem dX5_lease_64 : decode cX5_lease 64 = .ok (.iload_n 2, 1) := by decide +kernel
theorem dX5_lease_65 : decode cX5_lease 65 = .ok (.invokevirtual 149, 3) := by decide +kernel
theorem dX5_lease_68 : decode cX5_lease 68 = .ok (.goto 5, 3) := by decide +kernel
theorem dX5_lease_71 : decode cX5_lease 71 = .ok (.ldc 94, 2) := by decide +kernel
theorem dX5_lease_73 : decode cX5_lease 73 = .ok (.ireturn, 1) := by decide +kernel
theorem dX5_day_0 : decode cX5_day 0 = .ok (.iload_n 1, 1) := by decide +kernel
theorem dX5_day_1 : decode cX5_day 1 = .ok (.sipush 128, 3) := by decide +kernel
theorem dX5_day_4 : decode cX5_day 4 = .ok (.invokestatic 48, 3) := by decide +kernel
theorem dX5_day_7 : decode cX5_day 7 = .ok (.ifCond .ne 6, 3) := by decide +kernel
theorem dX5_day_10 : decode cX5_day 10 = .ok (.ldc 52, 2) := by decide +kernel
theorem dX5_day_12 : decode cX5_day 12 = .ok (.ireturn, 1) := by decide +kernel
theorem dX5_day_13 : decode cX5_day 13 = .ok (.aload_n 0, 1) := by decide +kernel
theorem dX5_day_14 : decode cX5_day 14 = .ok (.getfield 26, 3) := by decide +kernel
theorem dX5_day_17 : decode cX5_day 17 = .ok (.getfield 148, 3) := by decide +kernel
theorem dX5_day_20 : decode cX5_day 20 = .ok (.ifCond .le 25, 3) := by decide +kernel
theorem dX5_day_23 : decode cX5_day 23 = .ok (.iload_n 1, 1) := by decide +kernel
theorem dX5_day_24 : decode cX5_day 24 = .ok (.aload_n 0, 1) := by decide +kernel
theorem dX5_day_25 : decode cX5_day 25 = .ok (.getfield 26, 3) := by decide +kernel
theorem dX5_day_28 : decode cX5_day 28 = .ok (.getfield 150, 3) := by decide +kernel
theorem dX5_day_31 : decode cX5_day 31 = .ok (.if_icmp .le 14, 3) := by decide +kernel
theorem dX5_day_34 : decode cX5_day 34 = .ok (.aload_n 0, 1) := by decide +kernel
theorem dX5_day_35 : decode cX5_day 35 = .ok (.getfield 26, 3) := by decide +kernel
theorem dX5_day_38 : decode cX5_day 38 = .ok (.iload_n 1, 1) := by decide +kernel
theorem dX5_day_39 : decode cX5_day 39 = .ok (.invokevirtual 153, 3) := by decide +kernel
theorem dX5_day_42 : decode cX5_day 42 = .ok (.goto 5, 3) := by decide +kernel
theorem dX5_day_45 : decode cX5_day 45 = .ok (.ldc 86, 2) := by decide +kernel
theorem dX5_day_47 : decode cX5_day 47 = .ok (.ireturn, 1) := by decide +kernel
theorem dX5_leases_0 : decode cX5_leases 0 = .ok (.iload_n 1, 1) := by decide +kernel
theorem dX5_leases_1 : decode cX5_leases 1 = .ok (.tableswitch 79 0 4 #[35, 43, 55, 63, 71], 35) := by decide +kernel
theorem dX5_leases_36 : decode cX5_leases 36 = .ok (.aload_n 0, 1) := by decide +kernel
theorem dX5_leases_37 : decode cX5_leases 37 = .ok (.getfield 26, 3) := by decide +kernel
theorem dX5_leases_40 : decode cX5_leases 40 = .ok (.getfield 154, 3) := by decide +kernel
theorem dX5_leases_43 : decode cX5_leases 43 = .ok (.ireturn, 1) := by decide +kernel
theorem dX5_leases_44 : decode cX5_leases 44 = .ok (.aload_n 0, 1) := by decide +kernel
theorem dX5_leases_45 : decode cX5_leases 45 = .ok (.getfield 26, 3) := by decide +kernel
theorem dX5_leases_48 : decode cX5_leases 48 = .ok (.iconst 0, 1) := by decide +kernel
theorem dX5_leases_49 : decode cX5_leases 49 = .ok (.sipush 128, 3) := by decide +kernel
theorem dX5_leases_52 : decode cX5_leases 52 = .ok (.invokevirtual 155, 3) := by decide +kernel
theorem dX5_leases_55 : decode cX5_leases 55 = .ok (.ireturn, 1) := by decide +kernel
theorem dX5_leases_56 : decode cX5_leases 56 = .ok (.aload_n 0, 1) := by decide +kernel
theorem dX5_leases_57 : decode cX5_leases 57 = .ok (.getfield 26, 3) := by decide +kernel
theorem dX5_leases_60 : decode cX5_leases 60 = .ok (.invokevirtual 158, 3) := by decide +kernel
theorem dX5_leases_63 : decode cX5_leases 63 = .ok (.ireturn, 1) := by decide +kernel
theorem dX5_leases_64 : decode cX5_leases 64 = .ok (.aload_n 0, 1) := by decide +kernel
theorem dX5_leases_65 : decode cX5_leases 65 = .ok (.getfield 26, 3) := by decide +kernel
theorem dX5_leases_68 : decode cX5_leases 68 = .ok (.getfield 142, 3) := by decide +kernel
theorem dX5_leases_71 : decode cX5_leases 71 = .ok (.ireturn, 1) := by decide +kernel
theorem dX5_leases_72 : decode cX5_leases 72 = .ok (.aload_n 0, 1) := by decide +kernel
theorem dX5_leases_73 : decode cX5_leases 73 = .ok (.getfield 26, 3) := by decide +kernel
theorem dX5_leases_76 : decode cX5_leases 76 = .ok (.getfield 159, 3) := by decide +kernel
theorem dX5_leases_79 : decode cX5_leases 79 = .ok (.ireturn, 1) := by decide +kernel
theorem dX5_leases_80 : decode cX5_leases 80 = .ok (.ldc 52, 2) := by decide +kernel
theorem dX5_leases_82 : decode cX5_leases 82 = .ok (.ireturn, 1) := by decide +kernel
theorem dX5_covered_0 : decode cX5_covered 0 = .ok (.iload_n 1, 1) := by decide +kernel
theorem dX5_covered_1 : decode cX5_covered 1 = .ok (.sipush 128, 3) := by decide +kernel
theorem dX5_covered_4 : decode cX5_covered 4 = .ok (.invokestatic 48, 3) := by decide +kernel
theorem dX5_covered_7 : decode cX5_covered 7 = .ok (.ifCond .ne 6, 3) := by decide +kernel
theorem dX5_covered_10 : decode cX5_covered 10 = .ok (.ldc 52, 2) := by decide +kernel
theorem dX5_covered_12 : decode cX5_covered 12 = .ok (.ireturn, 1) := by decide +kernel
theorem dX5_covered_13 : decode cX5_covered 13 = .ok (.aload_n 0, 1) := by decide +kernel
theorem dX5_covered_14 : decode cX5_covered 14 = .ok (.getfield 26, 3) := by decide +kernel
theorem dX5_covered_17 : decode cX5_covered 17 = .ok (.iload_n 1, 1) := by decide +kernel
theorem dX5_covered_18 : decode cX5_covered 18 = .ok (.invokevirtual 162, 3) := by decide +kernel
theorem dX5_covered_21 : decode cX5_covered 21 = .ok (.ifCond .eq 7, 3) := by decide +kernel
theorem dX5_covered_24 : decode cX5_covered 24 = .ok (.iconst 1, 1) := by decide +kernel
theorem dX5_covered_25 : decode cX5_covered 25 = .ok (.goto 4, 3) := by decide +kernel
theorem dX5_covered_28 : decode cX5_covered 28 = .ok (.iconst 0, 1) := by decide +kernel
theorem dX5_covered_29 : decode cX5_covered 29 = .ok (.ireturn, 1) := by decide +kernel
theorem dX5_site_0 : decode cX5_site 0 = .ok (.aload_n 0, 1) := by decide +kernel
theorem dX5_site_1 : decode cX5_site 1 = .ok (.getfield 33, 3) := by decide +kernel
theorem dX5_site_4 : decode cX5_site 4 = .ok (.getfield 165, 3) := by decide +kernel
theorem dX5_site_7 : decode cX5_site 7 = .ok (.bipush 10, 2) := by decide +kernel
theorem dX5_site_9 : decode cX5_site 9 = .ok (.if_icmp .ge 13, 3) := by decide +kernel
theorem dX5_site_12 : decode cX5_site 12 = .ok (.aload_n 0, 1) := by decide +kernel
theorem dX5_site_13 : decode cX5_site 13 = .ok (.getfield 33, 3) := by decide +kernel
theorem dX5_site_16 : decode cX5_site 16 = .ok (.invokevirtual 166, 3) := by decide +kernel
theorem dX5_site_19 : decode cX5_site 19 = .ok (.goto 5, 3) := by decide +kernel
theorem dX5_site_22 : decode cX5_site 22 = .ok (.ldc 94, 2) := by decide +kernel
theorem dX5_site_24 : decode cX5_site 24 = .ok (.ireturn, 1) := by decide +kernel
theorem dX5_way_0 : decode cX5_way 0 = .ok (.aload_n 0, 1) := by decide +kernel
theorem dX5_way_1 : decode cX5_way 1 = .ok (.getfield 33, 3) := by decide +kernel
theorem dX5_way_4 : decode cX5_way 4 = .ok (.iload_n 1, 1) := by decide +kernel
theorem dX5_way_5 : decode cX5_way 5 = .ok (.invokevirtual 168, 3) := by decide +kernel
theorem dX5_way_8 : decode cX5_way 8 = .ok (.ifCond .eq 30, 3) := by decide +kernel
theorem dX5_way_11 : decode cX5_way 11 = .ok (.aload_n 0, 1) := by decide +kernel
theorem dX5_way_12 : decode cX5_way 12 = .ok (.getfield 33, 3) := by decide +kernel
theorem dX5_way_15 : decode cX5_way 15 = .ok (.iload_n 2, 1) := by decide +kernel
theorem dX5_way_16 : decode cX5_way 16 = .ok (.invokevirtual 168, 3) := by decide +kernel
theorem dX5_way_19 : decode cX5_way 19 = .ok (.ifCond .eq 19, 3) := by decide +kernel
theorem dX5_way_22 : decode cX5_way 22 = .ok (.iload_n 1, 1) := by decide +kernel
theorem dX5_way_23 : decode cX5_way 23 = .ok (.iload_n 2, 1) := by decide +kernel
theorem dX5_way_24 : decode cX5_way 24 = .ok (.if_icmp .eq 14, 3) := by decide +kernel
theorem dX5_way_27 : decode cX5_way 27 = .ok (.iload_n 3, 1) := by decide +kernel
theorem dX5_way_28 : decode cX5_way 28 = .ok (.iconst 1, 1) := by decide +kernel
theorem dX5_way_29 : decode cX5_way 29 = .ok (.sipush 1000, 3) := by decide +kernel
theorem dX5_way_32 : decode cX5_way 32 = .ok (.invokestatic 79, 3) := by decide +kernel
theorem dX5_way_35 : decode cX5_way 35 = .ok (.ifCond .ne 6, 3) := by decide +kernel
theorem dX5_way_38 : decode cX5_way 38 = .ok (.ldc 52, 2) := by decide +kernel
theorem dX5_way_40 : decode cX5_way 40 = .ok (.ireturn, 1) := by decide +kernel
theorem dX5_way_41 : decode cX5_way 41 = .ok (.aload_n 0, 1) := by decide +kernel
theorem dX5_way_42 : decode cX5_way 42 = .ok (.getfield 33, 3) := by decide +kernel
theorem dX5_way_45 : decode cX5_way 45 = .ok (.iload_n 1, 1) := by decide +kernel
theorem dX5_way_46 : decode cX5_way 46 = .ok (.iload_n 2, 1) := by decide +kernel
theorem dX5_way_47 : decode cX5_way 47 = .ok (.invokevirtual 171, 3) := by decide +kernel
theorem dX5_way_50 : decode cX5_way 50 = .ok (.ifCond .eq 8, 3) := by decide +kernel
theorem dX5_way_53 : decode cX5_way 53 = .ok (.ldc 86, 2) := by decide +kernel
theorem dX5_way_55 : decode cX5_way 55 = .ok (.goto 13, 3) := by decide +kernel
theorem dX5_way_58 : decode cX5_way 58 = .ok (.aload_n 0, 1) := by decide +kernel
theorem dX5_way_59 : decode cX5_way 59 = .ok (.getfield 33, 3) := by decide +kernel
theorem dX5_way_62 : decode cX5_way 62 = .ok (.iload_n 1, 1) := by decide +kernel
theorem dX5_way_63 : decode cX5_way 63 = .ok (.iload_n 2, 1) := by decide +kernel
theorem dX5_way_64 : decode cX5_way 64 = .ok (.iload_n 3, 1) := by decide +kernel
theorem dX5_way_65 : decode cX5_way 65 = .ok (.invokevirtual 174, 3) := by decide +kernel
theorem dX5_way_68 : decode cX5_way 68 = .ok (.ireturn, 1) := by decide +kernel
theorem dX5_call_0 : decode cX5_call 0 = .ok (.aload_n 0, 1) := by decide +kernel
theorem dX5_call_1 : decode cX5_call 1 = .ok (.getfield 33, 3) := by decide +kernel
theorem dX5_call_4 : decode cX5_call 4 = .ok (.iload_n 1, 1) := by decide +kernel
theorem dX5_call_5 : decode cX5_call 5 = .ok (.invokevirtual 168, 3) := by decide +kernel
theorem dX5_call_8 : decode cX5_call 8 = .ok (.ifCond .ne 6, 3) := by decide +kernel
theorem dX5_call_11 : decode cX5_call 11 = .ok (.ldc 52, 2) := by decide +kernel
theorem dX5_call_13 : decode cX5_call 13 = .ok (.ireturn, 1) := by decide +kernel
theorem dX5_call_14 : decode cX5_call 14 = .ok (.aload_n 0, 1) := by decide +kernel
theorem dX5_call_15 : decode cX5_call 15 = .ok (.getfield 33, 3) := by decide +kernel
theorem dX5_call_18 : decode cX5_call 18 = .ok (.getfield 175, 3) := by decide +kernel
theorem dX5_call_21 : decode cX5_call 21 = .ok (.iload_n 1, 1) := by decide +kernel
theorem dX5_call_22 : decode cX5_call 22 = .ok (.invokestatic 178, 3) := by decide +kernel
theorem dX5_call_25 : decode cX5_call 25 = .ok (.ifCond .eq 8, 3) := by decide +kernel
theorem dX5_call_28 : decode cX5_call 28 = .ok (.ldc 86, 2) := by decide +kernel
theorem dX5_call_30 : decode cX5_call 30 = .ok (.goto 11, 3) := by decide +kernel
theorem dX5_call_33 : decode cX5_call 33 = .ok (.aload_n 0, 1) := by decide +kernel
theorem dX5_call_34 : decode cX5_call 34 = .ok (.getfield 33, 3) := by decide +kernel
theorem dX5_call_37 : decode cX5_call 37 = .ok (.iload_n 1, 1) := by decide +kernel
theorem dX5_call_38 : decode cX5_call 38 = .ok (.invokevirtual 181, 3) := by decide +kernel
theorem dX5_call_41 : decode cX5_call 41 = .ok (.ireturn, 1) := by decide +kernel
theorem dX5_joins_0 : decode cX5_joins 0 = .ok (.iload_n 1, 1) := by decide +kernel
theorem dX5_joins_1 : decode cX5_joins 1 = .ok (.tableswitch 75 0 4 #[35, 43, 51, 59, 67], 35) := by decide +kernel
theorem dX5_joins_36 : decode cX5_joins 36 = .ok (.aload_n 0, 1) := by decide +kernel
theorem dX5_joins_37 : decode cX5_joins 37 = .ok (.getfield 33, 3) := by decide +kernel
theorem dX5_joins_40 : decode cX5_joins 40 = .ok (.getfield 184, 3) := by decide +kernel
theorem dX5_joins_43 : decode cX5_joins 43 = .ok (.ireturn, 1) := by decide +kernel
theorem dX5_joins_44 : decode cX5_joins 44 = .ok (.aload_n 0, 1) := by decide +kernel
theorem dX5_joins_45 : decode cX5_joins 45 = .ok (.getfield 33, 3) := by decide +kernel
theorem dX5_joins_48 : decode cX5_joins 48 = .ok (.invokevirtual 185, 3) := by decide +kernel
theorem dX5_joins_51 : decode cX5_joins 51 = .ok (.ireturn, 1) := by decide +kernel
theorem dX5_joins_52 : decode cX5_joins 52 = .ok (.aload_n 0, 1) := by decide +kernel
theorem dX5_joins_53 : decode cX5_joins 53 = .ok (.getfield 33, 3) := by decide +kernel
theorem dX5_joins_56 : decode cX5_joins 56 = .ok (.getfield 175, 3) := by decide +kernel
theorem dX5_joins_59 : decode cX5_joins 59 = .ok (.ireturn, 1) := by decide +kernel
theorem dX5_joins_60 : decode cX5_joins 60 = .ok (.aload_n 0, 1) := by decide +kernel
theorem dX5_joins_61 : decode cX5_joins 61 = .ok (.getfield 33, 3) := by decide +kernel
theorem dX5_joins_64 : decode cX5_joins 64 = .ok (.getfield 186, 3) := by decide +kernel
theorem dX5_joins_67 : decode cX5_joins 67 = .ok (.ireturn, 1) := by decide +kernel
theorem dX5_joins_68 : decode cX5_joins 68 = .ok (.aload_n 0, 1) := by decide +kernel
theorem dX5_joins_69 : decode cX5_joins 69 = .ok (.getfield 33, 3) := by decide +kernel
theorem dX5_joins_72 : decode cX5_joins 72 = .ok (.getfield 189, 3) := by decide +kernel
theorem dX5_joins_75 : decode cX5_joins 75 = .ok (.ireturn, 1) := by decide +kernel
theorem dX5_joins_76 : decode cX5_joins 76 = .ok (.ldc 52, 2) := by decide +kernel
theorem dX5_joins_78 : decode cX5_joins 78 = .ok (.ireturn, 1) := by decide +kernel
theorem dX5_kind_0 : decode cX5_kind 0 = .ok (.aload_n 0, 1) := by decide +kernel
theorem dX5_kind_1 : decode cX5_kind 1 = .ok (.getfield 19, 3) := by decide +kernel
theorem dX5_kind_4 : decode cX5_kind 4 = .ok (.iload_n 1, 1) := by decide +kernel
theorem dX5_kind_5 : decode cX5_kind 5 = .ok (.invokevirtual 123, 3) := by decide +kernel
theorem dX5_kind_8 : decode cX5_kind 8 = .ok (.ifCond .eq 14, 3) := by decide +kernel
theorem dX5_kind_11 : decode cX5_kind 11 = .ok (.aload_n 0, 1) := by decide +kernel
theorem dX5_kind_12 : decode cX5_kind 12 = .ok (.getfield 19, 3) := by decide +kernel
theorem dX5_kind_15 : decode cX5_kind 15 = .ok (.iload_n 1, 1) := by decide +kernel
theorem dX5_kind_16 : decode cX5_kind 16 = .ok (.invokevirtual 192, 3) := by decide +kernel
theorem dX5_kind_19 : decode cX5_kind 19 = .ok (.goto 5, 3) := by decide +kernel
theorem dX5_kind_22 : decode cX5_kind 22 = .ok (.ldc 52, 2) := by decide +kernel
theorem dX5_kind_24 : decode cX5_kind 24 = .ok (.ireturn, 1) := by decide +kernel
theorem dX5_as_0 : decode cX5_as 0 = .ok (.aload_n 0, 1) := by decide +kernel
theorem dX5_as_1 : decode cX5_as 1 = .ok (.getfield 19, 3) := by decide +kernel
theorem dX5_as_4 : decode cX5_as 4 = .ok (.iload_n 1, 1) := by decide +kernel
theorem dX5_as_5 : decode cX5_as 5 = .ok (.invokevirtual 123, 3) := by decide +kernel
theorem dX5_as_8 : decode cX5_as 8 = .ok (.ifCond .eq 11, 3) := by decide +kernel
theorem dX5_as_11 : decode cX5_as 11 = .ok (.iload_n 2, 1) := by decide +kernel
theorem dX5_as_12 : decode cX5_as 12 = .ok (.iconst 4, 1) := by decide +kernel
theorem dX5_as_13 : decode cX5_as 13 = .ok (.invokestatic 48, 3) := by decide +kernel
theorem dX5_as_16 : decode cX5_as 16 = .ok (.ifCond .ne 6, 3) := by decide +kernel
theorem dX5_as_19 : decode cX5_as 19 = .ok (.ldc 52, 2) := by decide +kernel
theorem dX5_as_21 : decode cX5_as 21 = .ok (.ireturn, 1) := by decide +kernel
theorem dX5_as_22 : decode cX5_as 22 = .ok (.aload_n 0, 1) := by decide +kernel
theorem dX5_as_23 : decode cX5_as 23 = .ok (.aload_n 0, 1) := by decide +kernel
theorem dX5_as_24 : decode cX5_as 24 = .ok (.getfield 19, 3) := by decide +kernel
theorem dX5_as_27 : decode cX5_as 27 = .ok (.iload_n 1, 1) := by decide +kernel
theorem dX5_as_28 : decode cX5_as 28 = .ok (.iload_n 2, 1) := by decide +kernel
theorem dX5_as_29 : decode cX5_as 29 = .ok (.invokevirtual 195, 3) := by decide +kernel
theorem dX5_as_32 : decode cX5_as 32 = .ok (.ifCond .eq 7, 3) := by decide +kernel
theorem dX5_as_35 : decode cX5_as 35 = .ok (.iconst 0, 1) := by decide +kernel
theorem dX5_as_36 : decode cX5_as 36 = .ok (.goto 4, 3) := by decide +kernel
theorem dX5_as_39 : decode cX5_as 39 = .ok (.iconst 3, 1) := by decide +kernel
theorem dX5_as_40 : decode cX5_as 40 = .ok (.putfield 44, 3) := by decide +kernel
theorem dX5_as_43 : decode cX5_as 43 = .ok (.aload_n 0, 1) := by decide +kernel
theorem dX5_as_44 : decode cX5_as 44 = .ok (.getfield 44, 3) := by decide +kernel
theorem dX5_as_47 : decode cX5_as 47 = .ok (.ifCond .ne 15, 3) := by decide +kernel
theorem dX5_as_50 : decode cX5_as 50 = .ok (.aload_n 0, 1) := by decide +kernel
theorem dX5_as_51 : decode cX5_as 51 = .ok (.getfield 19, 3) := by decide +kernel
theorem dX5_as_54 : decode cX5_as 54 = .ok (.getfield 126, 3) := by decide +kernel
theorem dX5_as_57 : decode cX5_as 57 = .ok (.iload_n 1, 1) := by decide +kernel
theorem dX5_as_58 : decode cX5_as 58 = .ok (.iaload, 1) := by decide +kernel
theorem dX5_as_59 : decode cX5_as 59 = .ok (.goto 10, 3) := by decide +kernel
theorem dX5_as_62 : decode cX5_as 62 = .ok (.ldc 57, 2) := by decide +kernel
theorem dX5_as_64 : decode cX5_as 64 = .ok (.aload_n 0, 1) := by decide +kernel
theorem dX5_as_65 : decode cX5_as 65 = .ok (.getfield 44, 3) := by decide +kernel
theorem dX5_as_68 : decode cX5_as 68 = .ok (.isub, 1) := by decide +kernel
theorem dX5_as_69 : decode cX5_as 69 = .ok (.ireturn, 1) := by decide +kernel
theorem dX5_ask_0 : decode cX5_ask 0 = .ok (.aload_n 0, 1) := by decide +kernel
theorem dX5_ask_1 : decode cX5_ask 1 = .ok (.getfield 19, 3) := by decide +kernel
theorem dX5_ask_4 : decode cX5_ask 4 = .ok (.iload_n 1, 1) := by decide +kernel
theorem dX5_ask_5 : decode cX5_ask 5 = .ok (.invokevirtual 123, 3) := by decide +kernel
theorem dX5_ask_8 : decode cX5_ask 8 = .ok (.ifCond .ne 6, 3) := by decide +kernel
theorem dX5_ask_11 : decode cX5_ask 11 = .ok (.ldc 52, 2) := by decide +kernel
theorem dX5_ask_13 : decode cX5_ask 13 = .ok (.ireturn, 1) := by decide +kernel
theorem dX5_ask_14 : decode cX5_ask 14 = .ok (.iload_n 2, 1) := by decide +kernel
theorem dX5_ask_15 : decode cX5_ask 15 = .ok (.lookupswitch 51 #[(0, 25), (1, 38)], 25) := by decide +kernel
theorem dX5_ask_40 : decode cX5_ask 40 = .ok (.aload_n 0, 1) := by decide +kernel
theorem dX5_ask_41 : decode cX5_ask 41 = .ok (.getfield 40, 3) := by decide +kernel
theorem dX5_ask_44 : decode cX5_ask 44 = .ok (.aload_n 0, 1) := by decide +kernel
theorem dX5_ask_45 : decode cX5_ask 45 = .ok (.getfield 19, 3) := by decide +kernel
theorem dX5_ask_48 : decode cX5_ask 48 = .ok (.iload_n 1, 1) := by decide +kernel
theorem dX5_ask_49 : decode cX5_ask 49 = .ok (.invokevirtual 198, 3) := by decide +kernel
theorem dX5_ask_52 : decode cX5_ask 52 = .ok (.ireturn, 1) := by decide +kernel
theorem dX5_ask_53 : decode cX5_ask 53 = .ok (.aload_n 0, 1) := by decide +kernel
theorem dX5_ask_54 : decode cX5_ask 54 = .ok (.getfield 40, 3) := by decide +kernel
theorem dX5_ask_57 : decode cX5_ask 57 = .ok (.aload_n 0, 1) := by decide +kernel
theorem dX5_ask_58 : decode cX5_ask 58 = .ok (.getfield 19, 3) := by decide +kernel
theorem dX5_ask_61 : decode cX5_ask 61 = .ok (.iload_n 1, 1) := by decide +kernel
theorem dX5_ask_62 : decode cX5_ask 62 = .ok (.invokevirtual 202, 3) := by decide +kernel
theorem dX5_ask_65 : decode cX5_ask 65 = .ok (.ireturn, 1) := by decide +kernel
theorem dX5_ask_66 : decode cX5_ask 66 = .ok (.ldc 52, 2) := by decide +kernel
theorem dX5_ask_68 : decode cX5_ask 68 = .ok (.ireturn, 1) := by decide +kernel
theorem dX5_trace_0 : decode cX5_trace 0 = .ok (.iload_n 1, 1) := by decide +kernel
theorem dX5_trace_1 : decode cX5_trace 1 = .ok (.aload_n 0, 1) := by decide +kernel
theorem dX5_trace_2 : decode cX5_trace 2 = .ok (.getfield 40, 3) := by decide +kernel
theorem dX5_trace_5 : decode cX5_trace 5 = .ok (.getfield 205, 3) := by decide +kernel
theorem dX5_trace_8 : decode cX5_trace 8 = .ok (.invokestatic 48, 3) := by decide +kernel
theorem dX5_trace_11 : decode cX5_trace 11 = .ok (.ifCond .eq 15, 3) := by decide +kernel
theorem dX5_trace_14 : decode cX5_trace 14 = .ok (.aload_n 0, 1) := by decide +kernel
theorem dX5_trace_15 : decode cX5_trace 15 = .ok (.getfield 40, 3) := by decide +kernel
theorem dX5_trace_18 : decode cX5_trace 18 = .ok (.getfield 208, 3) := by decide +kernel
theorem dX5_trace_21 : decode cX5_trace 21 = .ok (.iload_n 1, 1) := by decide +kernel
theorem dX5_trace_22 : decode cX5_trace 22 = .ok (.iaload, 1) := by decide +kernel
theorem dX5_trace_23 : decode cX5_trace 23 = .ok (.goto 5, 3) := by decide +kernel
theorem dX5_trace_26 : decode cX5_trace 26 = .ok (.ldc 211, 2) := by decide +kernel
theorem dX5_trace_28 : decode cX5_trace 28 = .ok (.ireturn, 1) := by decide +kernel
theorem dX5_count_0 : decode cX5_count 0 = .ok (.iload_n 1, 1) := by decide +kernel
theorem dX5_count_1 : decode cX5_count 1 = .ok (.tableswitch 102 0 6 #[43, 51, 59, 70, 78, 86, 94], 43) := by decide +kernel
theorem dX5_count_44 : decode cX5_count 44 = .ok (.aload_n 0, 1) := by decide +kernel
theorem dX5_count_45 : decode cX5_count 45 = .ok (.getfield 10, 3) := by decide +kernel
theorem dX5_count_48 : decode cX5_count 48 = .ok (.invokevirtual 212, 3) := by decide +kernel
theorem dX5_count_51 : decode cX5_count 51 = .ok (.ireturn, 1) := by decide +kernel
theorem dX5_count_52 : decode cX5_count 52 = .ok (.aload_n 0, 1) := by decide +kernel
theorem dX5_count_53 : decode cX5_count 53 = .ok (.getfield 19, 3) := by decide +kernel
theorem dX5_count_56 : decode cX5_count 56 = .ok (.getfield 87, 3) := by decide +kernel
theorem dX5_count_59 : decode cX5_count 59 = .ok (.ireturn, 1) := by decide +kernel
theorem dX5_count_60 : decode cX5_count 60 = .ok (.aload_n 0, 1) := by decide +kernel
theorem dX5_count_61 : decode cX5_count 61 = .ok (.getfield 19, 3) := by decide +kernel
theorem dX5_count_64 : decode cX5_count 64 = .ok (.getfield 120, 3) := by decide +kernel
theorem dX5_count_67 : decode cX5_count 67 = .ok (.invokestatic 215, 3) := by decide +kernel
theorem dX5_count_70 : decode cX5_count 70 = .ok (.ireturn, 1) := by decide +kernel
theorem dX5_count_71 : decode cX5_count 71 = .ok (.aload_n 0, 1) := by decide +kernel
theorem dX5_count_72 : decode cX5_count 72 = .ok (.getfield 19, 3) := by decide +kernel
theorem dX5_count_75 : decode cX5_count 75 = .ok (.invokevirtual 220, 3) := by decide +kernel
theorem dX5_count_78 : decode cX5_count 78 = .ok (.ireturn, 1) := by decide +kernel
theorem dX5_count_79 : decode cX5_count 79 = .ok (.aload_n 0, 1) := by decide +kernel
theorem dX5_count_80 : decode cX5_count 80 = .ok (.getfield 26, 3) := by decide +kernel
theorem dX5_count_83 : decode cX5_count 83 = .ok (.getfield 148, 3) := by decide +kernel
theorem dX5_count_86 : decode cX5_count 86 = .ok (.ireturn, 1) := by decide +kernel
theorem dX5_count_87 : decode cX5_count 87 = .ok (.aload_n 0, 1) := by decide +kernel
theorem dX5_count_88 : decode cX5_count 88 = .ok (.getfield 33, 3) := by decide +kernel
theorem dX5_count_91 : decode cX5_count 91 = .ok (.getfield 165, 3) := by decide +kernel
theorem dX5_count_94 : decode cX5_count 94 = .ok (.ireturn, 1) := by decide +kernel
theorem dX5_count_95 : decode cX5_count 95 = .ok (.aload_n 0, 1) := by decide +kernel
theorem dX5_count_96 : decode cX5_count 96 = .ok (.getfield 33, 3) := by decide +kernel
theorem dX5_count_99 : decode cX5_count 99 = .ok (.getfield 223, 3) := by decide +kernel
theorem dX5_count_102 : decode cX5_count 102 = .ok (.ireturn, 1) := by decide +kernel
theorem dX5_count_103 : decode cX5_count 103 = .ok (.ldc 52, 2) := by decide +kernel
theorem dX5_count_105 : decode cX5_count 105 = .ok (.ireturn, 1) := by decide +kernel
theorem dX5_status_0 : decode cX5_status 0 = .ok (.aload_n 0, 1) := by decide +kernel
theorem dX5_status_1 : decode cX5_status 1 = .ok (.getfield 44, 3) := by decide +kernel
theorem dX5_status_4 : decode cX5_status 4 = .ok (.ireturn, 1) := by decide +kernel
theorem dX5_isUnder_0 : decode cX5_isUnder 0 = .ok (.iload_n 0, 1) := by decide +kernel
theorem dX5_isUnder_1 : decode cX5_isUnder 1 = .ok (.ifCond .lt 12, 3) := by decide +kernel
theorem dX5_isUnder_4 : decode cX5_isUnder 4 = .ok (.iload_n 0, 1) := by decide +kernel
theorem dX5_isUnder_5 : decode cX5_isUnder 5 = .ok (.iload_n 1, 1) := by decide +kernel
theorem dX5_isUnder_6 : decode cX5_isUnder 6 = .ok (.if_icmp .ge 7, 3) := by decide +kernel
theorem dX5_isUnder_9 : decode cX5_isUnder 9 = .ok (.iconst 1, 1) := by decide +kernel
theorem dX5_isUnder_10 : decode cX5_isUnder 10 = .ok (.goto 4, 3) := by decide +kernel
theorem dX5_isUnder_13 : decode cX5_isUnder 13 = .ok (.iconst 0, 1) := by decide +kernel
theorem dX5_isUnder_14 : decode cX5_isUnder 14 = .ok (.ireturn, 1) := by decide +kernel
theorem dX5_isWithin_0 : decode cX5_isWithin 0 = .ok (.iload_n 0, 1) := by decide +kernel
theorem dX5_isWithin_1 : decode cX5_isWithin 1 = .ok (.iload_n 1, 1) := by decide +kernel
theorem dX5_isWithin_2 : decode cX5_isWithin 2 = .ok (.if_icmp .lt 12, 3) := by decide +kernel
theorem dX5_isWithin_5 : decode cX5_isWithin 5 = .ok (.iload_n 0, 1) := by decide +kernel
theorem dX5_isWithin_6 : decode cX5_isWithin 6 = .ok (.iload_n 2, 1) := by decide +kernel
theorem dX5_isWithin_7 : decode cX5_isWithin 7 = .ok (.if_icmp .gt 7, 3) := by decide +kernel
theorem dX5_isWithin_10 : decode cX5_isWithin 10 = .ok (.iconst 1, 1) := by decide +kernel
theorem dX5_isWithin_11 : decode cX5_isWithin 11 = .ok (.goto 4, 3) := by decide +kernel
theorem dX5_isWithin_14 : decode cX5_isWithin 14 = .ok (.iconst 0, 1) := by decide +kernel
theorem dX5_isWithin_15 : decode cX5_isWithin 15 = .ok (.ireturn, 1) := by decide +kernel
theorem dX5_holds_0 : decode cX5_holds 0 = .ok (.iload_n 0, 1) := by decide +kernel
theorem dX5_holds_1 : decode cX5_holds 1 = .ok (.iload_n 1, 1) := by decide +kernel
theorem dX5_holds_2 : decode cX5_holds 2 = .ok (.iushr, 1) := by decide +kernel
theorem dX5_holds_3 : decode cX5_holds 3 = .ok (.iconst 1, 1) := by decide +kernel
theorem dX5_holds_4 : decode cX5_holds 4 = .ok (.iand, 1) := by decide +kernel
theorem dX5_holds_5 : decode cX5_holds 5 = .ok (.ifCond .eq 7, 3) := by decide +kernel
theorem dX5_holds_8 : decode cX5_holds 8 = .ok (.iconst 1, 1) := by decide +kernel
theorem dX5_holds_9 : decode cX5_holds 9 = .ok (.goto 4, 3) := by decide +kernel
theorem dX5_holds_12 : decode cX5_holds 12 = .ok (.iconst 0, 1) := by decide +kernel
theorem dX5_holds_13 : decode cX5_holds 13 = .ok (.ireturn, 1) := by decide +kernel
end
section
theorem dX6_init_0 : decode cX6_init 0 = .ok (.aload_n 0, 1) := by decide +kernel
theorem dX6_init_1 : decode cX6_init 1 = .ok (.invokespecial 1, 3) := by decide +kernel
theorem dX6_init_4 : decode cX6_init 4 = .ok (.aload_n 0, 1) := by decide +kernel
theorem dX6_init_5 : decode cX6_init 5 = .ok (.bipush 8, 2) := by decide +kernel
theorem dX6_init_7 : decode cX6_init 7 = .ok (.newarray .int, 2) := by decide +kernel
theorem dX6_init_9 : decode cX6_init 9 = .ok (.dup, 1) := by decide +kernel
theorem dX6_init_10 : decode cX6_init 10 = .ok (.iconst 0, 1) := by decide +kernel
theorem dX6_init_11 : decode cX6_init 11 = .ok (.iconst (-1), 1) := by decide +kernel
theorem dX6_init_12 : decode cX6_init 12 = .ok (.iastore, 1) := by decide +kernel
theorem dX6_init_13 : decode cX6_init 13 = .ok (.dup, 1) := by decide +kernel
theorem dX6_init_14 : decode cX6_init 14 = .ok (.iconst 1, 1) := by decide +kernel
theorem dX6_init_15 : decode cX6_init 15 = .ok (.iconst (-1), 1) := by decide +kernel
theorem dX6_init_16 : decode cX6_init 16 = .ok (.iastore, 1) := by decide +kernel
theorem dX6_init_17 : decode cX6_init 17 = .ok (.dup, 1) := by decide +kernel
theorem dX6_init_18 : decode cX6_init 18 = .ok (.iconst 2, 1) := by decide +kernel
theorem dX6_init_19 : decode cX6_init 19 = .ok (.iconst (-1), 1) := by decide +kernel
theorem dX6_init_20 : decode cX6_init 20 = .ok (.iastore, 1) := by decide +kernel
theorem dX6_init_21 : decode cX6_init 21 = .ok (.dup, 1) := by decide +kernel
theorem dX6_init_22 : decode cX6_init 22 = .ok (.iconst 3, 1) := by decide +kernel
theorem dX6_init_23 : decode cX6_init 23 = .ok (.iconst (-1), 1) := by decide +kernel
theorem dX6_init_24 : decode cX6_init 24 = .ok (.iastore, 1) := by decide +kernel
theorem dX6_init_25 : decode cX6_init 25 = .ok (.dup, 1) := by decide +kernel
theorem dX6_init_26 : decode cX6_init 26 = .ok (.iconst 4, 1) := by decide +kernel
theorem dX6_init_27 : decode cX6_init 27 = .ok (.iconst (-1), 1) := by decide +kernel
theorem dX6_init_28 : decode cX6_init 28 = .ok (.iastore, 1) := by decide +kernel
theorem dX6_init_29 : decode cX6_init 29 = .ok (.dup, 1) := by decide +kernel
theorem dX6_init_30 : decode cX6_init 30 = .ok (.iconst 5, 1) := by decide +kernel
theorem dX6_init_31 : decode cX6_init 31 = .ok (.iconst (-1), 1) := by decide +kernel
theorem dX6_init_32 : decode cX6_init 32 = .ok (.iastore, 1) := by decide +kernel
theorem dX6_init_33 : decode cX6_init 33 = .ok (.dup, 1) := by decide +kernel
theorem dX6_init_34 : decode cX6_init 34 = .ok (.bipush 6, 2) := by decide +kernel
theorem dX6_init_36 : decode cX6_init 36 = .ok (.iconst (-1), 1) := by decide +kernel
theorem dX6_init_37 : decode cX6_init 37 = .ok (.iastore, 1) := by decide +kernel
theorem dX6_init_38 : decode cX6_init 38 = .ok (.dup, 1) := by decide +kernel
theorem dX6_init_39 : decode cX6_init 39 = .ok (.bipush 7, 2) := by decide +kernel
theorem dX6_init_41 : decode cX6_init 41 = .ok (.iconst (-1), 1) := by decide +kernel
theorem dX6_init_42 : decode cX6_init 42 = .ok (.iastore, 1) := by decide +kernel
theorem dX6_init_43 : decode cX6_init 43 = .ok (.putfield 7, 3) := by decide +kernel
theorem dX6_init_46 : decode cX6_init 46 = .ok (.aload_n 0, 1) := by decide +kernel
theorem dX6_init_47 : decode cX6_init 47 = .ok (.bipush 8, 2) := by decide +kernel
theorem dX6_init_49 : decode cX6_init 49 = .ok (.newarray .int, 2) := by decide +kernel
theorem dX6_init_51 : decode cX6_init 51 = .ok (.putfield 13, 3) := by decide +kernel
theorem dX6_init_54 : decode cX6_init 54 = .ok (.aload_n 0, 1) := by decide +kernel
theorem dX6_init_55 : decode cX6_init 55 = .ok (.sipush 480, 3) := by decide +kernel
theorem dX6_init_58 : decode cX6_init 58 = .ok (.newarray .int, 2) := by decide +kernel
theorem dX6_init_60 : decode cX6_init 60 = .ok (.putfield 16, 3) := by decide +kernel
theorem dX6_init_63 : decode cX6_init 63 = .ok (.aload_n 0, 1) := by decide +kernel
theorem dX6_init_64 : decode cX6_init 64 = .ok (.bipush 10, 2) := by decide +kernel
theorem dX6_init_66 : decode cX6_init 66 = .ok (.newarray .int, 2) := by decide +kernel
theorem dX6_init_68 : decode cX6_init 68 = .ok (.putfield 19, 3) := by decide +kernel
theorem dX6_init_71 : decode cX6_init 71 = .ok (.aload_n 0, 1) := by decide +kernel
theorem dX6_init_72 : decode cX6_init 72 = .ok (.bipush 10, 2) := by decide +kernel
theorem dX6_init_74 : decode cX6_init 74 = .ok (.newarray .int, 2) := by decide +kernel
theorem dX6_init_76 : decode cX6_init 76 = .ok (.putfield 22, 3) := by decide +kernel
theorem dX6_init_79 : decode cX6_init 79 = .ok (.aload_n 0, 1) := by decide +kernel
theorem dX6_init_80 : decode cX6_init 80 = .ok (.bipush 12, 2) := by decide +kernel
theorem dX6_init_82 : decode cX6_init 82 = .ok (.newarray .int, 2) := by decide +kernel
theorem dX6_init_84 : decode cX6_init 84 = .ok (.putfield 25, 3) := by decide +kernel
theorem dX6_init_87 : decode cX6_init 87 = .ok (.aload_n 0, 1) := by decide +kernel
theorem dX6_init_88 : decode cX6_init 88 = .ok (.iconst 4, 1) := by decide +kernel
theorem dX6_init_89 : decode cX6_init 89 = .ok (.newarray .int, 2) := by decide +kernel
theorem dX6_init_91 : decode cX6_init 91 = .ok (.putfield 28, 3) := by decide +kernel
theorem dX6_init_94 : decode cX6_init 94 = .ok (.aload_n 0, 1) := by decide +kernel
theorem dX6_init_95 : decode cX6_init 95 = .ok (.iconst 4, 1) := by decide +kernel
theorem dX6_init_96 : decode cX6_init 96 = .ok (.newarray .int, 2) := by decide +kernel
theorem dX6_init_98 : decode cX6_init 98 = .ok (.putfield 31, 3) := by decide +kernel
theorem dX6_init_101 : decode cX6_init 101 = .ok (.aload_n 0, 1) := by decide +kernel
theorem dX6_init_102 : decode cX6_init 102 = .ok (.sipush 128, 3) := by decide +kernel
theorem dX6_init_105 : decode cX6_init 105 = .ok (.newarray .boolean, 2) := by decide +kernel
theorem dX6_init_107 : decode cX6_init 107 = .ok (.putfield 34, 3) := by decide +kernel
theorem dX6_init_110 : decode cX6_init 110 = .ok (.aload_n 0, 1) := by decide +kernel
theorem dX6_init_111 : decode cX6_init 111 = .ok (.sipush 128, 3) := by decide +kernel
theorem dX6_init_114 : decode cX6_init 114 = .ok (.newarray .int, 2) := by decide +kernel
theorem dX6_init_116 : decode cX6_init 116 = .ok (.putfield 38, 3) := by decide +kernel
theorem dX6_init_119 : decode cX6_init 119 = .ok (.aload_n 0, 1) := by decide +kernel
theorem dX6_init_120 : decode cX6_init 120 = .ok (.sipush 512, 3) := by decide +kernel
theorem dX6_init_123 : decode cX6_init 123 = .ok (.newarray .boolean, 2) := by decide +kernel
theorem dX6_init_125 : decode cX6_init 125 = .ok (.putfield 41, 3) := by decide +kernel
theorem dX6_init_128 : decode cX6_init 128 = .ok (.aload_n 0, 1) := by decide +kernel
theorem dX6_init_129 : decode cX6_init 129 = .ok (.iconst (-1), 1) := by decide +kernel
theorem dX6_init_130 : decode cX6_init 130 = .ok (.putfield 44, 3) := by decide +kernel
theorem dX6_init_133 : decode cX6_init 133 = .ok (.aload_n 0, 1) := by decide +kernel
theorem dX6_init_134 : decode cX6_init 134 = .ok (.sipush 128, 3) := by decide +kernel
theorem dX6_init_137 : decode cX6_init 137 = .ok (.newarray .int, 2) := by decide +kernel
theorem dX6_init_139 : decode cX6_init 139 = .ok (.putfield 48, 3) := by decide +kernel
theorem dX6_init_142 : decode cX6_init 142 = .ok (.aload_n 0, 1) := by decide +kernel
theorem dX6_init_143 : decode cX6_init 143 = .ok (.bipush 100, 2) := by decide +kernel
theorem dX6_init_145 : decode cX6_init 145 = .ok (.newarray .int, 2) := by decide +kernel
theorem dX6_init_147 : decode cX6_init 147 = .ok (.putfield 51, 3) := by decide +kernel
theorem dX6_init_150 : decode cX6_init 150 = .ok (.aload_n 0, 1) := by decide +kernel
theorem dX6_init_151 : decode cX6_init 151 = .ok (.bipush 100, 2) := by decide +kernel
theorem dX6_init_153 : decode cX6_init 153 = .ok (.newarray .boolean, 2) := by decide +kernel
theorem dX6_init_155 : decode cX6_init 155 = .ok (.putfield 54, 3) := by decide +kernel
theorem dX6_init_158 : decode cX6_init 158 = .ok (.aload_n 0, 1) := by decide +kernel
theorem dX6_init_159 : decode cX6_init 159 = .ok (.bipush 10, 2) := by decide +kernel
theorem dX6_init_161 : decode cX6_init 161 = .ok (.newarray .int, 2) := by decide +kernel
theorem dX6_init_163 : decode cX6_init 163 = .ok (.putfield 57, 3) := by decide +kernel
theorem dX6_init_166 : decode cX6_init 166 = .ok (.aload_n 0, 1) := by decide +kernel
theorem dX6_init_167 : decode cX6_init 167 = .ok (.bipush 10, 2) := by decide +kernel
theorem dX6_init_169 : decode cX6_init 169 = .ok (.newarray .int, 2) := by decide +kernel
theorem dX6_init_171 : decode cX6_init 171 = .ok (.putfield 60, 3) := by decide +kernel
theorem dX6_init_174 : decode cX6_init 174 = .ok (.aload_n 0, 1) := by decide +kernel
theorem dX6_init_175 : decode cX6_init 175 = .ok (.bipush 16, 2) := by decide +kernel
theorem dX6_init_177 : decode cX6_init 177 = .ok (.newarray .int, 2) := by decide +kernel
theorem dX6_init_179 : decode cX6_init 179 = .ok (.putfield 63, 3) := by decide +kernel
theorem dX6_init_182 : decode cX6_init 182 = .ok (.return_, 1) := by decide +kernel
theorem dX6_in_0 : decode cX6_in 0 = .ok (.lload_n 0, 1) := by decide +kernel
theorem dX6_in_1 : decode cX6_in 1 = .ok (.lload_n 2, 1) := by decide +kernel
theorem dX6_in_2 : decode cX6_in 2 = .ok (.lcmp, 1) := by decide +kernel
theorem dX6_in_3 : decode cX6_in 3 = .ok (.ifCond .lt 14, 3) := by decide +kernel
theorem dX6_in_6 : decode cX6_in 6 = .ok (.lload_n 0, 1) := by decide +kernel
theorem dX6_in_7 : decode cX6_in 7 = .ok (.lload 4, 2) := by decide +kernel
theorem dX6_in_9 : decode cX6_in 9 = .ok (.lcmp, 1) := by decide +kernel
theorem dX6_in_10 : decode cX6_in 10 = .ok (.ifCond .gt 7, 3) := by decide +kernel
theorem dX6_in_13 : decode cX6_in 13 = .ok (.iconst 1, 1) := by decide +kernel
theorem dX6_in_14 : decode cX6_in 14 = .ok (.goto 4, 3) := by decide +kernel
theorem dX6_in_17 : decode cX6_in 17 = .ok (.iconst 0, 1) := by decide +kernel
theorem dX6_in_18 : decode cX6_in 18 = .ok (.ireturn, 1) := by decide +kernel
theorem dX6_found_0 : decode cX6_found 0 = .ok (.aload_n 0, 1) := by decide +kernel
theorem dX6_found_1 : decode cX6_found 1 = .ok (.iload_n 1, 1) := by decide +kernel
theorem dX6_found_2 : decode cX6_found 2 = .ok (.putfield 69, 3) := by decide +kernel
theorem dX6_found_5 : decode cX6_found 5 = .ok (.ldc 72, 2) := by decide +kernel
theorem dX6_found_7 : decode cX6_found 7 = .ok (.iload_n 1, 1) := by decide +kernel
theorem dX6_found_8 : decode cX6_found 8 = .ok (.isub, 1) := by decide +kernel
theorem dX6_found_9 : decode cX6_found 9 = .ok (.ireturn, 1) := by decide +kernel
theorem dX6_isSheet_0 : decode cX6_isSheet 0 = .ok (.iload_n 0, 1) := by decide +kernel
theorem dX6_isSheet_1 : decode cX6_isSheet 1 = .ok (.i2l, 1) := by decide +kernel
theorem dX6_isSheet_2 : decode cX6_isSheet 2 = .ok (.lconst 0, 1) := by decide +kernel
theorem dX6_isSheet_3 : decode cX6_isSheet 3 = .ok (.ldc2_w 73, 3) := by decide +kernel
theorem dX6_isSheet_6 : decode cX6_isSheet 6 = .ok (.invokestatic 75, 3) := by decide +kernel
theorem dX6_isSheet_9 : decode cX6_isSheet 9 = .ok (.ireturn, 1) := by decide +kernel
theorem dX6_sheet_0 : decode cX6_sheet 0 = .ok (.aload_n 0, 1) := by decide +kernel
theorem dX6_sheet_1 : decode cX6_sheet 1 = .ok (.iconst 0, 1) := by decide +kernel
theorem dX6_sheet_2 : decode cX6_sheet 2 = .ok (.putfield 66, 3) := by decide +kernel
theorem dX6_sheet_5 : decode cX6_sheet 5 = .ok (.iload_n 1, 1) := by decide +kernel
theorem dX6_sheet_6 : decode cX6_sheet 6 = .ok (.invokestatic 79, 3) := by decide +kernel
theorem dX6_sheet_9 : decode cX6_sheet 9 = .ok (.ifCond .eq 21, 3) := by decide +kernel
theorem dX6_sheet_12 : decode cX6_sheet 12 = .ok (.iload_n 2, 1) := by decide +kernel
theorem dX6_sheet_13 : decode cX6_sheet 13 = .ok (.i2l, 1) := by decide +kernel
theorem dX6_sheet_14 : decode cX6_sheet 14 = .ok (.lconst 0, 1) := by decide +kernel
theorem dX6_sheet_15 : decode cX6_sheet 15 = .ok (.ldc2_w 83, 3) := by decide +kernel
theorem dX6_sheet_18 : decode cX6_sheet 18 = .ok (.invokestatic 75, 3) := by decide +kernel
theorem dX6_sheet_21 : decode cX6_sheet 21 = .ok (.ifCond .eq 9, 3) := by decide +kernel
theorem dX6_sheet_24 : decode cX6_sheet 24 = .ok (.iload_n 3, 1) := by decide +kernel
theorem dX6_sheet_25 : decode cX6_sheet 25 = .ok (.bipush 60, 2) := by decide +kernel
theorem dX6_sheet_27 : decode cX6_sheet 27 = .ok (.if_icmp .le 6, 3) := by decide +kernel
theorem dX6_sheet_30 : decode cX6_sheet 30 = .ok (.ldc 85, 2) := by decide +kernel
theorem dX6_sheet_32 : decode cX6_sheet 32 = .ok (.ireturn, 1) := by decide +kernel
theorem dX6_sheet_33 : decode cX6_sheet 33 = .ok (.aload_n 0, 1) := by decide +kernel
theorem dX6_sheet_34 : decode cX6_sheet 34 = .ok (.iconst 0, 1) := by decide +kernel
theorem dX6_sheet_35 : decode cX6_sheet 35 = .ok (.putfield 69, 3) := by decide +kernel
theorem dX6_sheet_38 : decode cX6_sheet 38 = .ok (.iload_n 3, 1) := by decide +kernel
theorem dX6_sheet_39 : decode cX6_sheet 39 = .ok (.ifCond .ge 9, 3) := by decide +kernel
theorem dX6_sheet_42 : decode cX6_sheet 42 = .ok (.aload_n 0, 1) := by decide +kernel
theorem dX6_sheet_43 : decode cX6_sheet 43 = .ok (.iconst 4, 1) := by decide +kernel
theorem dX6_sheet_44 : decode cX6_sheet 44 = .ok (.invokevirtual 86, 3) := by decide +kernel
theorem dX6_sheet_47 : decode cX6_sheet 47 = .ok (.ireturn, 1) := by decide +kernel
theorem dX6_sheet_48 : decode cX6_sheet 48 = .ok (.aload_n 0, 1) := by decide +kernel
theorem dX6_sheet_49 : decode cX6_sheet 49 = .ok (.getfield 7, 3) := by decide +kernel
theorem dX6_sheet_52 : decode cX6_sheet 52 = .ok (.iload_n 1, 1) := by decide +kernel
theorem dX6_sheet_53 : decode cX6_sheet 53 = .ok (.iload_n 2, 1) := by decide +kernel
theorem dX6_sheet_54 : decode cX6_sheet 54 = .ok (.iastore, 1) := by decide +kernel
theorem dX6_sheet_55 : decode cX6_sheet 55 = .ok (.aload_n 0, 1) := by decide +kernel
theorem dX6_sheet_56 : decode cX6_sheet 56 = .ok (.getfield 13, 3) := by decide +kernel
theorem dX6_sheet_59 : decode cX6_sheet 59 = .ok (.iload_n 1, 1) := by decide +kernel
theorem dX6_sheet_60 : decode cX6_sheet 60 = .ok (.iload_n 3, 1) := by decide +kernel
theorem dX6_sheet_61 : decode cX6_sheet 61 = .ok (.iastore, 1) := by decide +kernel
theorem dX6_sheet_62 : decode cX6_sheet 62 = .ok (.iconst 0, 1) := by decide +kernel
theorem dX6_sheet_63 : decode cX6_sheet 63 = .ok (.istore 4, 2) := by decide +kernel
theorem dX6_sheet_65 : decode cX6_sheet 65 = .ok (.iload 4, 2) := by decide +kernel
theorem dX6_sheet_67 : decode cX6_sheet 67 = .ok (.bipush 60, 2) := by decide +kernel
theorem dX6_sheet_69 : decode cX6_sheet 69 = .ok (.if_icmp .ge 22, 3) := by decide +kernel
theorem dX6_sheet_72 : decode cX6_sheet 72 = .ok (.aload_n 0, 1) := by decide +kernel
theorem dX6_sheet_73 : decode cX6_sheet 73 = .ok (.getfield 16, 3) := by decide +kernel
theorem dX6_sheet_76 : decode cX6_sheet 76 = .ok (.bipush 60, 2) := by decide +kernel
theorem dX6_sheet_78 : decode cX6_sheet 78 = .ok (.iload_n 1, 1) := by decide +kernel
theorem dX6_sheet_79 : decode cX6_sheet 79 = .ok (.imul, 1) := by decide +kernel
theorem dX6_sheet_80 : decode cX6_sheet 80 = .ok (.iload 4, 2) := by decide +kernel
theorem dX6_sheet_82 : decode cX6_sheet 82 = .ok (.iadd, 1) := by decide +kernel
theorem dX6_sheet_83 : decode cX6_sheet 83 = .ok (.iconst 0, 1) := by decide +kernel
theorem dX6_sheet_84 : decode cX6_sheet 84 = .ok (.iastore, 1) := by decide +kernel
theorem dX6_sheet_85 : decode cX6_sheet 85 = .ok (.iinc 4 1, 3) := by decide +kernel
theorem dX6_sheet_88 : decode cX6_sheet 88 = .ok (.goto (-23), 3) := by decide +kernel
theorem dX6_sheet_91 : decode cX6_sheet 91 = .ok (.iload_n 3, 1) := by decide +kernel
theorem dX6_sheet_92 : decode cX6_sheet 92 = .ok (.ireturn, 1) := by decide +kernel
theorem dX6_set_0 : decode cX6_set 0 = .ok (.aload_n 0, 1) := by decide +kernel
theorem dX6_set_1 : decode cX6_set 1 = .ok (.iconst 0, 1) := by decide +kernel
theorem dX6_set_2 : decode cX6_set 2 = .ok (.putfield 66, 3) := by decide +kernel
theorem dX6_set_5 : decode cX6_set 5 = .ok (.iload_n 1, 1) := by decide +kernel
theorem dX6_set_6 : decode cX6_set 6 = .ok (.invokestatic 79, 3) := by decide +kernel
theorem dX6_set_9 : decode cX6_set 9 = .ok (.ifCond .ne 6, 3) := by decide +kernel
theorem dX6_set_12 : decode cX6_set 12 = .ok (.ldc 85, 2) := by decide +kernel
theorem dX6_set_14 : decode cX6_set 14 = .ok (.ireturn, 1) := by decide +kernel
theorem dX6_set_15 : decode cX6_set 15 = .ok (.aload_n 0, 1) := by decide +kernel
theorem dX6_set_16 : decode cX6_set 16 = .ok (.iconst 0, 1) := by decide +kernel
theorem dX6_set_17 : decode cX6_set 17 = .ok (.putfield 69, 3) := by decide +kernel
theorem dX6_set_20 : decode cX6_set 20 = .ok (.aload_n 0, 1) := by decide +kernel
theorem dX6_set_21 : decode cX6_set 21 = .ok (.getfield 7, 3) := by decide +kernel
theorem dX6_set_24 : decode cX6_set 24 = .ok (.iload_n 1, 1) := by decide +kernel
theorem dX6_set_25 : decode cX6_set 25 = .ok (.iaload, 1) := by decide +kernel
theorem dX6_set_26 : decode cX6_set 26 = .ok (.ifCond .ge 9, 3) := by decide +kernel
theorem dX6_set_29 : decode cX6_set 29 = .ok (.aload_n 0, 1) := by decide +kernel
theorem dX6_set_30 : decode cX6_set 30 = .ok (.iconst 1, 1) := by decide +kernel
theorem dX6_set_31 : decode cX6_set 31 = .ok (.invokevirtual 86, 3) := by decide +kernel
theorem dX6_set_34 : decode cX6_set 34 = .ok (.ireturn, 1) := by decide +kernel
theorem dX6_set_35 : decode cX6_set 35 = .ok (.iload_n 2, 1) := by decide +kernel
theorem dX6_set_36 : decode cX6_set 36 = .ok (.i2l, 1) := by decide +kernel
theorem dX6_set_37 : decode cX6_set 37 = .ok (.lconst 0, 1) := by decide +kernel
theorem dX6_set_38 : decode cX6_set 38 = .ok (.aload_n 0, 1) := by decide +kernel
theorem dX6_set_39 : decode cX6_set 39 = .ok (.getfield 13, 3) := by decide +kernel
theorem dX6_set_42 : decode cX6_set 42 = .ok (.iload_n 1, 1) := by decide +kernel
theorem dX6_set_43 : decode cX6_set 43 = .ok (.iaload, 1) := by decide +kernel
theorem dX6_set_44 : decode cX6_set 44 = .ok (.iconst 1, 1) := by decide +kernel
theorem dX6_set_45 : decode cX6_set 45 = .ok (.isub, 1) := by decide +kernel
theorem dX6_set_46 : decode cX6_set 46 = .ok (.i2l, 1) := by decide +kernel
theorem dX6_set_47 : decode cX6_set 47 = .ok (.invokestatic 75, 3) := by decide +kernel
theorem dX6_set_50 : decode cX6_set 50 = .ok (.ifCond .ne 9, 3) := by decide +kernel
theorem dX6_set_53 : decode cX6_set 53 = .ok (.aload_n 0, 1) := by decide +kernel
theorem dX6_set_54 : decode cX6_set 54 = .ok (.iconst 2, 1) := by decide +kernel
theorem dX6_set_55 : decode cX6_set 55 = .ok (.invokevirtual 86, 3) := by decide +kernel
theorem dX6_set_58 : decode cX6_set 58 = .ok (.ireturn, 1) := by decide +kernel
theorem dX6_set_59 : decode cX6_set 59 = .ok (.aload_n 0, 1) := by decide +kernel
theorem dX6_set_60 : decode cX6_set 60 = .ok (.getfield 16, 3) := by decide +kernel
theorem dX6_set_63 : decode cX6_set 63 = .ok (.bipush 60, 2) := by decide +kernel
theorem dX6_set_65 : decode cX6_set 65 = .ok (.iload_n 1, 1) := by decide +kernel
theorem dX6_set_66 : decode cX6_set 66 = .ok (.imul, 1) := by decide +kernel
theorem dX6_set_67 : decode cX6_set 67 = .ok (.iload_n 2, 1) := by decide +kernel
theorem dX6_set_68 : decode cX6_set 68 = .ok (.iadd, 1) := by decide +kernel
theorem dX6_set_69 : decode cX6_set 69 = .ok (.aload_n 0, 1) := by decide +kernel
theorem dX6_set_70 : decode cX6_set 70 = .ok (.getfield 7, 3) := by decide +kernel
theorem dX6_set_73 : decode cX6_set 73 = .ok (.iload_n 1, 1) := by decide +kernel
theorem dX6_set_74 : decode cX6_set 74 = .ok (.iaload, 1) := by decide +kernel
theorem dX6_set_75 : decode cX6_set 75 = .ok (.ifCond .ne 8, 3) := by decide +kernel
theorem dX6_set_78 : decode cX6_set 78 = .ok (.iload_n 3, 1) := by decide +kernel
theorem dX6_set_79 : decode cX6_set 79 = .ok (.i2b, 1) := by decide +kernel
theorem dX6_set_80 : decode cX6_set 80 = .ok (.goto 19, 3) := by decide +kernel
theorem dX6_set_83 : decode cX6_set 83 = .ok (.aload_n 0, 1) := by decide +kernel
theorem dX6_set_84 : decode cX6_set 84 = .ok (.getfield 7, 3) := by decide +kernel
theorem dX6_set_87 : decode cX6_set 87 = .ok (.iload_n 1, 1) := by decide +kernel
theorem dX6_set_88 : decode cX6_set 88 = .ok (.iaload, 1) := by decide +kernel
theorem dX6_set_89 : decode cX6_set 89 = .ok (.iconst 1, 1) := by decide +kernel
theorem dX6_set_90 : decode cX6_set 90 = .ok (.if_icmp .ne 8, 3) := by decide +kernel
theorem dX6_set_93 : decode cX6_set 93 = .ok (.iload_n 3, 1) := by decide +kernel
theorem dX6_set_94 : decode cX6_set 94 = .ok (.i2s, 1) := by decide +kernel
theorem dX6_set_95 : decode cX6_set 95 = .ok (.goto 4, 3) := by decide +kernel
theorem dX6_set_98 : decode cX6_set 98 = .ok (.iload_n 3, 1) := by decide +kernel
theorem dX6_set_99 : decode cX6_set 99 = .ok (.iastore, 1) := by decide +kernel
theorem dX6_set_100 : decode cX6_set 100 = .ok (.aload_n 0, 1) := by decide +kernel
theorem dX6_set_101 : decode cX6_set 101 = .ok (.getfield 16, 3) := by decide +kernel
theorem dX6_set_104 : decode cX6_set 104 = .ok (.bipush 60, 2) := by decide +kernel
theorem dX6_set_106 : decode cX6_set 106 = .ok (.iload_n 1, 1) := by decide +kernel
theorem dX6_set_107 : decode cX6_set 107 = .ok (.imul, 1) := by decide +kernel
theorem dX6_set_108 : decode cX6_set 108 = .ok (.iload_n 2, 1) := by decide +kernel
theorem dX6_set_109 : decode cX6_set 109 = .ok (.iadd, 1) := by decide +kernel
theorem dX6_set_110 : decode cX6_set 110 = .ok (.iaload, 1) := by decide +kernel
theorem dX6_set_111 : decode cX6_set 111 = .ok (.ireturn, 1) := by decide +kernel
theorem dX6_copy_0 : decode cX6_copy 0 = .ok (.aload_n 0, 1) := by decide +kernel
theorem dX6_copy_1 : decode cX6_copy 1 = .ok (.iconst 0, 1) := by decide +kernel
theorem dX6_copy_2 : decode cX6_copy 2 = .ok (.putfield 66, 3) := by decide +kernel
theorem dX6_copy_5 : decode cX6_copy 5 = .ok (.iload_n 1, 1) := by decide +kernel
theorem dX6_copy_6 : decode cX6_copy 6 = .ok (.invokestatic 79, 3) := by decide +kernel
theorem dX6_copy_9 : decode cX6_copy 9 = .ok (.ifCond .eq 10, 3) := by decide +kernel
theorem dX6_copy_12 : decode cX6_copy 12 = .ok (.iload_n 3, 1) := by decide +kernel
theorem dX6_copy_13 : decode cX6_copy 13 = .ok (.invokestatic 79, 3) := by decide +kernel
theorem dX6_copy_16 : decode cX6_copy 16 = .ok (.ifCond .ne 6, 3) := by decide +kernel
theorem dX6_copy_19 : decode cX6_copy 19 = .ok (.ldc 85, 2) := by decide +kernel
theorem dX6_copy_21 : decode cX6_copy 21 = .ok (.ireturn, 1) := by decide +kernel
theorem dX6_copy_22 : decode cX6_copy 22 = .ok (.aload_n 0, 1) := by decide +kernel
theorem dX6_copy_23 : decode cX6_copy 23 = .ok (.iconst 0, 1) := by decide +kernel
theorem dX6_copy_24 : decode cX6_copy 24 = .ok (.putfield 69, 3) := by decide +kernel
theorem dX6_copy_27 : decode cX6_copy 27 = .ok (.aload_n 0, 1) := by decide +kernel
theorem dX6_copy_28 : decode cX6_copy 28 = .ok (.getfield 7, 3) := by decide +kernel
theorem dX6_copy_31 : decode cX6_copy 31 = .ok (.iload_n 1, 1) := by decide +kernel
theorem dX6_copy_32 : decode cX6_copy 32 = .ok (.iaload, 1) := by decide +kernel
theorem dX6_copy_33 : decode cX6_copy 33 = .ok (.ifCond .lt 12, 3) := by decide +kernel
theorem dX6_copy_36 : decode cX6_copy 36 = .ok (.aload_n 0, 1) := by decide +kernel
theorem dX6_copy_37 : decode cX6_copy 37 = .ok (.getfield 7, 3) := by decide +kernel
theorem dX6_copy_40 : decode cX6_copy 40 = .ok (.iload_n 3, 1) := by decide +kernel
theorem dX6_copy_41 : decode cX6_copy 41 = .ok (.iaload, 1) := by decide +kernel
theorem dX6_copy_42 : decode cX6_copy 42 = .ok (.ifCond .ge 9, 3) := by decide +kernel
theorem dX6_copy_45 : decode cX6_copy 45 = .ok (.aload_n 0, 1) := by decide +kernel
theorem dX6_copy_46 : decode cX6_copy 46 = .ok (.iconst 1, 1) := by decide +kernel
theorem dX6_copy_47 : decode cX6_copy 47 = .ok (.invokevirtual 86, 3) := by decide +kernel
theorem dX6_copy_50 : decode cX6_copy 50 = .ok (.ireturn, 1) := by decide +kernel
theorem dX6_copy_51 : decode cX6_copy 51 = .ok (.aload_n 0, 1) := by decide +kernel
theorem dX6_copy_52 : decode cX6_copy 52 = .ok (.getfield 7, 3) := by decide +kernel
theorem dX6_copy_55 : decode cX6_copy 55 = .ok (.iload_n 1, 1) := by decide +kernel
theorem dX6_copy_56 : decode cX6_copy 56 = .ok (.iaload, 1) := by decide +kernel
theorem dX6_copy_57 : decode cX6_copy 57 = .ok (.aload_n 0, 1) := by decide +kernel
theorem dX6_copy_58 : decode cX6_copy 58 = .ok (.getfield 7, 3) := by decide +kernel
theorem dX6_copy_61 : decode cX6_copy 61 = .ok (.iload_n 3, 1) := by decide +kernel
theorem dX6_copy_62 : decode cX6_copy 62 = .ok (.iaload, 1) := by decide +kernel
theorem dX6_copy_63 : decode cX6_copy 63 = .ok (.if_icmp .eq 9, 3) := by decide +kernel
theorem dX6_copy_66 : decode cX6_copy 66 = .ok (.aload_n 0, 1) := by decide +kernel
theorem dX6_copy_67 : decode cX6_copy 67 = .ok (.iconst 5, 1) := by decide +kernel
theorem dX6_copy_68 : decode cX6_copy 68 = .ok (.invokevirtual 86, 3) := by decide +kernel
theorem dX6_copy_71 : decode cX6_copy 71 = .ok (.ireturn, 1) := by decide +kernel
theorem dX6_copy_72 : decode cX6_copy 72 = .ok (.iload_n 2, 1) := by decide +kernel
theorem dX6_copy_73 : decode cX6_copy 73 = .ok (.ifCond .lt 48, 3) := by decide +kernel
theorem dX6_copy_76 : decode cX6_copy 76 = .ok (.iload 4, 2) := by decide +kernel
theorem dX6_copy_78 : decode cX6_copy 78 = .ok (.ifCond .lt 43, 3) := by decide +kernel
theorem dX6_copy_81 : decode cX6_copy 81 = .ok (.iload 5, 2) := by decide +kernel
theorem dX6_copy_83 : decode cX6_copy 83 = .ok (.ifCond .lt 38, 3) := by decide +kernel
theorem dX6_copy_86 : decode cX6_copy 86 = .ok (.iload_n 2, 1) := by decide +kernel
theorem dX6_copy_87 : decode cX6_copy 87 = .ok (.i2l, 1) := by decide +kernel
theorem dX6_copy_88 : decode cX6_copy 88 = .ok (.iload 5, 2) := by decide +kernel
theorem dX6_copy_90 : decode cX6_copy 90 = .ok (.i2l, 1) := by decide +kernel
theorem dX6_copy_91 : decode cX6_copy 91 = .ok (.ladd, 1) := by decide +kernel
theorem dX6_copy_92 : decode cX6_copy 92 = .ok (.aload_n 0, 1) := by decide +kernel
theorem dX6_copy_93 : decode cX6_copy 93 = .ok (.getfield 13, 3) := by decide +kernel
theorem dX6_copy_96 : decode cX6_copy 96 = .ok (.iload_n 1, 1) := by decide +kernel
theorem dX6_copy_97 : decode cX6_copy 97 = .ok (.iaload, 1) := by decide +kernel
theorem dX6_copy_98 : decode cX6_copy 98 = .ok (.i2l, 1) := by decide +kernel
theorem dX6_copy_99 : decode cX6_copy 99 = .ok (.lcmp, 1) := by decide +kernel
theorem dX6_copy_100 : decode cX6_copy 100 = .ok (.ifCond .gt 21, 3) := by decide +kernel
theorem dX6_copy_103 : decode cX6_copy 103 = .ok (.iload 4, 2) := by decide +kernel
theorem dX6_copy_105 : decode cX6_copy 105 = .ok (.i2l, 1) := by decide +kernel
theorem dX6_copy_106 : decode cX6_copy 106 = .ok (.iload 5, 2) := by decide +kernel
theorem dX6_copy_108 : decode cX6_copy 108 = .ok (.i2l, 1) := by decide +kernel
theorem dX6_copy_109 : decode cX6_copy 109 = .ok (.ladd, 1) := by decide +kernel
theorem dX6_copy_110 : decode cX6_copy 110 = .ok (.aload_n 0, 1) := by decide +kernel
theorem dX6_copy_111 : decode cX6_copy 111 = .ok (.getfield 13, 3) := by decide +kernel
theorem dX6_copy_114 : decode cX6_copy 114 = .ok (.iload_n 3, 1) := by decide +kernel
theorem dX6_copy_115 : decode cX6_copy 115 = .ok (.iaload, 1) := by decide +kernel
theorem dX6_copy_116 : decode cX6_copy 116 = .ok (.i2l, 1) := by decide +kernel
theorem dX6_copy_117 : decode cX6_copy 117 = .ok (.lcmp, 1) := by decide +kernel
theorem dX6_copy_118 : decode cX6_copy 118 = .ok (.ifCond .le 9, 3) := by decide +kernel
theorem dX6_copy_121 : decode cX6_copy 121 = .ok (.aload_n 0, 1) := by decide +kernel
theorem dX6_copy_122 : decode cX6_copy 122 = .ok (.iconst 2, 1) := by decide +kernel
theorem dX6_copy_123 : decode cX6_copy 123 = .ok (.invokevirtual 86, 3) := by decide +kernel
theorem dX6_copy_126 : decode cX6_copy 126 = .ok (.ireturn, 1) := by decide +kernel
theorem dX6_copy_127 : decode cX6_copy 127 = .ok (.iload_n 2, 1) := by decide +kernel
theorem dX6_copy_128 : decode cX6_copy 128 = .ok (.iload 4, 2) := by decide +kernel
theorem dX6_copy_130 : decode cX6_copy 130 = .ok (.if_icmp .lt 7, 3) := by decide +kernel
theorem dX6_copy_133 : decode cX6_copy 133 = .ok (.iconst 1, 1) := by decide +kernel
theorem dX6_copy_134 : decode cX6_copy 134 = .ok (.goto 4, 3) := by decide +kernel
theorem dX6_copy_137 : decode cX6_copy 137 = .ok (.iconst 0, 1) := by decide +kernel
theorem dX6_copy_138 : decode cX6_copy 138 = .ok (.istore 6, 2) := by decide +kernel
theorem dX6_copy_140 : decode cX6_copy 140 = .ok (.iconst 0, 1) := by decide +kernel
theorem dX6_copy_141 : decode cX6_copy 141 = .ok (.istore 7, 2) := by decide +kernel
theorem dX6_copy_143 : decode cX6_copy 143 = .ok (.iload 7, 2) := by decide +kernel
theorem dX6_copy_145 : decode cX6_copy 145 = .ok (.iload 5, 2) := by decide +kernel
theorem dX6_copy_147 : decode cX6_copy 147 = .ok (.if_icmp .ge 57, 3) := by decide +kernel
theorem dX6_copy_150 : decode cX6_copy 150 = .ok (.iload 6, 2) := by decide +kernel
theorem dX6_copy_152 : decode cX6_copy 152 = .ok (.ifCond .eq 8, 3) := by decide +kernel
theorem dX6_copy_155 : decode cX6_copy 155 = .ok (.iload 7, 2) := by decide +kernel
theorem dX6_copy_157 : decode cX6_copy 157 = .ok (.goto 10, 3) := by decide +kernel
theorem dX6_copy_160 : decode cX6_copy 160 = .ok (.iload 5, 2) := by decide +kernel
theorem dX6_copy_162 : decode cX6_copy 162 = .ok (.iconst 1, 1) := by decide +kernel
theorem dX6_copy_163 : decode cX6_copy 163 = .ok (.isub, 1) := by decide +kernel
theorem dX6_copy_164 : decode cX6_copy 164 = .ok (.iload 7, 2) := by decide +kernel
theorem dX6_copy_166 : decode cX6_copy 166 = .ok (.isub, 1) := by decide +kernel
theorem dX6_copy_167 : decode cX6_copy 167 = .ok (.istore 8, 2) := by decide +kernel
theorem dX6_copy_169 : decode cX6_copy 169 = .ok (.aload_n 0, 1) := by decide +kernel
theorem dX6_copy_170 : decode cX6_copy 170 = .ok (.getfield 16, 3) := by decide +kernel
theorem dX6_copy_173 : decode cX6_copy 173 = .ok (.bipush 60, 2) := by decide +kernel
theorem dX6_copy_175 : decode cX6_copy 175 = .ok (.iload_n 3, 1) := by decide +kernel
theorem dX6_copy_176 : decode cX6_copy 176 = .ok (.imul, 1) := by decide +kernel
theorem dX6_copy_177 : decode cX6_copy 177 = .ok (.iload 4, 2) := by decide +kernel
theorem dX6_copy_179 : decode cX6_copy 179 = .ok (.iadd, 1) := by decide +kernel
theorem dX6_copy_180 : decode cX6_copy 180 = .ok (.iload 8, 2) := by decide +kernel
theorem dX6_copy_182 : decode cX6_copy 182 = .ok (.iadd, 1) := by decide +kernel
theorem dX6_copy_183 : decode cX6_copy 183 = .ok (.aload_n 0, 1) := by decide +kernel
theorem dX6_copy_184 : decode cX6_copy 184 = .ok (.getfield 16, 3) := by decide +kernel
theorem dX6_copy_187 : decode cX6_copy 187 = .ok (.bipush 60, 2) := by decide +kernel
theorem dX6_copy_189 : decode cX6_copy 189 = .ok (.iload_n 1, 1) := by decide +kernel
theorem dX6_copy_190 : decode cX6_copy 190 = .ok (.imul, 1) := by decide +kernel
theorem dX6_copy_191 : decode cX6_copy 191 = .ok (.iload_n 2, 1) := by decide +kernel
theorem dX6_copy_192 : decode cX6_copy 192 = .ok (.iadd, 1) := by decide +kernel
theorem dX6_copy_193 : decode cX6_copy 193 = .ok (.iload 8, 2) := by decide +kernel
theorem dX6_copy_195 : decode cX6_copy 195 = .ok (.iadd, 1) := by decide +kernel
theorem dX6_copy_196 : decode cX6_copy 196 = .ok (.iaload, 1) := by decide +kernel
theorem dX6_copy_197 : decode cX6_copy 197 = .ok (.iastore, 1) := by decide +kernel
theorem dX6_copy_198 : decode cX6_copy 198 = .ok (.iinc 7 1, 3) := by decide +kernel
theorem dX6_copy_201 : decode cX6_copy 201 = .ok (.goto (-58), 3) := by decide +kernel
theorem dX6_copy_204 : decode cX6_copy 204 = .ok (.iload 5, 2) := by decide +kernel
theorem dX6_copy_206 : decode cX6_copy 206 = .ok (.ireturn, 1) := by decide +kernel
theorem dX6_drop_0 : decode cX6_drop 0 = .ok (.aload_n 0, 1) := by decide +kernel
theorem dX6_drop_1 : decode cX6_drop 1 = .ok (.iconst 0, 1) := by decide +kernel
theorem dX6_drop_2 : decode cX6_drop 2 = .ok (.putfield 66, 3) := by decide +kernel
theorem dX6_drop_5 : decode cX6_drop 5 = .ok (.iload_n 1, 1) := by decide +kernel
theorem dX6_drop_6 : decode cX6_drop 6 = .ok (.invokestatic 79, 3) := by decide +kernel
theorem dX6_drop_9 : decode cX6_drop 9 = .ok (.ifCond .ne 6, 3) := by decide +kernel
theorem dX6_drop_12 : decode cX6_drop 12 = .ok (.ldc 85, 2) := by decide +kernel
theorem dX6_drop_14 : decode cX6_drop 14 = .ok (.ireturn, 1) := by decide +kernel
theorem dX6_drop_15 : decode cX6_drop 15 = .ok (.aload_n 0, 1) := by decide +kernel
theorem dX6_drop_16 : decode cX6_drop 16 = .ok (.iconst 0, 1) := by decide +kernel
theorem dX6_drop_17 : decode cX6_drop 17 = .ok (.putfield 69, 3) := by decide +kernel
theorem dX6_drop_20 : decode cX6_drop 20 = .ok (.aload_n 0, 1) := by decide +kernel
theorem dX6_drop_21 : decode cX6_drop 21 = .ok (.getfield 7, 3) := by decide +kernel
theorem dX6_drop_24 : decode cX6_drop 24 = .ok (.iload_n 1, 1) := by decide +kernel
theorem dX6_drop_25 : decode cX6_drop 25 = .ok (.iaload, 1) := by decide +kernel
theorem dX6_drop_26 : decode cX6_drop 26 = .ok (.ifCond .ge 9, 3) := by decide +kernel
theorem dX6_drop_29 : decode cX6_drop 29 = .ok (.aload_n 0, 1) := by decide +kernel
theorem dX6_drop_30 : decode cX6_drop 30 = .ok (.iconst 1, 1) := by decide +kernel
theorem dX6_drop_31 : decode cX6_drop 31 = .ok (.invokevirtual 86, 3) := by decide +kernel
theorem dX6_drop_34 : decode cX6_drop 34 = .ok (.ireturn, 1) := by decide +kernel
theorem dX6_drop_35 : decode cX6_drop 35 = .ok (.aload_n 0, 1) := by decide +kernel
theorem dX6_drop_36 : decode cX6_drop 36 = .ok (.getfield 7, 3) := by decide +kernel
theorem dX6_drop_39 : decode cX6_drop 39 = .ok (.iload_n 1, 1) := by decide +kernel
theorem dX6_drop_40 : decode cX6_drop 40 = .ok (.iconst (-1), 1) := by decide +kernel
theorem dX6_drop_41 : decode cX6_drop 41 = .ok (.iastore, 1) := by decide +kernel
theorem dX6_drop_42 : decode cX6_drop 42 = .ok (.aload_n 0, 1) := by decide +kernel
theorem dX6_drop_43 : decode cX6_drop 43 = .ok (.getfield 13, 3) := by decide +kernel
theorem dX6_drop_46 : decode cX6_drop 46 = .ok (.iload_n 1, 1) := by decide +kernel
theorem dX6_drop_47 : decode cX6_drop 47 = .ok (.iaload, 1) := by decide +kernel
theorem dX6_drop_48 : decode cX6_drop 48 = .ok (.ireturn, 1) := by decide +kernel
theorem dX6_isSet_0 : decode cX6_isSet 0 = .ok (.iload_n 1, 1) := by decide +kernel
theorem dX6_isSet_1 : decode cX6_isSet 1 = .ok (.i2l, 1) := by decide +kernel
theorem dX6_isSet_2 : decode cX6_isSet 2 = .ok (.lconst 0, 1) := by decide +kernel
theorem dX6_isSet_3 : decode cX6_isSet 3 = .ok (.aload_n 0, 1) := by decide +kernel
theorem dX6_isSet_4 : decode cX6_isSet 4 = .ok (.getfield 90, 3) := by decide +kernel
theorem dX6_isSet_7 : decode cX6_isSet 7 = .ok (.iconst 1, 1) := by decide +kernel
theorem dX6_isSet_8 : decode cX6_isSet 8 = .ok (.isub, 1) := by decide +kernel
theorem dX6_isSet_9 : decode cX6_isSet 9 = .ok (.i2l, 1) := by decide +kernel
theorem dX6_isSet_10 : decode cX6_isSet 10 = .ok (.invokestatic 75, 3) := by decide +kernel
theorem dX6_isSet_13 : decode cX6_isSet 13 = .ok (.ireturn, 1) := by decide +kernel
theorem dX6_isOwn_0 : decode cX6_isOwn 0 = .ok (.aload_n 0, 1) := by decide +kernel
theorem dX6_isOwn_1 : decode cX6_isOwn 1 = .ok (.getfield 93, 3) := by decide +kernel
theorem dX6_isOwn_4 : decode cX6_isOwn 4 = .ok (.iload_n 1, 1) := by decide +kernel
theorem dX6_isOwn_5 : decode cX6_isOwn 5 = .ok (.ishr, 1) := by decide +kernel
theorem dX6_isOwn_6 : decode cX6_isOwn 6 = .ok (.iconst 1, 1) := by decide +kernel
theorem dX6_isOwn_7 : decode cX6_isOwn 7 = .ok (.iand, 1) := by decide +kernel
theorem dX6_isOwn_8 : decode cX6_isOwn 8 = .ok (.iconst 1, 1) := by decide +kernel
theorem dX6_isOwn_9 : decode cX6_isOwn 9 = .ok (.if_icmp .ne 7, 3) := by decide +kernel
theorem dX6_isOwn_12 : decode cX6_isOwn 12 = .ok (.iconst 1, 1) := by decide +kernel
theorem dX6_isOwn_13 : decode cX6_isOwn 13 = .ok (.goto 4, 3) := by decide +kernel
theorem dX6_isOwn_16 : decode cX6_isOwn 16 = .ok (.iconst 0, 1) := by decide +kernel
theorem dX6_isOwn_17 : decode cX6_isOwn 17 = .ok (.ireturn, 1) := by decide +kernel
theorem dX6_filled_0 : decode cX6_filled 0 = .ok (.iconst 0, 1) := by decide +kernel
theorem dX6_filled_1 : decode cX6_filled 1 = .ok (.istore_n 2, 1) := by decide +kernel
theorem dX6_filled_2 : decode cX6_filled 2 = .ok (.iconst 0, 1) := by decide +kernel
theorem dX6_filled_3 : decode cX6_filled 3 = .ok (.istore_n 3, 1) := by decide +kernel
theorem dX6_filled_4 : decode cX6_filled 4 = .ok (.iload_n 3, 1) := by decide +kernel
theorem dX6_filled_5 : decode cX6_filled 5 = .ok (.bipush 12, 2) := by decide +kernel
theorem dX6_filled_7 : decode cX6_filled 7 = .ok (.if_icmp .ge 36, 3) := by decide +kernel
theorem dX6_filled_10 : decode cX6_filled 10 = .ok (.iload_n 2, 1) := by decide +kernel
theorem dX6_filled_11 : decode cX6_filled 11 = .ok (.aload_n 0, 1) := by decide +kernel
theorem dX6_filled_12 : decode cX6_filled 12 = .ok (.getfield 22, 3) := by decide +kernel
theorem dX6_filled_15 : decode cX6_filled 15 = .ok (.iload_n 1, 1) := by decide +kernel
theorem dX6_filled_16 : decode cX6_filled 16 = .ok (.iaload, 1) := by decide +kernel
theorem dX6_filled_17 : decode cX6_filled 17 = .ok (.iload_n 3, 1) := by decide +kernel
theorem dX6_filled_18 : decode cX6_filled 18 = .ok (.ishr, 1) := by decide +kernel
theorem dX6_filled_19 : decode cX6_filled 19 = .ok (.iconst 1, 1) := by decide +kernel
theorem dX6_filled_20 : decode cX6_filled 20 = .ok (.iand, 1) := by decide +kernel
theorem dX6_filled_21 : decode cX6_filled 21 = .ok (.iconst 1, 1) := by decide +kernel
theorem dX6_filled_22 : decode cX6_filled 22 = .ok (.if_icmp .ne 12, 3) := by decide +kernel
theorem dX6_filled_25 : decode cX6_filled 25 = .ok (.aload_n 0, 1) := by decide +kernel
theorem dX6_filled_26 : decode cX6_filled 26 = .ok (.getfield 25, 3) := by decide +kernel
theorem dX6_filled_29 : decode cX6_filled 29 = .ok (.iload_n 3, 1) := by decide +kernel
theorem dX6_filled_30 : decode cX6_filled 30 = .ok (.iaload, 1) := by decide +kernel
theorem dX6_filled_31 : decode cX6_filled 31 = .ok (.goto 4, 3) := by decide +kernel
theorem dX6_filled_34 : decode cX6_filled 34 = .ok (.iconst 0, 1) := by decide +kernel
theorem dX6_filled_35 : decode cX6_filled 35 = .ok (.iadd, 1) := by decide +kernel
theorem dX6_filled_36 : decode cX6_filled 36 = .ok (.istore_n 2, 1) := by decide +kernel
theorem dX6_filled_37 : decode cX6_filled 37 = .ok (.iinc 3 1, 3) := by decide +kernel
theorem dX6_filled_40 : decode cX6_filled 40 = .ok (.goto (-36), 3) := by decide +kernel
theorem dX6_filled_43 : decode cX6_filled 43 = .ok (.iload_n 2, 1) := by decide +kernel
theorem dX6_filled_44 : decode cX6_filled 44 = .ok (.ireturn, 1) := by decide +kernel
theorem dX6_offer_0 : decode cX6_offer 0 = .ok (.aload_n 0, 1) := by decide +kernel
theorem dX6_offer_1 : decode cX6_offer 1 = .ok (.iconst 0, 1) := by decide +kernel
theorem dX6_offer_2 : decode cX6_offer 2 = .ok (.putfield 66, 3) := by decide +kernel
theorem dX6_offer_5 : decode cX6_offer 5 = .ok (.iload_n 1, 1) := by decide +kernel
theorem dX6_offer_6 : decode cX6_offer 6 = .ok (.i2l, 1) := by decide +kernel
theorem dX6_offer_7 : decode cX6_offer 7 = .ok (.lconst 1, 1) := by decide +kernel
theorem dX6_offer_8 : decode cX6_offer 8 = .ok (.ldc2_w 96, 3) := by decide +kernel
theorem dX6_offer_11 : decode cX6_offer 11 = .ok (.invokestatic 75, 3) := by decide +kernel
theorem dX6_offer_14 : decode cX6_offer 14 = .ok (.ifCond .eq 15, 3) := by decide +kernel
theorem dX6_offer_17 : decode cX6_offer 17 = .ok (.iload_n 2, 1) := by decide +kernel
theorem dX6_offer_18 : decode cX6_offer 18 = .ok (.i2l, 1) := by decide +kernel
theorem dX6_offer_19 : decode cX6_offer 19 = .ok (.lconst 1, 1) := by decide +kernel
theorem dX6_offer_20 : decode cX6_offer 20 = .ok (.ldc2_w 98, 3) := by decide +kernel
theorem dX6_offer_23 : decode cX6_offer 23 = .ok (.invokestatic 75, 3) := by decide +kernel
theorem dX6_offer_26 : decode cX6_offer 26 = .ok (.ifCond .ne 6, 3) := by decide +kernel
theorem dX6_offer_29 : decode cX6_offer 29 = .ok (.ldc 85, 2) := by decide +kernel
theorem dX6_offer_31 : decode cX6_offer 31 = .ok (.ireturn, 1) := by decide +kernel
theorem dX6_offer_32 : decode cX6_offer 32 = .ok (.aload_n 0, 1) := by decide +kernel
theorem dX6_offer_33 : decode cX6_offer 33 = .ok (.getfield 100, 3) := by decide +kernel
theorem dX6_offer_36 : decode cX6_offer 36 = .ok (.ifCond .eq 6, 3) := by decide +kernel
theorem dX6_offer_39 : decode cX6_offer 39 = .ok (.ldc 103, 2) := by decide +kernel
theorem dX6_offer_41 : decode cX6_offer 41 = .ok (.ireturn, 1) := by decide +kernel
theorem dX6_offer_42 : decode cX6_offer 42 = .ok (.aload_n 0, 1) := by decide +kernel
theorem dX6_offer_43 : decode cX6_offer 43 = .ok (.getfield 90, 3) := by decide +kernel
theorem dX6_offer_46 : decode cX6_offer 46 = .ok (.bipush 10, 2) := by decide +kernel
theorem dX6_offer_48 : decode cX6_offer 48 = .ok (.if_icmp .ne 6, 3) := by decide +kernel
theorem dX6_offer_51 : decode cX6_offer 51 = .ok (.ldc 104, 2) := by decide +kernel
theorem dX6_offer_53 : decode cX6_offer 53 = .ok (.ireturn, 1) := by decide +kernel
theorem dX6_offer_54 : decode cX6_offer 54 = .ok (.aload_n 0, 1) := by decide +kernel
theorem dX6_offer_55 : decode cX6_offer 55 = .ok (.getfield 19, 3) := by decide +kernel
theorem dX6_offer_58 : decode cX6_offer 58 = .ok (.aload_n 0, 1) := by decide +kernel
theorem dX6_offer_59 : decode cX6_offer 59 = .ok (.getfield 90, 3) := by decide +kernel
theorem dX6_offer_62 : decode cX6_offer 62 = .ok (.iload_n 1, 1) := by decide +kernel
theorem dX6_offer_63 : decode cX6_offer 63 = .ok (.iastore, 1) := by decide +kernel
theorem dX6_offer_64 : decode cX6_offer 64 = .ok (.aload_n 0, 1) := by decide +kernel
theorem dX6_offer_65 : decode cX6_offer 65 = .ok (.getfield 22, 3) := by decide +kernel
theorem dX6_offer_68 : decode cX6_offer 68 = .ok (.aload_n 0, 1) := by decide +kernel
theorem dX6_offer_69 : decode cX6_offer 69 = .ok (.getfield 90, 3) := by decide +kernel
theorem dX6_offer_72 : decode cX6_offer 72 = .ok (.iload_n 2, 1) := by decide +kernel
theorem dX6_offer_73 : decode cX6_offer 73 = .ok (.iastore, 1) := by decide +kernel
theorem dX6_offer_74 : decode cX6_offer 74 = .ok (.aload_n 0, 1) := by decide +kernel
theorem dX6_offer_75 : decode cX6_offer 75 = .ok (.dup, 1) := by decide +kernel
theorem dX6_offer_76 : decode cX6_offer 76 = .ok (.getfield 90, 3) := by decide +kernel
theorem dX6_offer_79 : decode cX6_offer 79 = .ok (.iconst 1, 1) := by decide +kernel
theorem dX6_offer_80 : decode cX6_offer 80 = .ok (.iadd, 1) := by decide +kernel
theorem dX6_offer_81 : decode cX6_offer 81 = .ok (.putfield 90, 3) := by decide +kernel
theorem dX6_offer_84 : decode cX6_offer 84 = .ok (.aload_n 0, 1) := by decide +kernel
theorem dX6_offer_85 : decode cX6_offer 85 = .ok (.getfield 90, 3) := by decide +kernel
theorem dX6_offer_88 : decode cX6_offer 88 = .ok (.iconst 1, 1) := by decide +kernel
theorem dX6_offer_89 : decode cX6_offer 89 = .ok (.isub, 1) := by decide +kernel
theorem dX6_offer_90 : decode cX6_offer 90 = .ok (.ireturn, 1) := by decide +kernel
theorem dX6_has_0 : decode cX6_has 0 = .ok (.aload_n 0, 1) := by decide +kernel
theorem dX6_has_1 : decode cX6_has 1 = .ok (.getfield 22, 3) := by decide +kernel
theorem dX6_has_4 : decode cX6_has 4 = .ok (.iload_n 1, 1) := by decide +kernel
theorem dX6_has_5 : decode cX6_has 5 = .ok (.iaload, 1) := by decide +kernel
theorem dX6_has_6 : decode cX6_has 6 = .ok (.iload_n 2, 1) := by decide +kernel
theorem dX6_has_7 : decode cX6_has 7 = .ok (.ishr, 1) := by decide +kernel
theorem dX6_has_8 : decode cX6_has 8 = .ok (.iconst 1, 1) := by decide +kernel
theorem dX6_has_9 : decode cX6_has 9 = .ok (.iand, 1) := by decide +kernel
theorem dX6_has_10 : decode cX6_has 10 = .ok (.iconst 1, 1) := by decide +kernel
theorem dX6_has_11 : decode cX6_has 11 = .ok (.if_icmp .ne 7, 3) := by decide +kernel
theorem dX6_has_14 : decode cX6_has 14 = .ok (.iconst 1, 1) := by decide +kernel
theorem dX6_has_15 : decode cX6_has 15 = .ok (.goto 4, 3) := by decide +kernel
theorem dX6_has_18 : decode cX6_has 18 = .ok (.iconst 0, 1) := by decide +kernel
theorem dX6_has_19 : decode cX6_has 19 = .ok (.ireturn, 1) := by decide +kernel
theorem dX6_demanding_0 : decode cX6_demanding 0 = .ok (.iload_n 1, 1) := by decide +kernel
theorem dX6_demanding_1 : decode cX6_demanding 1 = .ok (.i2l, 1) := by decide +kernel
theorem dX6_demanding_2 : decode cX6_demanding 2 = .ok (.lconst 0, 1) := by decide +kernel
theorem dX6_demanding_3 : decode cX6_demanding 3 = .ok (.ldc2_w 105, 3) := by decide +kernel
theorem dX6_demanding_6 : decode cX6_demanding 6 = .ok (.invokestatic 75, 3) := by decide +kernel
theorem dX6_demanding_9 : decode cX6_demanding 9 = .ok (.ifCond .ne 6, 3) := by decide +kernel
theorem dX6_demanding_12 : decode cX6_demanding 12 = .ok (.ldc 85, 2) := by decide +kernel
theorem dX6_demanding_14 : decode cX6_demanding 14 = .ok (.ireturn, 1) := by decide +kernel
theorem dX6_demanding_15 : decode cX6_demanding 15 = .ok (.iconst 0, 1) := by decide +kernel
theorem dX6_demanding_16 : decode cX6_demanding 16 = .ok (.istore_n 2, 1) := by decide +kernel
theorem dX6_demanding_17 : decode cX6_demanding 17 = .ok (.iconst 0, 1) := by decide +kernel
theorem dX6_demanding_18 : decode cX6_demanding 18 = .ok (.istore_n 3, 1) := by decide +kernel
theorem dX6_demanding_19 : decode cX6_demanding 19 = .ok (.ldc 107, 2) := by decide +kernel
theorem dX6_demanding_21 : decode cX6_demanding 21 = .ok (.istore 4, 2) := by decide +kernel
theorem dX6_demanding_23 : decode cX6_demanding 23 = .ok (.iconst 0, 1) := by decide +kernel
theorem dX6_demanding_24 : decode cX6_demanding 24 = .ok (.istore 5, 2) := by decide +kernel
theorem dX6_demanding_26 : decode cX6_demanding 26 = .ok (.iload 5, 2) := by decide +kernel
theorem dX6_demanding_28 : decode cX6_demanding 28 = .ok (.aload_n 0, 1) := by decide +kernel
theorem dX6_demanding_29 : decode cX6_demanding 29 = .ok (.getfield 90, 3) := by decide +kernel
theorem dX6_demanding_32 : decode cX6_demanding 32 = .ok (.if_icmp .ge 80, 3) := by decide +kernel
theorem dX6_demanding_35 : decode cX6_demanding 35 = .ok (.aload_n 0, 1) := by decide +kernel
theorem dX6_demanding_36 : decode cX6_demanding 36 = .ok (.iload 5, 2) := by decide +kernel
theorem dX6_demanding_38 : decode cX6_demanding 38 = .ok (.iload_n 1, 1) := by decide +kernel
theorem dX6_demanding_39 : decode cX6_demanding 39 = .ok (.invokevirtual 108, 3) := by decide +kernel
theorem dX6_demanding_42 : decode cX6_demanding 42 = .ok (.ifCond .eq 64, 3) := by decide +kernel
theorem dX6_demanding_45 : decode cX6_demanding 45 = .ok (.iconst 1, 1) := by decide +kernel
theorem dX6_demanding_46 : decode cX6_demanding 46 = .ok (.istore_n 2, 1) := by decide +kernel
theorem dX6_demanding_47 : decode cX6_demanding 47 = .ok (.iload_n 3, 1) := by decide +kernel
theorem dX6_demanding_48 : decode cX6_demanding 48 = .ok (.ifCond .ne 12, 3) := by decide +kernel
theorem dX6_demanding_51 : decode cX6_demanding 51 = .ok (.aload_n 0, 1) := by decide +kernel
theorem dX6_demanding_52 : decode cX6_demanding 52 = .ok (.iload 5, 2) := by decide +kernel
theorem dX6_demanding_54 : decode cX6_demanding 54 = .ok (.invokevirtual 112, 3) := by decide +kernel
theorem dX6_demanding_57 : decode cX6_demanding 57 = .ok (.ifCond .eq 7, 3) := by decide +kernel
theorem dX6_demanding_60 : decode cX6_demanding 60 = .ok (.iconst 1, 1) := by decide +kernel
theorem dX6_demanding_61 : decode cX6_demanding 61 = .ok (.goto 4, 3) := by decide +kernel
theorem dX6_demanding_64 : decode cX6_demanding 64 = .ok (.iconst 0, 1) := by decide +kernel
theorem dX6_demanding_65 : decode cX6_demanding 65 = .ok (.istore_n 3, 1) := by decide +kernel
theorem dX6_demanding_66 : decode cX6_demanding 66 = .ok (.aload_n 0, 1) := by decide +kernel
theorem dX6_demanding_67 : decode cX6_demanding 67 = .ok (.getfield 19, 3) := by decide +kernel
theorem dX6_demanding_70 : decode cX6_demanding 70 = .ok (.iload 5, 2) := by decide +kernel
theorem dX6_demanding_72 : decode cX6_demanding 72 = .ok (.iaload, 1) := by decide +kernel
theorem dX6_demanding_73 : decode cX6_demanding 73 = .ok (.aload_n 0, 1) := by decide +kernel
theorem dX6_demanding_74 : decode cX6_demanding 74 = .ok (.iload 5, 2) := by decide +kernel
theorem dX6_demanding_76 : decode cX6_demanding 76 = .ok (.invokevirtual 115, 3) := by decide +kernel
theorem dX6_demanding_79 : decode cX6_demanding 79 = .ok (.isub, 1) := by decide +kernel
theorem dX6_demanding_80 : decode cX6_demanding 80 = .ok (.iload 4, 2) := by decide +kernel
theorem dX6_demanding_82 : decode cX6_demanding 82 = .ok (.if_icmp .ge 20, 3) := by decide +kernel
theorem dX6_demanding_85 : decode cX6_demanding 85 = .ok (.aload_n 0, 1) := by decide +kernel
theorem dX6_demanding_86 : decode cX6_demanding 86 = .ok (.getfield 19, 3) := by decide +kernel
theorem dX6_demanding_89 : decode cX6_demanding 89 = .ok (.iload 5, 2) := by decide +kernel
theorem dX6_demanding_91 : decode cX6_demanding 91 = .ok (.iaload, 1) := by decide +kernel
theorem dX6_demanding_92 : decode cX6_demanding 92 = .ok (.aload_n 0, 1) := by decide +kernel
theorem dX6_demanding_93 : decode cX6_demanding 93 = .ok (.iload 5, 2) := by decide +kernel
theorem dX6_demanding_95 : decode cX6_demanding 95 = .ok (.invokevirtual 115, 3) := by decide +kernel
theorem dX6_demanding_98 : decode cX6_demanding 98 = .ok (.isub, 1) := by decide +kernel
theorem dX6_demanding_99 : decode cX6_demanding 99 = .ok (.goto 5, 3) := by decide +kernel
theorem dX6_demanding_102 : decode cX6_demanding 102 = .ok (.iload 4, 2) := by decide +kernel
theorem dX6_demanding_104 : decode cX6_demanding 104 = .ok (.istore 4, 2) := by decide +kernel
theorem dX6_demanding_106 : decode cX6_demanding 106 = .ok (.iinc 5 1, 3) := by decide +kernel
theorem dX6_demanding_109 : decode cX6_demanding 109 = .ok (.goto (-83), 3) := by decide +kernel
theorem dX6_demanding_112 : decode cX6_demanding 112 = .ok (.iload_n 2, 1) := by decide +kernel
theorem dX6_demanding_113 : decode cX6_demanding 113 = .ok (.ifCond .ne 6, 3) := by decide +kernel
theorem dX6_demanding_116 : decode cX6_demanding 116 = .ok (.ldc 103, 2) := by decide +kernel
theorem dX6_demanding_118 : decode cX6_demanding 118 = .ok (.ireturn, 1) := by decide +kernel
theorem dX6_demanding_119 : decode cX6_demanding 119 = .ok (.aload_n 0, 1) := by decide +kernel
theorem dX6_demanding_120 : decode cX6_demanding 120 = .ok (.dup, 1) := by decide +kernel
theorem dX6_demanding_121 : decode cX6_demanding 121 = .ok (.getfield 100, 3) := by decide +kernel
theorem dX6_demanding_124 : decode cX6_demanding 124 = .ok (.iconst 1, 1) := by decide +kernel
theorem dX6_demanding_125 : decode cX6_demanding 125 = .ok (.iload_n 1, 1) := by decide +kernel
theorem dX6_demanding_126 : decode cX6_demanding 126 = .ok (.ishl, 1) := by decide +kernel
theorem dX6_demanding_127 : decode cX6_demanding 127 = .ok (.ior, 1) := by decide +kernel
theorem dX6_demanding_128 : decode cX6_demanding 128 = .ok (.putfield 100, 3) := by decide +kernel
theorem dX6_demanding_131 : decode cX6_demanding 131 = .ok (.iload_n 3, 1) := by decide +kernel
theorem dX6_demanding_132 : decode cX6_demanding 132 = .ok (.ifCond .eq 5, 3) := by decide +kernel
theorem dX6_demanding_135 : decode cX6_demanding 135 = .ok (.iconst 0, 1) := by decide +kernel
theorem dX6_demanding_136 : decode cX6_demanding 136 = .ok (.ireturn, 1) := by decide +kernel
theorem dX6_demanding_137 : decode cX6_demanding 137 = .ok (.aload_n 0, 1) := by decide +kernel
theorem dX6_demanding_138 : decode cX6_demanding 138 = .ok (.getfield 25, 3) := by decide +kernel
theorem dX6_demanding_141 : decode cX6_demanding 141 = .ok (.iload_n 1, 1) := by decide +kernel
theorem dX6_demanding_142 : decode cX6_demanding 142 = .ok (.dup2, 1) := by decide +kernel
theorem dX6_demanding_143 : decode cX6_demanding 143 = .ok (.iaload, 1) := by decide +kernel
theorem dX6_demanding_144 : decode cX6_demanding 144 = .ok (.iload 4, 2) := by decide +kernel
theorem dX6_demanding_146 : decode cX6_demanding 146 = .ok (.iadd, 1) := by decide +kernel
theorem dX6_demanding_147 : decode cX6_demanding 147 = .ok (.iastore, 1) := by decide +kernel
theorem dX6_demanding_148 : decode cX6_demanding 148 = .ok (.iconst 0, 1) := by decide +kernel
theorem dX6_demanding_149 : decode cX6_demanding 149 = .ok (.istore 5, 2) := by decide +kernel
theorem dX6_demanding_151 : decode cX6_demanding 151 = .ok (.iconst 0, 1) := by decide +kernel
theorem dX6_demanding_152 : decode cX6_demanding 152 = .ok (.istore 6, 2) := by decide +kernel
theorem dX6_demanding_154 : decode cX6_demanding 154 = .ok (.iload 6, 2) := by decide +kernel
theorem dX6_demanding_156 : decode cX6_demanding 156 = .ok (.aload_n 0, 1) := by decide +kernel
theorem dX6_demanding_157 : decode cX6_demanding 157 = .ok (.getfield 90, 3) := by decide +kernel
theorem dX6_demanding_160 : decode cX6_demanding 160 = .ok (.if_icmp .ge 60, 3) := by decide +kernel
theorem dX6_demanding_163 : decode cX6_demanding 163 = .ok (.aload_n 0, 1) := by decide +kernel
theorem dX6_demanding_164 : decode cX6_demanding 164 = .ok (.iload 6, 2) := by decide +kernel
theorem dX6_demanding_166 : decode cX6_demanding 166 = .ok (.iload_n 1, 1) := by decide +kernel
theorem dX6_demanding_167 : decode cX6_demanding 167 = .ok (.invokevirtual 108, 3) := by decide +kernel
theorem dX6_demanding_170 : decode cX6_demanding 170 = .ok (.ifCond .eq 44, 3) := by decide +kernel
theorem dX6_demanding_173 : decode cX6_demanding 173 = .ok (.aload_n 0, 1) := by decide +kernel
theorem dX6_demanding_174 : decode cX6_demanding 174 = .ok (.iload 6, 2) := by decide +kernel
theorem dX6_demanding_176 : decode cX6_demanding 176 = .ok (.invokevirtual 115, 3) := by decide +kernel
theorem dX6_demanding_179 : decode cX6_demanding 179 = .ok (.aload_n 0, 1) := by decide +kernel
theorem dX6_demanding_180 : decode cX6_demanding 180 = .ok (.getfield 19, 3) := by decide +kernel
theorem dX6_demanding_183 : decode cX6_demanding 183 = .ok (.iload 6, 2) := by decide +kernel
theorem dX6_demanding_185 : decode cX6_demanding 185 = .ok (.iaload, 1) := by decide +kernel
theorem dX6_demanding_186 : decode cX6_demanding 186 = .ok (.if_icmp .ne 28, 3) := by decide +kernel
theorem dX6_demanding_189 : decode cX6_demanding 189 = .ok (.aload_n 0, 1) := by decide +kernel
theorem dX6_demanding_190 : decode cX6_demanding 190 = .ok (.dup, 1) := by decide +kernel
theorem dX6_demanding_191 : decode cX6_demanding 191 = .ok (.getfield 93, 3) := by decide +kernel
theorem dX6_demanding_194 : decode cX6_demanding 194 = .ok (.iconst 1, 1) := by decide +kernel
theorem dX6_demanding_195 : decode cX6_demanding 195 = .ok (.iload 6, 2) := by decide +kernel
theorem dX6_demanding_197 : decode cX6_demanding 197 = .ok (.ishl, 1) := by decide +kernel
theorem dX6_demanding_198 : decode cX6_demanding 198 = .ok (.ior, 1) := by decide +kernel
theorem dX6_demanding_199 : decode cX6_demanding 199 = .ok (.putfield 93, 3) := by decide +kernel
theorem dX6_demanding_202 : decode cX6_demanding 202 = .ok (.iload 5, 2) := by decide +kernel
theorem dX6_demanding_204 : decode cX6_demanding 204 = .ok (.aload_n 0, 1) := by decide +kernel
theorem dX6_demanding_205 : decode cX6_demanding 205 = .ok (.getfield 19, 3) := by decide +kernel
theorem dX6_demanding_208 : decode cX6_demanding 208 = .ok (.iload 6, 2) := by decide +kernel
theorem dX6_demanding_210 : decode cX6_demanding 210 = .ok (.iaload, 1) := by decide +kernel
theorem dX6_demanding_211 : decode cX6_demanding 211 = .ok (.iadd, 1) := by decide +kernel
theorem dX6_demanding_212 : decode cX6_demanding 212 = .ok (.istore 5, 2) := by decide +kernel
theorem dX6_demanding_214 : decode cX6_demanding 214 = .ok (.iinc 6 1, 3) := by decide +kernel
theorem dX6_demanding_217 : decode cX6_demanding 217 = .ok (.goto (-63), 3) := by decide +kernel
theorem dX6_demanding_220 : decode cX6_demanding 220 = .ok (.aload_n 0, 1) := by decide +kernel
theorem dX6_demanding_221 : decode cX6_demanding 221 = .ok (.dup, 1) := by decide +kernel
theorem dX6_demanding_222 : decode cX6_demanding 222 = .ok (.getfield 118, 3) := by decide +kernel
theorem dX6_demanding_225 : decode cX6_demanding 225 = .ok (.iload 5, 2) := by decide +kernel
theorem dX6_demanding_227 : decode cX6_demanding 227 = .ok (.iadd, 1) := by decide +kernel
theorem dX6_demanding_228 : decode cX6_demanding 228 = .ok (.putfield 118, 3) := by decide +kernel
theorem dX6_demanding_231 : decode cX6_demanding 231 = .ok (.iload 5, 2) := by decide +kernel
theorem dX6_demanding_233 : decode cX6_demanding 233 = .ok (.ireturn, 1) := by decide +kernel
theorem dX6_demand_0 : decode cX6_demand 0 = .ok (.aload_n 0, 1) := by decide +kernel
theorem dX6_demand_1 : decode cX6_demand 1 = .ok (.iconst 0, 1) := by decide +kernel
theorem dX6_demand_2 : decode cX6_demand 2 = .ok (.putfield 66, 3) := by decide +kernel
theorem dX6_demand_5 : decode cX6_demand 5 = .ok (.aload_n 0, 1) := by decide +kernel
theorem dX6_demand_6 : decode cX6_demand 6 = .ok (.iload_n 1, 1) := by decide +kernel
theorem dX6_demand_7 : decode cX6_demand 7 = .ok (.invokevirtual 121, 3) := by decide +kernel
theorem dX6_demand_10 : decode cX6_demand 10 = .ok (.ireturn, 1) := by decide +kernel
theorem dX6_demands_0 : decode cX6_demands 0 = .ok (.aload_n 0, 1) := by decide +kernel
theorem dX6_demands_1 : decode cX6_demands 1 = .ok (.iconst 0, 1) := by decide +kernel
theorem dX6_demands_2 : decode cX6_demands 2 = .ok (.putfield 66, 3) := by decide +kernel
theorem dX6_demands_5 : decode cX6_demands 5 = .ok (.iload_n 1, 1) := by decide +kernel
theorem dX6_demands_6 : decode cX6_demands 6 = .ok (.invokestatic 79, 3) := by decide +kernel
theorem dX6_demands_9 : decode cX6_demands 9 = .ok (.ifCond .eq 15, 3) := by decide +kernel
theorem dX6_demands_12 : decode cX6_demands 12 = .ok (.iload_n 3, 1) := by decide +kernel
theorem dX6_demands_13 : decode cX6_demands 13 = .ok (.i2l, 1) := by decide +kernel
theorem dX6_demands_14 : decode cX6_demands 14 = .ok (.lconst 1, 1) := by decide +kernel
theorem dX6_demands_15 : decode cX6_demands 15 = .ok (.ldc2_w 124, 3) := by decide +kernel
theorem dX6_demands_18 : decode cX6_demands 18 = .ok (.invokestatic 75, 3) := by decide +kernel
theorem dX6_demands_21 : decode cX6_demands 21 = .ok (.ifCond .ne 6, 3) := by decide +kernel
theorem dX6_demands_24 : decode cX6_demands 24 = .ok (.ldc 85, 2) := by decide +kernel
theorem dX6_demands_26 : decode cX6_demands 26 = .ok (.ireturn, 1) := by decide +kernel
theorem dX6_demands_27 : decode cX6_demands 27 = .ok (.aload_n 0, 1) := by decide +kernel
theorem dX6_demands_28 : decode cX6_demands 28 = .ok (.iconst 0, 1) := by decide +kernel
theorem dX6_demands_29 : decode cX6_demands 29 = .ok (.putfield 69, 3) := by decide +kernel
theorem dX6_demands_32 : decode cX6_demands 32 = .ok (.aload_n 0, 1) := by decide +kernel
theorem dX6_demands_33 : decode cX6_demands 33 = .ok (.getfield 7, 3) := by decide +kernel
theorem dX6_demands_36 : decode cX6_demands 36 = .ok (.iload_n 1, 1) := by decide +kernel
theorem dX6_demands_37 : decode cX6_demands 37 = .ok (.iaload, 1) := by decide +kernel
theorem dX6_demands_38 : decode cX6_demands 38 = .ok (.ifCond .ge 9, 3) := by decide +kernel
theorem dX6_demands_41 : decode cX6_demands 41 = .ok (.aload_n 0, 1) := by decide +kernel
theorem dX6_demands_42 : decode cX6_demands 42 = .ok (.iconst 1, 1) := by decide +kernel
theorem dX6_demands_43 : decode cX6_demands 43 = .ok (.invokevirtual 86, 3) := by decide +kernel
theorem dX6_demands_46 : decode cX6_demands 46 = .ok (.ireturn, 1) := by decide +kernel
theorem dX6_demands_47 : decode cX6_demands 47 = .ok (.iload_n 2, 1) := by decide +kernel
theorem dX6_demands_48 : decode cX6_demands 48 = .ok (.ifCond .lt 19, 3) := by decide +kernel
theorem dX6_demands_51 : decode cX6_demands 51 = .ok (.iload_n 2, 1) := by decide +kernel
theorem dX6_demands_52 : decode cX6_demands 52 = .ok (.i2l, 1) := by decide +kernel
theorem dX6_demands_53 : decode cX6_demands 53 = .ok (.iload_n 3, 1) := by decide +kernel
theorem dX6_demands_54 : decode cX6_demands 54 = .ok (.i2l, 1) := by decide +kernel
theorem dX6_demands_55 : decode cX6_demands 55 = .ok (.ladd, 1) := by decide +kernel
theorem dX6_demands_56 : decode cX6_demands 56 = .ok (.aload_n 0, 1) := by decide +kernel
theorem dX6_demands_57 : decode cX6_demands 57 = .ok (.getfield 13, 3) := by decide +kernel
theorem dX6_demands_60 : decode cX6_demands 60 = .ok (.iload_n 1, 1) := by decide +kernel
theorem dX6_demands_61 : decode cX6_demands 61 = .ok (.iaload, 1) := by decide +kernel
theorem dX6_demands_62 : decode cX6_demands 62 = .ok (.i2l, 1) := by decide +kernel
theorem dX6_demands_63 : decode cX6_demands 63 = .ok (.lcmp, 1) := by decide +kernel
theorem dX6_demands_64 : decode cX6_demands 64 = .ok (.ifCond .le 9, 3) := by decide +kernel
theorem dX6_demands_67 : decode cX6_demands 67 = .ok (.aload_n 0, 1) := by decide +kernel
theorem dX6_demands_68 : decode cX6_demands 68 = .ok (.iconst 2, 1) := by decide +kernel
theorem dX6_demands_69 : decode cX6_demands 69 = .ok (.invokevirtual 86, 3) := by decide +kernel
theorem dX6_demands_72 : decode cX6_demands 72 = .ok (.ireturn, 1) := by decide +kernel
theorem dX6_demands_73 : decode cX6_demands 73 = .ok (.iconst 0, 1) := by decide +kernel
theorem dX6_demands_74 : decode cX6_demands 74 = .ok (.istore 4, 2) := by decide +kernel
theorem dX6_demands_76 : decode cX6_demands 76 = .ok (.iconst 0, 1) := by decide +kernel
theorem dX6_demands_77 : decode cX6_demands 77 = .ok (.istore 5, 2) := by decide +kernel
theorem dX6_demands_79 : decode cX6_demands 79 = .ok (.iload 5, 2) := by decide +kernel
theorem dX6_demands_81 : decode cX6_demands 81 = .ok (.iload_n 3, 1) := by decide +kernel
theorem dX6_demands_82 : decode cX6_demands 82 = .ok (.if_icmp .ge 45, 3) := by decide +kernel
theorem dX6_demands_85 : decode cX6_demands 85 = .ok (.aload_n 0, 1) := by decide +kernel
theorem dX6_demands_86 : decode cX6_demands 86 = .ok (.aload_n 0, 1) := by decide +kernel
theorem dX6_demands_87 : decode cX6_demands 87 = .ok (.getfield 16, 3) := by decide +kernel
theorem dX6_demands_90 : decode cX6_demands 90 = .ok (.bipush 60, 2) := by decide +kernel
theorem dX6_demands_92 : decode cX6_demands 92 = .ok (.iload_n 1, 1) := by decide +kernel
theorem dX6_demands_93 : decode cX6_demands 93 = .ok (.imul, 1) := by decide +kernel
theorem dX6_demands_94 : decode cX6_demands 94 = .ok (.iload_n 2, 1) := by decide +kernel
theorem dX6_demands_95 : decode cX6_demands 95 = .ok (.iadd, 1) := by decide +kernel
theorem dX6_demands_96 : decode cX6_demands 96 = .ok (.iload 5, 2) := by decide +kernel
theorem dX6_demands_98 : decode cX6_demands 98 = .ok (.iadd, 1) := by decide +kernel
theorem dX6_demands_99 : decode cX6_demands 99 = .ok (.iaload, 1) := by decide +kernel
theorem dX6_demands_100 : decode cX6_demands 100 = .ok (.invokevirtual 121, 3) := by decide +kernel
theorem dX6_demands_103 : decode cX6_demands 103 = .ok (.istore 6, 2) := by decide +kernel
theorem dX6_demands_105 : decode cX6_demands 105 = .ok (.iload 4, 2) := by decide +kernel
theorem dX6_demands_107 : decode cX6_demands 107 = .ok (.iload 6, 2) := by decide +kernel
theorem dX6_demands_109 : decode cX6_demands 109 = .ok (.ifCond .le 8, 3) := by decide +kernel
theorem dX6_demands_112 : decode cX6_demands 112 = .ok (.iload 6, 2) := by decide +kernel
theorem dX6_demands_114 : decode cX6_demands 114 = .ok (.goto 4, 3) := by decide +kernel
theorem dX6_demands_117 : decode cX6_demands 117 = .ok (.iconst 0, 1) := by decide +kernel
theorem dX6_demands_118 : decode cX6_demands 118 = .ok (.iadd, 1) := by decide +kernel
theorem dX6_demands_119 : decode cX6_demands 119 = .ok (.istore 4, 2) := by decide +kernel
theorem dX6_demands_121 : decode cX6_demands 121 = .ok (.iinc 5 1, 3) := by decide +kernel
theorem dX6_demands_124 : decode cX6_demands 124 = .ok (.goto (-45), 3) := by decide +kernel
theorem dX6_demands_127 : decode cX6_demands 127 = .ok (.iload 4, 2) := by decide +kernel
theorem dX6_demands_129 : decode cX6_demands 129 = .ok (.ireturn, 1) := by decide +kernel
theorem dX6_bestOfSets_0 : decode cX6_bestOfSets 0 = .ok (.ldc 126, 2) := by decide +kernel
theorem dX6_bestOfSets_2 : decode cX6_bestOfSets 2 = .ok (.istore_n 1, 1) := by decide +kernel
theorem dX6_bestOfSets_3 : decode cX6_bestOfSets 3 = .ok (.iconst 0, 1) := by decide +kernel
theorem dX6_bestOfSets_4 : decode cX6_bestOfSets 4 = .ok (.istore_n 2, 1) := by decide +kernel
theorem dX6_bestOfSets_5 : decode cX6_bestOfSets 5 = .ok (.iload_n 2, 1) := by decide +kernel
theorem dX6_bestOfSets_6 : decode cX6_bestOfSets 6 = .ok (.iconst 1, 1) := by decide +kernel
theorem dX6_bestOfSets_7 : decode cX6_bestOfSets 7 = .ok (.aload_n 0, 1) := by decide +kernel
theorem dX6_bestOfSets_8 : decode cX6_bestOfSets 8 = .ok (.getfield 90, 3) := by decide +kernel
theorem dX6_bestOfSets_11 : decode cX6_bestOfSets 11 = .ok (.ishl, 1) := by decide +kernel
theorem dX6_bestOfSets_12 : decode cX6_bestOfSets 12 = .ok (.if_icmp .ge 94, 3) := by decide +kernel
theorem dX6_bestOfSets_15 : decode cX6_bestOfSets 15 = .ok (.iconst 0, 1) := by decide +kernel
theorem dX6_bestOfSets_16 : decode cX6_bestOfSets 16 = .ok (.istore_n 3, 1) := by decide +kernel
theorem dX6_bestOfSets_17 : decode cX6_bestOfSets 17 = .ok (.iconst 0, 1) := by decide +kernel
theorem dX6_bestOfSets_18 : decode cX6_bestOfSets 18 = .ok (.istore 4, 2) := by decide +kernel
theorem dX6_bestOfSets_20 : decode cX6_bestOfSets 20 = .ok (.iconst 0, 1) := by decide +kernel
theorem dX6_bestOfSets_21 : decode cX6_bestOfSets 21 = .ok (.istore 5, 2) := by decide +kernel
theorem dX6_bestOfSets_23 : decode cX6_bestOfSets 23 = .ok (.iload 5, 2) := by decide +kernel
theorem dX6_bestOfSets_25 : decode cX6_bestOfSets 25 = .ok (.aload_n 0, 1) := by decide +kernel
theorem dX6_bestOfSets_26 : decode cX6_bestOfSets 26 = .ok (.getfield 90, 3) := by decide +kernel
theorem dX6_bestOfSets_29 : decode cX6_bestOfSets 29 = .ok (.if_icmp .ge 41, 3) := by decide +kernel
theorem dX6_bestOfSets_32 : decode cX6_bestOfSets 32 = .ok (.iload_n 2, 1) := by decide +kernel
theorem dX6_bestOfSets_33 : decode cX6_bestOfSets 33 = .ok (.iload 5, 2) := by decide +kernel
theorem dX6_bestOfSets_35 : decode cX6_bestOfSets 35 = .ok (.ishr, 1) := by decide +kernel
theorem dX6_bestOfSets_36 : decode cX6_bestOfSets 36 = .ok (.iconst 1, 1) := by decide +kernel
theorem dX6_bestOfSets_37 : decode cX6_bestOfSets 37 = .ok (.iand, 1) := by decide +kernel
theorem dX6_bestOfSets_38 : decode cX6_bestOfSets 38 = .ok (.iconst 1, 1) := by decide +kernel
theorem dX6_bestOfSets_39 : decode cX6_bestOfSets 39 = .ok (.if_icmp .ne 25, 3) := by decide +kernel
theorem dX6_bestOfSets_42 : decode cX6_bestOfSets 42 = .ok (.iload_n 3, 1) := by decide +kernel
theorem dX6_bestOfSets_43 : decode cX6_bestOfSets 43 = .ok (.aload_n 0, 1) := by decide +kernel
theorem dX6_bestOfSets_44 : decode cX6_bestOfSets 44 = .ok (.getfield 22, 3) := by decide +kernel
theorem dX6_bestOfSets_47 : decode cX6_bestOfSets 47 = .ok (.iload 5, 2) := by decide +kernel
theorem dX6_bestOfSets_49 : decode cX6_bestOfSets 49 = .ok (.iaload, 1) := by decide +kernel
theorem dX6_bestOfSets_50 : decode cX6_bestOfSets 50 = .ok (.ior, 1) := by decide +kernel
theorem dX6_bestOfSets_51 : decode cX6_bestOfSets 51 = .ok (.istore_n 3, 1) := by decide +kernel
theorem dX6_bestOfSets_52 : decode cX6_bestOfSets 52 = .ok (.iload 4, 2) := by decide +kernel
theorem dX6_bestOfSets_54 : decode cX6_bestOfSets 54 = .ok (.aload_n 0, 1) := by decide +kernel
theorem dX6_bestOfSets_55 : decode cX6_bestOfSets 55 = .ok (.getfield 19, 3) := by decide +kernel
theorem dX6_bestOfSets_58 : decode cX6_bestOfSets 58 = .ok (.iload 5, 2) := by decide +kernel
theorem dX6_bestOfSets_60 : decode cX6_bestOfSets 60 = .ok (.iaload, 1) := by decide +kernel
theorem dX6_bestOfSets_61 : decode cX6_bestOfSets 61 = .ok (.iadd, 1) := by decide +kernel
theorem dX6_bestOfSets_62 : decode cX6_bestOfSets 62 = .ok (.istore 4, 2) := by decide +kernel
theorem dX6_bestOfSets_64 : decode cX6_bestOfSets 64 = .ok (.iinc 5 1, 3) := by decide +kernel
theorem dX6_bestOfSets_67 : decode cX6_bestOfSets 67 = .ok (.goto (-44), 3) := by decide +kernel
theorem dX6_bestOfSets_70 : decode cX6_bestOfSets 70 = .ok (.aload_n 0, 1) := by decide +kernel
theorem dX6_bestOfSets_71 : decode cX6_bestOfSets 71 = .ok (.getfield 100, 3) := by decide +kernel
theorem dX6_bestOfSets_74 : decode cX6_bestOfSets 74 = .ok (.iload_n 3, 1) := by decide +kernel
theorem dX6_bestOfSets_75 : decode cX6_bestOfSets 75 = .ok (.iconst (-1), 1) := by decide +kernel
theorem dX6_bestOfSets_76 : decode cX6_bestOfSets 76 = .ok (.ixor, 1) := by decide +kernel
theorem dX6_bestOfSets_77 : decode cX6_bestOfSets 77 = .ok (.iand, 1) := by decide +kernel
theorem dX6_bestOfSets_78 : decode cX6_bestOfSets 78 = .ok (.ifCond .ne 20, 3) := by decide +kernel
theorem dX6_bestOfSets_81 : decode cX6_bestOfSets 81 = .ok (.iload_n 1, 1) := by decide +kernel
theorem dX6_bestOfSets_82 : decode cX6_bestOfSets 82 = .ok (.ldc 126, 2) := by decide +kernel
theorem dX6_bestOfSets_84 : decode cX6_bestOfSets 84 = .ok (.if_icmp .eq 9, 3) := by decide +kernel
theorem dX6_bestOfSets_87 : decode cX6_bestOfSets 87 = .ok (.iload 4, 2) := by decide +kernel
theorem dX6_bestOfSets_89 : decode cX6_bestOfSets 89 = .ok (.iload_n 1, 1) := by decide +kernel
theorem dX6_bestOfSets_90 : decode cX6_bestOfSets 90 = .ok (.if_icmp .ge 8, 3) := by decide +kernel
theorem dX6_bestOfSets_93 : decode cX6_bestOfSets 93 = .ok (.iload 4, 2) := by decide +kernel
theorem dX6_bestOfSets_95 : decode cX6_bestOfSets 95 = .ok (.goto 4, 3) := by decide +kernel
theorem dX6_bestOfSets_98 : decode cX6_bestOfSets 98 = .ok (.iload_n 1, 1) := by decide +kernel
theorem dX6_bestOfSets_99 : decode cX6_bestOfSets 99 = .ok (.istore_n 1, 1) := by decide +kernel
theorem dX6_bestOfSets_100 : decode cX6_bestOfSets 100 = .ok (.iinc 2 1, 3) := by decide +kernel
theorem dX6_bestOfSets_103 : decode cX6_bestOfSets 103 = .ok (.goto (-98), 3) := by decide +kernel
theorem dX6_bestOfSets_106 : decode cX6_bestOfSets 106 = .ok (.iload_n 1, 1) := by decide +kernel
theorem dX6_bestOfSets_107 : decode cX6_bestOfSets 107 = .ok (.ireturn, 1) := by decide +kernel
theorem dX6_covers_0 : decode cX6_covers 0 = .ok (.aload_n 0, 1) := by decide +kernel
theorem dX6_covers_1 : decode cX6_covers 1 = .ok (.iconst 0, 1) := by decide +kernel
theorem dX6_covers_2 : decode cX6_covers 2 = .ok (.putfield 66, 3) := by decide +kernel
theorem dX6_covers_5 : decode cX6_covers 5 = .ok (.iload_n 1, 1) := by decide +kernel
theorem dX6_covers_6 : decode cX6_covers 6 = .ok (.i2l, 1) := by decide +kernel
theorem dX6_covers_7 : decode cX6_covers 7 = .ok (.lconst 0, 1) := by decide +kernel
theorem dX6_covers_8 : decode cX6_covers 8 = .ok (.ldc2_w 127, 3) := by decide +kernel
theorem dX6_covers_11 : decode cX6_covers 11 = .ok (.invokestatic 75, 3) := by decide +kernel
theorem dX6_covers_14 : decode cX6_covers 14 = .ok (.ifCond .ne 6, 3) := by decide +kernel
theorem dX6_covers_17 : decode cX6_covers 17 = .ok (.ldc 85, 2) := by decide +kernel
theorem dX6_covers_19 : decode cX6_covers 19 = .ok (.ireturn, 1) := by decide +kernel
theorem dX6_covers_20 : decode cX6_covers 20 = .ok (.iconst 0, 1) := by decide +kernel
theorem dX6_covers_21 : decode cX6_covers 21 = .ok (.istore_n 2, 1) := by decide +kernel
theorem dX6_covers_22 : decode cX6_covers 22 = .ok (.iconst 0, 1) := by decide +kernel
theorem dX6_covers_23 : decode cX6_covers 23 = .ok (.istore_n 3, 1) := by decide +kernel
theorem dX6_covers_24 : decode cX6_covers 24 = .ok (.iload_n 3, 1) := by decide +kernel
theorem dX6_covers_25 : decode cX6_covers 25 = .ok (.bipush 12, 2) := by decide +kernel
theorem dX6_covers_27 : decode cX6_covers 27 = .ok (.if_icmp .ge 91, 3) := by decide +kernel
theorem dX6_covers_30 : decode cX6_covers 30 = .ok (.iconst 0, 1) := by decide +kernel
theorem dX6_covers_31 : decode cX6_covers 31 = .ok (.istore 4, 2) := by decide +kernel
theorem dX6_covers_33 : decode cX6_covers 33 = .ok (.iconst 0, 1) := by decide +kernel
theorem dX6_covers_34 : decode cX6_covers 34 = .ok (.istore 5, 2) := by decide +kernel
theorem dX6_covers_36 : decode cX6_covers 36 = .ok (.iload 5, 2) := by decide +kernel
theorem dX6_covers_38 : decode cX6_covers 38 = .ok (.aload_n 0, 1) := by decide +kernel
theorem dX6_covers_39 : decode cX6_covers 39 = .ok (.getfield 90, 3) := by decide +kernel
theorem dX6_covers_42 : decode cX6_covers 42 = .ok (.if_icmp .ge 41, 3) := by decide +kernel
theorem dX6_covers_45 : decode cX6_covers 45 = .ok (.iload 4, 2) := by decide +kernel
theorem dX6_covers_47 : decode cX6_covers 47 = .ok (.aload_n 0, 1) := by decide +kernel
theorem dX6_covers_48 : decode cX6_covers 48 = .ok (.iload 5, 2) := by decide +kernel
theorem dX6_covers_50 : decode cX6_covers 50 = .ok (.iload_n 3, 1) := by decide +kernel
theorem dX6_covers_51 : decode cX6_covers 51 = .ok (.invokevirtual 108, 3) := by decide +kernel
theorem dX6_covers_54 : decode cX6_covers 54 = .ok (.ifCond .eq 19, 3) := by decide +kernel
theorem dX6_covers_57 : decode cX6_covers 57 = .ok (.aload_n 0, 1) := by decide +kernel
theorem dX6_covers_58 : decode cX6_covers 58 = .ok (.getfield 100, 3) := by decide +kernel
theorem dX6_covers_61 : decode cX6_covers 61 = .ok (.iload_n 3, 1) := by decide +kernel
theorem dX6_covers_62 : decode cX6_covers 62 = .ok (.ishr, 1) := by decide +kernel
theorem dX6_covers_63 : decode cX6_covers 63 = .ok (.iconst 1, 1) := by decide +kernel
theorem dX6_covers_64 : decode cX6_covers 64 = .ok (.iand, 1) := by decide +kernel
theorem dX6_covers_65 : decode cX6_covers 65 = .ok (.iconst 1, 1) := by decide +kernel
theorem dX6_covers_66 : decode cX6_covers 66 = .ok (.if_icmp .ne 7, 3) := by decide +kernel
theorem dX6_covers_69 : decode cX6_covers 69 = .ok (.iconst 1, 1) := by decide +kernel
theorem dX6_covers_70 : decode cX6_covers 70 = .ok (.goto 4, 3) := by decide +kernel
theorem dX6_covers_73 : decode cX6_covers 73 = .ok (.iconst 0, 1) := by decide +kernel
theorem dX6_covers_74 : decode cX6_covers 74 = .ok (.iadd, 1) := by decide +kernel
theorem dX6_covers_75 : decode cX6_covers 75 = .ok (.istore 4, 2) := by decide +kernel
theorem dX6_covers_77 : decode cX6_covers 77 = .ok (.iinc 5 1, 3) := by decide +kernel
theorem dX6_covers_80 : decode cX6_covers 80 = .ok (.goto (-44), 3) := by decide +kernel
theorem dX6_covers_83 : decode cX6_covers 83 = .ok (.iload_n 1, 1) := by decide +kernel
theorem dX6_covers_84 : decode cX6_covers 84 = .ok (.iconst 1, 1) := by decide +kernel
theorem dX6_covers_85 : decode cX6_covers 85 = .ok (.if_icmp .ne 14, 3) := by decide +kernel
theorem dX6_covers_88 : decode cX6_covers 88 = .ok (.iload_n 2, 1) := by decide +kernel
theorem dX6_covers_89 : decode cX6_covers 89 = .ok (.aload_n 0, 1) := by decide +kernel
theorem dX6_covers_90 : decode cX6_covers 90 = .ok (.getfield 25, 3) := by decide +kernel
theorem dX6_covers_93 : decode cX6_covers 93 = .ok (.iload_n 3, 1) := by decide +kernel
theorem dX6_covers_94 : decode cX6_covers 94 = .ok (.iaload, 1) := by decide +kernel
theorem dX6_covers_95 : decode cX6_covers 95 = .ok (.iadd, 1) := by decide +kernel
theorem dX6_covers_96 : decode cX6_covers 96 = .ok (.goto 15, 3) := by decide +kernel
theorem dX6_covers_99 : decode cX6_covers 99 = .ok (.iload 4, 2) := by decide +kernel
theorem dX6_covers_101 : decode cX6_covers 101 = .ok (.iload_n 2, 1) := by decide +kernel
theorem dX6_covers_102 : decode cX6_covers 102 = .ok (.if_icmp .le 8, 3) := by decide +kernel
theorem dX6_covers_105 : decode cX6_covers 105 = .ok (.iload 4, 2) := by decide +kernel
theorem dX6_covers_107 : decode cX6_covers 107 = .ok (.goto 4, 3) := by decide +kernel
theorem dX6_covers_110 : decode cX6_covers 110 = .ok (.iload_n 2, 1) := by decide +kernel
theorem dX6_covers_111 : decode cX6_covers 111 = .ok (.istore_n 2, 1) := by decide +kernel
theorem dX6_covers_112 : decode cX6_covers 112 = .ok (.iinc 3 1, 3) := by decide +kernel
theorem dX6_covers_115 : decode cX6_covers 115 = .ok (.goto (-91), 3) := by decide +kernel
theorem dX6_covers_118 : decode cX6_covers 118 = .ok (.iload_n 1, 1) := by decide +kernel
theorem dX6_covers_119 : decode cX6_covers 119 = .ok (.ifCond .ne 10, 3) := by decide +kernel
theorem dX6_covers_122 : decode cX6_covers 122 = .ok (.aload_n 0, 1) := by decide +kernel
theorem dX6_covers_123 : decode cX6_covers 123 = .ok (.getfield 118, 3) := by decide +kernel
theorem dX6_covers_126 : decode cX6_covers 126 = .ok (.goto 40, 3) := by decide +kernel
theorem dX6_covers_129 : decode cX6_covers 129 = .ok (.iload_n 1, 1) := by decide +kernel
theorem dX6_covers_130 : decode cX6_covers 130 = .ok (.iconst 2, 1) := by decide +kernel
theorem dX6_covers_131 : decode cX6_covers 131 = .ok (.if_icmp .ne 10, 3) := by decide +kernel
theorem dX6_covers_134 : decode cX6_covers 134 = .ok (.aload_n 0, 1) := by decide +kernel
theorem dX6_covers_135 : decode cX6_covers 135 = .ok (.invokevirtual 129, 3) := by decide +kernel
theorem dX6_covers_138 : decode cX6_covers 138 = .ok (.goto 28, 3) := by decide +kernel
theorem dX6_covers_141 : decode cX6_covers 141 = .ok (.iload_n 1, 1) := by decide +kernel
theorem dX6_covers_142 : decode cX6_covers 142 = .ok (.iconst 4, 1) := by decide +kernel
theorem dX6_covers_143 : decode cX6_covers 143 = .ok (.if_icmp .ne 10, 3) := by decide +kernel
theorem dX6_covers_146 : decode cX6_covers 146 = .ok (.aload_n 0, 1) := by decide +kernel
theorem dX6_covers_147 : decode cX6_covers 147 = .ok (.getfield 100, 3) := by decide +kernel
theorem dX6_covers_150 : decode cX6_covers 150 = .ok (.goto 16, 3) := by decide +kernel
theorem dX6_covers_153 : decode cX6_covers 153 = .ok (.iload_n 1, 1) := by decide +kernel
theorem dX6_covers_154 : decode cX6_covers 154 = .ok (.iconst 5, 1) := by decide +kernel
theorem dX6_covers_155 : decode cX6_covers 155 = .ok (.if_icmp .ne 10, 3) := by decide +kernel
theorem dX6_covers_158 : decode cX6_covers 158 = .ok (.aload_n 0, 1) := by decide +kernel
theorem dX6_covers_159 : decode cX6_covers 159 = .ok (.getfield 93, 3) := by decide +kernel
theorem dX6_covers_162 : decode cX6_covers 162 = .ok (.goto 4, 3) := by decide +kernel
theorem dX6_covers_165 : decode cX6_covers 165 = .ok (.iload_n 2, 1) := by decide +kernel
theorem dX6_covers_166 : decode cX6_covers 166 = .ok (.ireturn, 1) := by decide +kernel
theorem dX6_size_0 : decode cX6_size 0 = .ok (.iconst 0, 1) := by decide +kernel
theorem dX6_size_1 : decode cX6_size 1 = .ok (.istore_n 1, 1) := by decide +kernel
theorem dX6_size_2 : decode cX6_size 2 = .ok (.iconst 0, 1) := by decide +kernel
theorem dX6_size_3 : decode cX6_size 3 = .ok (.istore_n 2, 1) := by decide +kernel
theorem dX6_size_4 : decode cX6_size 4 = .ok (.iload_n 2, 1) := by decide +kernel
theorem dX6_size_5 : decode cX6_size 5 = .ok (.bipush 12, 2) := by decide +kernel
theorem dX6_size_7 : decode cX6_size 7 = .ok (.if_icmp .ge 17, 3) := by decide +kernel
theorem dX6_size_10 : decode cX6_size 10 = .ok (.iload_n 1, 1) := by decide +kernel
theorem dX6_size_11 : decode cX6_size 11 = .ok (.iload_n 0, 1) := by decide +kernel
theorem dX6_size_12 : decode cX6_size 12 = .ok (.iload_n 2, 1) := by decide +kernel
theorem dX6_size_13 : decode cX6_size 13 = .ok (.ishr, 1) := by decide +kernel
theorem dX6_size_14 : decode cX6_size 14 = .ok (.iconst 1, 1) := by decide +kernel
theorem dX6_size_15 : decode cX6_size 15 = .ok (.iand, 1) := by decide +kernel
theorem dX6_size_16 : decode cX6_size 16 = .ok (.iadd, 1) := by decide +kernel
theorem dX6_size_17 : decode cX6_size 17 = .ok (.istore_n 1, 1) := by decide +kernel
theorem dX6_size_18 : decode cX6_size 18 = .ok (.iinc 2 1, 3) := by decide +kernel
theorem dX6_size_21 : decode cX6_size 21 = .ok (.goto (-17), 3) := by decide +kernel
theorem dX6_size_24 : decode cX6_size 24 = .ok (.iload_n 1, 1) := by decide +kernel
theorem dX6_size_25 : decode cX6_size 25 = .ok (.ireturn, 1) := by decide +kernel
theorem dX6_told_0 : decode cX6_told 0 = .ok (.aload_n 0, 1) := by decide +kernel
theorem dX6_told_1 : decode cX6_told 1 = .ok (.iconst 0, 1) := by decide +kernel
theorem dX6_told_2 : decode cX6_told 2 = .ok (.putfield 66, 3) := by decide +kernel
theorem dX6_told_5 : decode cX6_told 5 = .ok (.aload_n 0, 1) := by decide +kernel
theorem dX6_told_6 : decode cX6_told 6 = .ok (.iload_n 1, 1) := by decide +kernel
theorem dX6_told_7 : decode cX6_told 7 = .ok (.invokevirtual 133, 3) := by decide +kernel
theorem dX6_told_10 : decode cX6_told 10 = .ok (.ifCond .eq 15, 3) := by decide +kernel
theorem dX6_told_13 : decode cX6_told 13 = .ok (.iload_n 2, 1) := by decide +kernel
theorem dX6_told_14 : decode cX6_told 14 = .ok (.i2l, 1) := by decide +kernel
theorem dX6_told_15 : decode cX6_told 15 = .ok (.lconst 0, 1) := by decide +kernel
theorem dX6_told_16 : decode cX6_told 16 = .ok (.ldc2_w 136, 3) := by decide +kernel
theorem dX6_told_19 : decode cX6_told 19 = .ok (.invokestatic 75, 3) := by decide +kernel
theorem dX6_told_22 : decode cX6_told 22 = .ok (.ifCond .ne 6, 3) := by decide +kernel
theorem dX6_told_25 : decode cX6_told 25 = .ok (.ldc 85, 2) := by decide +kernel
theorem dX6_told_27 : decode cX6_told 27 = .ok (.ireturn, 1) := by decide +kernel
theorem dX6_told_28 : decode cX6_told 28 = .ok (.iload_n 2, 1) := by decide +kernel
theorem dX6_told_29 : decode cX6_told 29 = .ok (.ifCond .ne 12, 3) := by decide +kernel
theorem dX6_told_32 : decode cX6_told 32 = .ok (.aload_n 0, 1) := by decide +kernel
theorem dX6_told_33 : decode cX6_told 33 = .ok (.getfield 19, 3) := by decide +kernel
theorem dX6_told_36 : decode cX6_told 36 = .ok (.iload_n 1, 1) := by decide +kernel
theorem dX6_told_37 : decode cX6_told 37 = .ok (.iaload, 1) := by decide +kernel
theorem dX6_told_38 : decode cX6_told 38 = .ok (.goto 43, 3) := by decide +kernel
theorem dX6_told_41 : decode cX6_told 41 = .ok (.iload_n 2, 1) := by decide +kernel
theorem dX6_told_42 : decode cX6_told 42 = .ok (.iconst 1, 1) := by decide +kernel
theorem dX6_told_43 : decode cX6_told 43 = .ok (.if_icmp .ne 12, 3) := by decide +kernel
theorem dX6_told_46 : decode cX6_told 46 = .ok (.aload_n 0, 1) := by decide +kernel
theorem dX6_told_47 : decode cX6_told 47 = .ok (.getfield 22, 3) := by decide +kernel
theorem dX6_told_50 : decode cX6_told 50 = .ok (.iload_n 1, 1) := by decide +kernel
theorem dX6_told_51 : decode cX6_told 51 = .ok (.iaload, 1) := by decide +kernel
theorem dX6_told_52 : decode cX6_told 52 = .ok (.goto 29, 3) := by decide +kernel
theorem dX6_told_55 : decode cX6_told 55 = .ok (.iload_n 2, 1) := by decide +kernel
theorem dX6_told_56 : decode cX6_told 56 = .ok (.iconst 2, 1) := by decide +kernel
theorem dX6_told_57 : decode cX6_told 57 = .ok (.if_icmp .ne 11, 3) := by decide +kernel
theorem dX6_told_60 : decode cX6_told 60 = .ok (.aload_n 0, 1) := by decide +kernel
theorem dX6_told_61 : decode cX6_told 61 = .ok (.iload_n 1, 1) := by decide +kernel
theorem dX6_told_62 : decode cX6_told 62 = .ok (.invokevirtual 115, 3) := by decide +kernel
theorem dX6_told_65 : decode cX6_told 65 = .ok (.goto 16, 3) := by decide +kernel
theorem dX6_told_68 : decode cX6_told 68 = .ok (.aload_n 0, 1) := by decide +kernel
theorem dX6_told_69 : decode cX6_told 69 = .ok (.iload_n 1, 1) := by decide +kernel
theorem dX6_told_70 : decode cX6_told 70 = .ok (.invokevirtual 112, 3) := by decide +kernel
theorem dX6_told_73 : decode cX6_told 73 = .ok (.ifCond .eq 7, 3) := by decide +kernel
theorem dX6_told_76 : decode cX6_told 76 = .ok (.iconst 1, 1) := by decide +kernel
theorem dX6_told_77 : decode cX6_told 77 = .ok (.goto 4, 3) := by decide +kernel
theorem dX6_told_80 : decode cX6_told 80 = .ok (.iconst 0, 1) := by decide +kernel
theorem dX6_told_81 : decode cX6_told 81 = .ok (.ireturn, 1) := by decide +kernel
theorem dX6_price_0 : decode cX6_price 0 = .ok (.aload_n 0, 1) := by decide +kernel
theorem dX6_price_1 : decode cX6_price 1 = .ok (.iconst 0, 1) := by decide +kernel
theorem dX6_price_2 : decode cX6_price 2 = .ok (.putfield 66, 3) := by decide +kernel
theorem dX6_price_5 : decode cX6_price 5 = .ok (.iload_n 1, 1) := by decide +kernel
theorem dX6_price_6 : decode cX6_price 6 = .ok (.i2l, 1) := by decide +kernel
theorem dX6_price_7 : decode cX6_price 7 = .ok (.lconst 0, 1) := by decide +kernel
theorem dX6_price_8 : decode cX6_price 8 = .ok (.ldc2_w 105, 3) := by decide +kernel
theorem dX6_price_11 : decode cX6_price 11 = .ok (.invokestatic 75, 3) := by decide +kernel
theorem dX6_price_14 : decode cX6_price 14 = .ok (.ifCond .eq 12, 3) := by decide +kernel
theorem dX6_price_17 : decode cX6_price 17 = .ok (.aload_n 0, 1) := by decide +kernel
theorem dX6_price_18 : decode cX6_price 18 = .ok (.getfield 25, 3) := by decide +kernel
theorem dX6_price_21 : decode cX6_price 21 = .ok (.iload_n 1, 1) := by decide +kernel
theorem dX6_price_22 : decode cX6_price 22 = .ok (.iaload, 1) := by decide +kernel
theorem dX6_price_23 : decode cX6_price 23 = .ok (.goto 5, 3) := by decide +kernel
theorem dX6_price_26 : decode cX6_price 26 = .ok (.ldc 85, 2) := by decide +kernel
theorem dX6_price_28 : decode cX6_price 28 = .ok (.ireturn, 1) := by decide +kernel
theorem dX6_lease_0 : decode cX6_lease 0 = .ok (.aload_n 0, 1) := by decide +kernel
theorem dX6_lease_1 : decode cX6_lease 1 = .ok (.iconst 0, 1) := by decide +kernel
theorem dX6_lease_2 : decode cX6_lease 2 = .ok (.putfield 66, 3) := by decide +kernel
theorem dX6_lease_5 : decode cX6_lease 5 = .ok (.iload_n 1, 1) := by decide +kernel
theorem dX6_lease_6 : decode cX6_lease 6 = .ok (.i2l, 1) := by decide +kernel
theorem dX6_lease_7 : decode cX6_lease 7 = .ok (.lconst 1, 1) := by decide +kernel
theorem dX6_lease_8 : decode cX6_lease 8 = .ok (.ldc2_w 138, 3) := by decide +kernel
theorem dX6_lease_11 : decode cX6_lease 11 = .ok (.invokestatic 75, 3) := by decide +kernel
theorem dX6_lease_14 : decode cX6_lease 14 = .ok (.ifCond .eq 15, 3) := by decide +kernel
theorem dX6_lease_17 : decode cX6_lease 17 = .ok (.iload_n 2, 1) := by decide +kernel
theorem dX6_lease_18 : decode cX6_lease 18 = .ok (.i2l, 1) := by decide +kernel
theorem dX6_lease_19 : decode cX6_lease 19 = .ok (.lconst 1, 1) := by decide +kernel
theorem dX6_lease_20 : decode cX6_lease 20 = .ok (.ldc2_w 96, 3) := by decide +kernel
theorem dX6_lease_23 : decode cX6_lease 23 = .ok (.invokestatic 75, 3) := by decide +kernel
theorem dX6_lease_26 : decode cX6_lease 26 = .ok (.ifCond .ne 6, 3) := by decide +kernel
theorem dX6_lease_29 : decode cX6_lease 29 = .ok (.ldc 85, 2) := by decide +kernel
theorem dX6_lease_31 : decode cX6_lease 31 = .ok (.ireturn, 1) := by decide +kernel
theorem dX6_lease_32 : decode cX6_lease 32 = .ok (.aload_n 0, 1) := by decide +kernel
theorem dX6_lease_33 : decode cX6_lease 33 = .ok (.getfield 44, 3) := by decide +kernel
theorem dX6_lease_36 : decode cX6_lease 36 = .ok (.ifCond .ge 41, 3) := by decide +kernel
theorem dX6_lease_39 : decode cX6_lease 39 = .ok (.aload_n 0, 1) := by decide +kernel
theorem dX6_lease_40 : decode cX6_lease 40 = .ok (.getfield 140, 3) := by decide +kernel
theorem dX6_lease_43 : decode cX6_lease 43 = .ok (.ifCond .le 37, 3) := by decide +kernel
theorem dX6_lease_46 : decode cX6_lease 46 = .ok (.iload_n 1, 1) := by decide +kernel
theorem dX6_lease_47 : decode cX6_lease 47 = .ok (.aload_n 0, 1) := by decide +kernel
theorem dX6_lease_48 : decode cX6_lease 48 = .ok (.getfield 28, 3) := by decide +kernel
theorem dX6_lease_51 : decode cX6_lease 51 = .ok (.aload_n 0, 1) := by decide +kernel
theorem dX6_lease_52 : decode cX6_lease 52 = .ok (.getfield 140, 3) := by decide +kernel
theorem dX6_lease_55 : decode cX6_lease 55 = .ok (.iconst 1, 1) := by decide +kernel
theorem dX6_lease_56 : decode cX6_lease 56 = .ok (.isub, 1) := by decide +kernel
theorem dX6_lease_57 : decode cX6_lease 57 = .ok (.iaload, 1) := by decide +kernel
theorem dX6_lease_58 : decode cX6_lease 58 = .ok (.irem, 1) := by decide +kernel
theorem dX6_lease_59 : decode cX6_lease 59 = .ok (.ifCond .ne 18, 3) := by decide +kernel
theorem dX6_lease_62 : decode cX6_lease 62 = .ok (.iload_n 1, 1) := by decide +kernel
theorem dX6_lease_63 : decode cX6_lease 63 = .ok (.aload_n 0, 1) := by decide +kernel
theorem dX6_lease_64 : decode cX6_lease 64 = .ok (.getfield 28, 3) := by decide +kernel
theorem dX6_lease_67 : decode cX6_lease 67 = .ok (.aload_n 0, 1) := by decide +kernel
theorem dX6_lease_68 : decode cX6_lease 68 = .ok (.getfield 140, 3) := by decide +kernel
theorem dX6_lease_71 : decode cX6_lease 71 = .ok (.iconst 1, 1) := by decide +kernel
theorem dX6_lease_72 : decode cX6_lease 72 = .ok (.isub, 1) := by decide +kernel
theorem dX6_lease_73 : decode cX6_lease 73 = .ok (.iaload, 1) := by decide +kernel
theorem dX6_lease_74 : decode cX6_lease 74 = .ok (.if_icmp .ne 6, 3) := by decide +kernel
theorem dX6_lease_77 : decode cX6_lease 77 = .ok (.ldc 103, 2) := by decide +kernel
theorem dX6_lease_79 : decode cX6_lease 79 = .ok (.ireturn, 1) := by decide +kernel
theorem dX6_lease_80 : decode cX6_lease 80 = .ok (.aload_n 0, 1) := by decide +kernel
theorem dX6_lease_81 : decode cX6_lease 81 = .ok (.getfield 140, 3) := by decide +kernel
theorem dX6_lease_84 : decode cX6_lease 84 = .ok (.iconst 4, 1) := by decide +kernel
theorem dX6_lease_85 : decode cX6_lease 85 = .ok (.if_icmp .ne 6, 3) := by decide +kernel
theorem dX6_lease_88 : decode cX6_lease 88 = .ok (.ldc 104, 2) := by decide +kernel
theorem dX6_lease_90 : decode cX6_lease 90 = .ok (.ireturn, 1) := by decide +kernel
theorem dX6_lease_91 : decode cX6_lease 91 = .ok (.aload_n 0, 1) := by decide +kernel
theorem dX6_lease_92 : decode cX6_lease 92 = .ok (.getfield 28, 3) := by decide +kernel
theorem dX6_lease_95 : decode cX6_lease 95 = .ok (.aload_n 0, 1) := by decide +kernel
theorem dX6_lease_96 : decode cX6_lease 96 = .ok (.getfield 140, 3) := by decide +kernel
theorem dX6_lease_99 : decode cX6_lease 99 = .ok (.iload_n 1, 1) := by decide +kernel
theorem dX6_lease_100 : decode cX6_lease 100 = .ok (.iastore, 1) := by decide +kernel
theorem dX6_lease_101 : decode cX6_lease 101 = .ok (.aload_n 0, 1) := by decide +kernel
theorem dX6_lease_102 : decode cX6_lease 102 = .ok (.getfield 31, 3) := by decide +kernel
theorem dX6_lease_105 : decode cX6_lease 105 = .ok (.aload_n 0, 1) := by decide +kernel
theorem dX6_lease_106 : decode cX6_lease 106 = .ok (.getfield 140, 3) := by decide +kernel
theorem dX6_lease_109 : decode cX6_lease 109 = .ok (.iload_n 2, 1) := by decide +kernel
theorem dX6_lease_110 : decode cX6_lease 110 = .ok (.iastore, 1) := by decide +kernel
theorem dX6_lease_111 : decode cX6_lease 111 = .ok (.aload_n 0, 1) := by decide +kernel
theorem dX6_lease_112 : decode cX6_lease 112 = .ok (.dup, 1) := by decide +kernel
theorem dX6_lease_113 : decode cX6_lease 113 = .ok (.getfield 140, 3) := by decide +kernel
theorem dX6_lease_116 : decode cX6_lease 116 = .ok (.iconst 1, 1) := by decide +kernel
theorem dX6_lease_117 : decode cX6_lease 117 = .ok (.iadd, 1) := by decide +kernel
theorem dX6_lease_118 : decode cX6_lease 118 = .ok (.putfield 140, 3) := by decide +kernel
theorem dX6_lease_121 : decode cX6_lease 121 = .ok (.aload_n 0, 1) := by decide +kernel
theorem dX6_lease_122 : decode cX6_lease 122 = .ok (.getfield 140, 3) := by decide +kernel
theorem dX6_lease_125 : decode cX6_lease 125 = .ok (.iconst 1, 1) := by decide +kernel
theorem dX6_lease_126 : decode cX6_lease 126 = .ok (.isub, 1) := by decide +kernel
theorem dX6_lease_127 : decode cX6_lease 127 = .ok (.ireturn, 1) := by decide +kernel
theorem dX6_isDay_0 : decode cX6_isDay 0 = .ok (.iload_n 0, 1) := by decide +kernel
theorem dX6_isDay_1 : decode cX6_isDay 1 = .ok (.i2l, 1) := by decide +kernel
theorem dX6_isDay_2 : decode cX6_isDay 2 = .ok (.lconst 0, 1) := by decide +kernel
theorem dX6_isDay_3 : decode cX6_isDay 3 = .ok (.ldc2_w 143, 3) := by decide +kernel
theorem dX6_isDay_6 : decode cX6_isDay 6 = .ok (.invokestatic 75, 3) := by decide +kernel
theorem dX6_isDay_9 : decode cX6_isDay 9 = .ok (.ireturn, 1) := by decide +kernel
theorem dX6_firstOf_0 : decode cX6_firstOf 0 = .ok (.iload_n 2, 1) := by decide +kernel
theorem dX6_firstOf_1 : decode cX6_firstOf 1 = .ok (.iload_n 2, 1) := by decide +kernel
theorem dX6_firstOf_2 : decode cX6_firstOf 2 = .ok (.aload_n 0, 1) := by decide +kernel
theorem dX6_firstOf_3 : decode cX6_firstOf 3 = .ok (.getfield 28, 3) := by decide +kernel
theorem dX6_firstOf_6 : decode cX6_firstOf 6 = .ok (.iload_n 1, 1) := by decide +kernel
theorem dX6_firstOf_7 : decode cX6_firstOf 7 = .ok (.iaload, 1) := by decide +kernel
theorem dX6_firstOf_8 : decode cX6_firstOf 8 = .ok (.irem, 1) := by decide +kernel
theorem dX6_firstOf_9 : decode cX6_firstOf 9 = .ok (.isub, 1) := by decide +kernel
theorem dX6_firstOf_10 : decode cX6_firstOf 10 = .ok (.ireturn, 1) := by decide +kernel
theorem dX6_isCovered_0 : decode cX6_isCovered 0 = .ok (.iconst 0, 1) := by decide +kernel
theorem dX6_isCovered_1 : decode cX6_isCovered 1 = .ok (.istore_n 2, 1) := by decide +kernel
theorem dX6_isCovered_2 : decode cX6_isCovered 2 = .ok (.iconst 0, 1) := by decide +kernel
theorem dX6_isCovered_3 : decode cX6_isCovered 3 = .ok (.istore_n 3, 1) := by decide +kernel
theorem dX6_isCovered_4 : decode cX6_isCovered 4 = .ok (.iload_n 3, 1) := by decide +kernel
theorem dX6_isCovered_5 : decode cX6_isCovered 5 = .ok (.aload_n 0, 1) := by decide +kernel
theorem dX6_isCovered_6 : decode cX6_isCovered 6 = .ok (.getfield 140, 3) := by decide +kernel
theorem dX6_isCovered_9 : decode cX6_isCovered 9 = .ok (.if_icmp .ge 39, 3) := by decide +kernel
theorem dX6_isCovered_12 : decode cX6_isCovered 12 = .ok (.iload_n 2, 1) := by decide +kernel
theorem dX6_isCovered_13 : decode cX6_isCovered 13 = .ok (.ifCond .ne 23, 3) := by decide +kernel
theorem dX6_isCovered_16 : decode cX6_isCovered 16 = .ok (.aload_n 0, 1) := by decide +kernel
theorem dX6_isCovered_17 : decode cX6_isCovered 17 = .ok (.getfield 41, 3) := by decide +kernel
theorem dX6_isCovered_20 : decode cX6_isCovered 20 = .ok (.sipush 128, 3) := by decide +kernel
theorem dX6_isCovered_23 : decode cX6_isCovered 23 = .ok (.iload_n 3, 1) := by decide +kernel
theorem dX6_isCovered_24 : decode cX6_isCovered 24 = .ok (.imul, 1) := by decide +kernel
theorem dX6_isCovered_25 : decode cX6_isCovered 25 = .ok (.aload_n 0, 1) := by decide +kernel
theorem dX6_isCovered_26 : decode cX6_isCovered 26 = .ok (.iload_n 3, 1) := by decide +kernel
theorem dX6_isCovered_27 : decode cX6_isCovered 27 = .ok (.iload_n 1, 1) := by decide +kernel
theorem dX6_isCovered_28 : decode cX6_isCovered 28 = .ok (.invokevirtual 145, 3) := by decide +kernel
theorem dX6_isCovered_31 : decode cX6_isCovered 31 = .ok (.iadd, 1) := by decide +kernel
theorem dX6_isCovered_32 : decode cX6_isCovered 32 = .ok (.baload, 1) := by decide +kernel
theorem dX6_isCovered_33 : decode cX6_isCovered 33 = .ok (.ifCond .eq 7, 3) := by decide +kernel
theorem dX6_isCovered_36 : decode cX6_isCovered 36 = .ok (.iconst 1, 1) := by decide +kernel
theorem dX6_isCovered_37 : decode cX6_isCovered 37 = .ok (.goto 4, 3) := by decide +kernel
theorem dX6_isCovered_40 : decode cX6_isCovered 40 = .ok (.iconst 0, 1) := by decide +kernel
theorem dX6_isCovered_41 : decode cX6_isCovered 41 = .ok (.istore_n 2, 1) := by decide +kernel
theorem dX6_isCovered_42 : decode cX6_isCovered 42 = .ok (.iinc 3 1, 3) := by decide +kernel
theorem dX6_isCovered_45 : decode cX6_isCovered 45 = .ok (.goto (-41), 3) := by decide +kernel
theorem dX6_isCovered_48 : decode cX6_isCovered 48 = .ok (.iload_n 2, 1) := by decide +kernel
theorem dX6_isCovered_49 : decode cX6_isCovered 49 = .ok (.ireturn, 1) := by decide +kernel
theorem dX6_tollOf_0 : decode cX6_tollOf 0 = .ok (.iconst 0, 1) := by decide +kernel
theorem dX6_tollOf_1 : decode cX6_tollOf 1 = .ok (.istore_n 3, 1) := by decide +kernel
theorem dX6_tollOf_2 : decode cX6_tollOf 2 = .ok (.iload_n 2, 1) := by decide +kernel
theorem dX6_tollOf_3 : decode cX6_tollOf 3 = .ok (.istore 4, 2) := by decide +kernel
theorem dX6_tollOf_5 : decode cX6_tollOf 5 = .ok (.iload 4, 2) := by decide +kernel
theorem dX6_tollOf_7 : decode cX6_tollOf 7 = .ok (.iload_n 2, 1) := by decide +kernel
theorem dX6_tollOf_8 : decode cX6_tollOf 8 = .ok (.aload_n 0, 1) := by decide +kernel
theorem dX6_tollOf_9 : decode cX6_tollOf 9 = .ok (.getfield 28, 3) := by decide +kernel
theorem dX6_tollOf_12 : decode cX6_tollOf 12 = .ok (.iload_n 1, 1) := by decide +kernel
theorem dX6_tollOf_13 : decode cX6_tollOf 13 = .ok (.iaload, 1) := by decide +kernel
theorem dX6_tollOf_14 : decode cX6_tollOf 14 = .ok (.iadd, 1) := by decide +kernel
theorem dX6_tollOf_15 : decode cX6_tollOf 15 = .ok (.if_icmp .ge 27, 3) := by decide +kernel
theorem dX6_tollOf_18 : decode cX6_tollOf 18 = .ok (.iload 4, 2) := by decide +kernel
theorem dX6_tollOf_20 : decode cX6_tollOf 20 = .ok (.sipush 128, 3) := by decide +kernel
theorem dX6_tollOf_23 : decode cX6_tollOf 23 = .ok (.if_icmp .ge 19, 3) := by decide +kernel
theorem dX6_tollOf_26 : decode cX6_tollOf 26 = .ok (.iload_n 3, 1) := by decide +kernel
theorem dX6_tollOf_27 : decode cX6_tollOf 27 = .ok (.aload_n 0, 1) := by decide +kernel
theorem dX6_tollOf_28 : decode cX6_tollOf 28 = .ok (.getfield 38, 3) := by decide +kernel
theorem dX6_tollOf_31 : decode cX6_tollOf 31 = .ok (.iload 4, 2) := by decide +kernel
theorem dX6_tollOf_33 : decode cX6_tollOf 33 = .ok (.iaload, 1) := by decide +kernel
theorem dX6_tollOf_34 : decode cX6_tollOf 34 = .ok (.iadd, 1) := by decide +kernel
theorem dX6_tollOf_35 : decode cX6_tollOf 35 = .ok (.istore_n 3, 1) := by decide +kernel
theorem dX6_tollOf_36 : decode cX6_tollOf 36 = .ok (.iinc 4 1, 3) := by decide +kernel
theorem dX6_tollOf_39 : decode cX6_tollOf 39 = .ok (.goto (-34), 3) := by decide +kernel
theorem dX6_tollOf_42 : decode cX6_tollOf 42 = .ok (.iload_n 3, 1) := by decide +kernel
theorem dX6_tollOf_43 : decode cX6_tollOf 43 = .ok (.ireturn, 1) := by decide +kernel
theorem dX6_day_0 : decode cX6_day 0 = .ok (.aload_n 0, 1) := by decide +kernel
theorem dX6_day_1 : decode cX6_day 1 = .ok (.iconst 0, 1) := by decide +kernel
theorem dX6_day_2 : decode cX6_day 2 = .ok (.putfield 66, 3) := by decide +kernel
theorem dX6_day_5 : decode cX6_day 5 = .ok (.iload_n 1, 1) := by decide +kernel
theorem dX6_day_6 : decode cX6_day 6 = .ok (.invokestatic 149, 3) := by decide +kernel
theorem dX6_day_9 : decode cX6_day 9 = .ok (.ifCond .ne 6, 3) := by decide +kernel
theorem dX6_day_12 : decode cX6_day 12 = .ok (.ldc 85, 2) := by decide +kernel
theorem dX6_day_14 : decode cX6_day 14 = .ok (.ireturn, 1) := by decide +kernel
theorem dX6_day_15 : decode cX6_day 15 = .ok (.aload_n 0, 1) := by decide +kernel
theorem dX6_day_16 : decode cX6_day 16 = .ok (.getfield 140, 3) := by decide +kernel
theorem dX6_day_19 : decode cX6_day 19 = .ok (.ifCond .eq 11, 3) := by decide +kernel
theorem dX6_day_22 : decode cX6_day 22 = .ok (.iload_n 1, 1) := by decide +kernel
theorem dX6_day_23 : decode cX6_day 23 = .ok (.aload_n 0, 1) := by decide +kernel
theorem dX6_day_24 : decode cX6_day 24 = .ok (.getfield 44, 3) := by decide +kernel
theorem dX6_day_27 : decode cX6_day 27 = .ok (.if_icmp .gt 6, 3) := by decide +kernel
theorem dX6_day_30 : decode cX6_day 30 = .ok (.ldc 103, 2) := by decide +kernel
theorem dX6_day_32 : decode cX6_day 32 = .ok (.ireturn, 1) := by decide +kernel
theorem dX6_day_33 : decode cX6_day 33 = .ok (.aload_n 0, 1) := by decide +kernel
theorem dX6_day_34 : decode cX6_day 34 = .ok (.iload_n 1, 1) := by decide +kernel
theorem dX6_day_35 : decode cX6_day 35 = .ok (.putfield 44, 3) := by decide +kernel
theorem dX6_day_38 : decode cX6_day 38 = .ok (.aload_n 0, 1) := by decide +kernel
theorem dX6_day_39 : decode cX6_day 39 = .ok (.getfield 34, 3) := by decide +kernel
theorem dX6_day_42 : decode cX6_day 42 = .ok (.iload_n 1, 1) := by decide +kernel
theorem dX6_day_43 : decode cX6_day 43 = .ok (.iconst 1, 1) := by decide +kernel
theorem dX6_day_44 : decode cX6_day 44 = .ok (.bastore, 1) := by decide +kernel
theorem dX6_day_45 : decode cX6_day 45 = .ok (.aload_n 0, 1) := by decide +kernel
theorem dX6_day_46 : decode cX6_day 46 = .ok (.iload_n 1, 1) := by decide +kernel
theorem dX6_day_47 : decode cX6_day 47 = .ok (.invokevirtual 152, 3) := by decide +kernel
theorem dX6_day_50 : decode cX6_day 50 = .ok (.ifCond .eq 5, 3) := by decide +kernel
theorem dX6_day_53 : decode cX6_day 53 = .ok (.iconst 0, 1) := by decide +kernel
theorem dX6_day_54 : decode cX6_day 54 = .ok (.ireturn, 1) := by decide +kernel
theorem dX6_day_55 : decode cX6_day 55 = .ok (.ldc 107, 2) := by decide +kernel
theorem dX6_day_57 : decode cX6_day 57 = .ok (.istore_n 2, 1) := by decide +kernel
theorem dX6_day_58 : decode cX6_day 58 = .ok (.iconst 0, 1) := by decide +kernel
theorem dX6_day_59 : decode cX6_day 59 = .ok (.istore_n 3, 1) := by decide +kernel
theorem dX6_day_60 : decode cX6_day 60 = .ok (.iload_n 3, 1) := by decide +kernel
theorem dX6_day_61 : decode cX6_day 61 = .ok (.aload_n 0, 1) := by decide +kernel
theorem dX6_day_62 : decode cX6_day 62 = .ok (.getfield 140, 3) := by decide +kernel
theorem dX6_day_65 : decode cX6_day 65 = .ok (.if_icmp .ge 42, 3) := by decide +kernel
theorem dX6_day_68 : decode cX6_day 68 = .ok (.aload_n 0, 1) := by decide +kernel
theorem dX6_day_69 : decode cX6_day 69 = .ok (.getfield 31, 3) := by decide +kernel
theorem dX6_day_72 : decode cX6_day 72 = .ok (.iload_n 3, 1) := by decide +kernel
theorem dX6_day_73 : decode cX6_day 73 = .ok (.iaload, 1) := by decide +kernel
theorem dX6_day_74 : decode cX6_day 74 = .ok (.aload_n 0, 1) := by decide +kernel
theorem dX6_day_75 : decode cX6_day 75 = .ok (.iload_n 3, 1) := by decide +kernel
theorem dX6_day_76 : decode cX6_day 76 = .ok (.aload_n 0, 1) := by decide +kernel
theorem dX6_day_77 : decode cX6_day 77 = .ok (.iload_n 3, 1) := by decide +kernel
theorem dX6_day_78 : decode cX6_day 78 = .ok (.iload_n 1, 1) := by decide +kernel
theorem dX6_day_79 : decode cX6_day 79 = .ok (.invokevirtual 145, 3) := by decide +kernel
theorem dX6_day_82 : decode cX6_day 82 = .ok (.invokevirtual 155, 3) := by decide +kernel
theorem dX6_day_85 : decode cX6_day 85 = .ok (.isub, 1) := by decide +kernel
theorem dX6_day_86 : decode cX6_day 86 = .ok (.istore 4, 2) := by decide +kernel
theorem dX6_day_88 : decode cX6_day 88 = .ok (.iload 4, 2) := by decide +kernel
theorem dX6_day_90 : decode cX6_day 90 = .ok (.iload_n 2, 1) := by decide +kernel
theorem dX6_day_91 : decode cX6_day 91 = .ok (.if_icmp .ge 8, 3) := by decide +kernel
theorem dX6_day_94 : decode cX6_day 94 = .ok (.iload 4, 2) := by decide +kernel
theorem dX6_day_96 : decode cX6_day 96 = .ok (.goto 4, 3) := by decide +kernel
theorem dX6_day_99 : decode cX6_day 99 = .ok (.iload_n 2, 1) := by decide +kernel
theorem dX6_day_100 : decode cX6_day 100 = .ok (.istore_n 2, 1) := by decide +kernel
theorem dX6_day_101 : decode cX6_day 101 = .ok (.iinc 3 1, 3) := by decide +kernel
theorem dX6_day_104 : decode cX6_day 104 = .ok (.goto (-44), 3) := by decide +kernel
theorem dX6_day_107 : decode cX6_day 107 = .ok (.aload_n 0, 1) := by decide +kernel
theorem dX6_day_108 : decode cX6_day 108 = .ok (.getfield 38, 3) := by decide +kernel
theorem dX6_day_111 : decode cX6_day 111 = .ok (.iload_n 1, 1) := by decide +kernel
theorem dX6_day_112 : decode cX6_day 112 = .ok (.iload_n 2, 1) := by decide +kernel
theorem dX6_day_113 : decode cX6_day 113 = .ok (.iastore, 1) := by decide +kernel
theorem dX6_day_114 : decode cX6_day 114 = .ok (.iconst 0, 1) := by decide +kernel
theorem dX6_day_115 : decode cX6_day 115 = .ok (.istore_n 3, 1) := by decide +kernel
theorem dX6_day_116 : decode cX6_day 116 = .ok (.iconst 0, 1) := by decide +kernel
theorem dX6_day_117 : decode cX6_day 117 = .ok (.istore 4, 2) := by decide +kernel
theorem dX6_day_119 : decode cX6_day 119 = .ok (.iload 4, 2) := by decide +kernel
theorem dX6_day_121 : decode cX6_day 121 = .ok (.aload_n 0, 1) := by decide +kernel
theorem dX6_day_122 : decode cX6_day 122 = .ok (.getfield 140, 3) := by decide +kernel
theorem dX6_day_125 : decode cX6_day 125 = .ok (.if_icmp .ge 62, 3) := by decide +kernel
theorem dX6_day_128 : decode cX6_day 128 = .ok (.aload_n 0, 1) := by decide +kernel
theorem dX6_day_129 : decode cX6_day 129 = .ok (.iload 4, 2) := by decide +kernel
theorem dX6_day_131 : decode cX6_day 131 = .ok (.aload_n 0, 1) := by decide +kernel
theorem dX6_day_132 : decode cX6_day 132 = .ok (.iload 4, 2) := by decide +kernel
theorem dX6_day_134 : decode cX6_day 134 = .ok (.iload_n 1, 1) := by decide +kernel
theorem dX6_day_135 : decode cX6_day 135 = .ok (.invokevirtual 145, 3) := by decide +kernel
theorem dX6_day_138 : decode cX6_day 138 = .ok (.invokevirtual 155, 3) := by decide +kernel
theorem dX6_day_141 : decode cX6_day 141 = .ok (.aload_n 0, 1) := by decide +kernel
theorem dX6_day_142 : decode cX6_day 142 = .ok (.getfield 31, 3) := by decide +kernel
theorem dX6_day_145 : decode cX6_day 145 = .ok (.iload 4, 2) := by decide +kernel
theorem dX6_day_147 : decode cX6_day 147 = .ok (.iaload, 1) := by decide +kernel
theorem dX6_day_148 : decode cX6_day 148 = .ok (.if_icmp .ne 33, 3) := by decide +kernel
theorem dX6_day_151 : decode cX6_day 151 = .ok (.aload_n 0, 1) := by decide +kernel
theorem dX6_day_152 : decode cX6_day 152 = .ok (.getfield 41, 3) := by decide +kernel
theorem dX6_day_155 : decode cX6_day 155 = .ok (.sipush 128, 3) := by decide +kernel
theorem dX6_day_158 : decode cX6_day 158 = .ok (.iload 4, 2) := by decide +kernel
theorem dX6_day_160 : decode cX6_day 160 = .ok (.imul, 1) := by decide +kernel
theorem dX6_day_161 : decode cX6_day 161 = .ok (.aload_n 0, 1) := by decide +kernel
theorem dX6_day_162 : decode cX6_day 162 = .ok (.iload 4, 2) := by decide +kernel
theorem dX6_day_164 : decode cX6_day 164 = .ok (.iload_n 1, 1) := by decide +kernel
theorem dX6_day_165 : decode cX6_day 165 = .ok (.invokevirtual 145, 3) := by decide +kernel
theorem dX6_day_168 : decode cX6_day 168 = .ok (.iadd, 1) := by decide +kernel
theorem dX6_day_169 : decode cX6_day 169 = .ok (.iconst 1, 1) := by decide +kernel
theorem dX6_day_170 : decode cX6_day 170 = .ok (.bastore, 1) := by decide +kernel
theorem dX6_day_171 : decode cX6_day 171 = .ok (.iload_n 3, 1) := by decide +kernel
theorem dX6_day_172 : decode cX6_day 172 = .ok (.aload_n 0, 1) := by decide +kernel
theorem dX6_day_173 : decode cX6_day 173 = .ok (.getfield 31, 3) := by decide +kernel
theorem dX6_day_176 : decode cX6_day 176 = .ok (.iload 4, 2) := by decide +kernel
theorem dX6_day_178 : decode cX6_day 178 = .ok (.iaload, 1) := by decide +kernel
theorem dX6_day_179 : decode cX6_day 179 = .ok (.iadd, 1) := by decide +kernel
theorem dX6_day_180 : decode cX6_day 180 = .ok (.istore_n 3, 1) := by decide +kernel
theorem dX6_day_181 : decode cX6_day 181 = .ok (.iinc 4 1, 3) := by decide +kernel
theorem dX6_day_184 : decode cX6_day 184 = .ok (.goto (-65), 3) := by decide +kernel
theorem dX6_day_187 : decode cX6_day 187 = .ok (.aload_n 0, 1) := by decide +kernel
theorem dX6_day_188 : decode cX6_day 188 = .ok (.dup, 1) := by decide +kernel
theorem dX6_day_189 : decode cX6_day 189 = .ok (.getfield 158, 3) := by decide +kernel
theorem dX6_day_192 : decode cX6_day 192 = .ok (.iload_n 3, 1) := by decide +kernel
theorem dX6_day_193 : decode cX6_day 193 = .ok (.iadd, 1) := by decide +kernel
theorem dX6_day_194 : decode cX6_day 194 = .ok (.putfield 158, 3) := by decide +kernel
theorem dX6_day_197 : decode cX6_day 197 = .ok (.iload_n 3, 1) := by decide +kernel
theorem dX6_day_198 : decode cX6_day 198 = .ok (.ireturn, 1) := by decide +kernel
theorem dX6_bestOfLeases_0 : decode cX6_bestOfLeases 0 = .ok (.iconst 0, 1) := by decide +kernel
theorem dX6_bestOfLeases_1 : decode cX6_bestOfLeases 1 = .ok (.istore_n 1, 1) := by decide +kernel
theorem dX6_bestOfLeases_2 : decode cX6_bestOfLeases 2 = .ok (.iload_n 1, 1) := by decide +kernel
theorem dX6_bestOfLeases_3 : decode cX6_bestOfLeases 3 = .ok (.sipush 128, 3) := by decide +kernel
theorem dX6_bestOfLeases_6 : decode cX6_bestOfLeases 6 = .ok (.if_icmp .ge 16, 3) := by decide +kernel
theorem dX6_bestOfLeases_9 : decode cX6_bestOfLeases 9 = .ok (.aload_n 0, 1) := by decide +kernel
theorem dX6_bestOfLeases_10 : decode cX6_bestOfLeases 10 = .ok (.getfield 48, 3) := by decide +kernel
theorem dX6_bestOfLeases_13 : decode cX6_bestOfLeases 13 = .ok (.iload_n 1, 1) := by decide +kernel
theorem dX6_bestOfLeases_14 : decode cX6_bestOfLeases 14 = .ok (.iconst 0, 1) := by decide +kernel
theorem dX6_bestOfLeases_15 : decode cX6_bestOfLeases 15 = .ok (.iastore, 1) := by decide +kernel
theorem dX6_bestOfLeases_16 : decode cX6_bestOfLeases 16 = .ok (.iinc 1 1, 3) := by decide +kernel
theorem dX6_bestOfLeases_19 : decode cX6_bestOfLeases 19 = .ok (.goto (-17), 3) := by decide +kernel
theorem dX6_bestOfLeases_22 : decode cX6_bestOfLeases 22 = .ok (.iconst 0, 1) := by decide +kernel
theorem dX6_bestOfLeases_23 : decode cX6_bestOfLeases 23 = .ok (.istore_n 1, 1) := by decide +kernel
theorem dX6_bestOfLeases_24 : decode cX6_bestOfLeases 24 = .ok (.iload_n 1, 1) := by decide +kernel
theorem dX6_bestOfLeases_25 : decode cX6_bestOfLeases 25 = .ok (.sipush 128, 3) := by decide +kernel
theorem dX6_bestOfLeases_28 : decode cX6_bestOfLeases 28 = .ok (.if_icmp .ge 42, 3) := by decide +kernel
theorem dX6_bestOfLeases_31 : decode cX6_bestOfLeases 31 = .ok (.aload_n 0, 1) := by decide +kernel
theorem dX6_bestOfLeases_32 : decode cX6_bestOfLeases 32 = .ok (.getfield 140, 3) := by decide +kernel
theorem dX6_bestOfLeases_35 : decode cX6_bestOfLeases 35 = .ok (.ifCond .le 35, 3) := by decide +kernel
theorem dX6_bestOfLeases_38 : decode cX6_bestOfLeases 38 = .ok (.aload_n 0, 1) := by decide +kernel
theorem dX6_bestOfLeases_39 : decode cX6_bestOfLeases 39 = .ok (.getfield 34, 3) := by decide +kernel
theorem dX6_bestOfLeases_42 : decode cX6_bestOfLeases 42 = .ok (.iload_n 1, 1) := by decide +kernel
theorem dX6_bestOfLeases_43 : decode cX6_bestOfLeases 43 = .ok (.baload, 1) := by decide +kernel
theorem dX6_bestOfLeases_44 : decode cX6_bestOfLeases 44 = .ok (.ifCond .eq 20, 3) := by decide +kernel
theorem dX6_bestOfLeases_47 : decode cX6_bestOfLeases 47 = .ok (.aload_n 0, 1) := by decide +kernel
theorem dX6_bestOfLeases_48 : decode cX6_bestOfLeases 48 = .ok (.getfield 48, 3) := by decide +kernel
theorem dX6_bestOfLeases_51 : decode cX6_bestOfLeases 51 = .ok (.aload_n 0, 1) := by decide +kernel
theorem dX6_bestOfLeases_52 : decode cX6_bestOfLeases 52 = .ok (.iconst 0, 1) := by decide +kernel
theorem dX6_bestOfLeases_53 : decode cX6_bestOfLeases 53 = .ok (.iload_n 1, 1) := by decide +kernel
theorem dX6_bestOfLeases_54 : decode cX6_bestOfLeases 54 = .ok (.invokevirtual 145, 3) := by decide +kernel
theorem dX6_bestOfLeases_57 : decode cX6_bestOfLeases 57 = .ok (.aload_n 0, 1) := by decide +kernel
theorem dX6_bestOfLeases_58 : decode cX6_bestOfLeases 58 = .ok (.getfield 31, 3) := by decide +kernel
theorem dX6_bestOfLeases_61 : decode cX6_bestOfLeases 61 = .ok (.iconst 0, 1) := by decide +kernel
theorem dX6_bestOfLeases_62 : decode cX6_bestOfLeases 62 = .ok (.iaload, 1) := by decide +kernel
theorem dX6_bestOfLeases_63 : decode cX6_bestOfLeases 63 = .ok (.iastore, 1) := by decide +kernel
theorem dX6_bestOfLeases_64 : decode cX6_bestOfLeases 64 = .ok (.iinc 1 1, 3) := by decide +kernel
theorem dX6_bestOfLeases_67 : decode cX6_bestOfLeases 67 = .ok (.goto (-43), 3) := by decide +kernel
theorem dX6_bestOfLeases_70 : decode cX6_bestOfLeases 70 = .ok (.aload_n 0, 1) := by decide +kernel
theorem dX6_bestOfLeases_71 : decode cX6_bestOfLeases 71 = .ok (.getfield 140, 3) := by decide +kernel
theorem dX6_bestOfLeases_74 : decode cX6_bestOfLeases 74 = .ok (.ifCond .le 12, 3) := by decide +kernel
theorem dX6_bestOfLeases_77 : decode cX6_bestOfLeases 77 = .ok (.aload_n 0, 1) := by decide +kernel
theorem dX6_bestOfLeases_78 : decode cX6_bestOfLeases 78 = .ok (.getfield 28, 3) := by decide +kernel
theorem dX6_bestOfLeases_81 : decode cX6_bestOfLeases 81 = .ok (.iconst 0, 1) := by decide +kernel
theorem dX6_bestOfLeases_82 : decode cX6_bestOfLeases 82 = .ok (.iaload, 1) := by decide +kernel
theorem dX6_bestOfLeases_83 : decode cX6_bestOfLeases 83 = .ok (.goto 4, 3) := by decide +kernel
theorem dX6_bestOfLeases_86 : decode cX6_bestOfLeases 86 = .ok (.iconst 1, 1) := by decide +kernel
theorem dX6_bestOfLeases_87 : decode cX6_bestOfLeases 87 = .ok (.istore_n 1, 1) := by decide +kernel
theorem dX6_bestOfLeases_88 : decode cX6_bestOfLeases 88 = .ok (.iconst 1, 1) := by decide +kernel
theorem dX6_bestOfLeases_89 : decode cX6_bestOfLeases 89 = .ok (.istore_n 2, 1) := by decide +kernel
theorem dX6_bestOfLeases_90 : decode cX6_bestOfLeases 90 = .ok (.iload_n 2, 1) := by decide +kernel
theorem dX6_bestOfLeases_91 : decode cX6_bestOfLeases 91 = .ok (.aload_n 0, 1) := by decide +kernel
theorem dX6_bestOfLeases_92 : decode cX6_bestOfLeases 92 = .ok (.getfield 140, 3) := by decide +kernel
theorem dX6_bestOfLeases_95 : decode cX6_bestOfLeases 95 = .ok (.if_icmp .ge 121, 3) := by decide +kernel
theorem dX6_bestOfLeases_98 : decode cX6_bestOfLeases 98 = .ok (.iconst 0, 1) := by decide +kernel
theorem dX6_bestOfLeases_99 : decode cX6_bestOfLeases 99 = .ok (.istore_n 3, 1) := by decide +kernel
theorem dX6_bestOfLeases_100 : decode cX6_bestOfLeases 100 = .ok (.iload_n 3, 1) := by decide +kernel
theorem dX6_bestOfLeases_101 : decode cX6_bestOfLeases 101 = .ok (.sipush 128, 3) := by decide +kernel
theorem dX6_bestOfLeases_104 : decode cX6_bestOfLeases 104 = .ok (.if_icmp .ge 99, 3) := by decide +kernel
theorem dX6_bestOfLeases_107 : decode cX6_bestOfLeases 107 = .ok (.iconst 0, 1) := by decide +kernel
theorem dX6_bestOfLeases_108 : decode cX6_bestOfLeases 108 = .ok (.istore 4, 2) := by decide +kernel
theorem dX6_bestOfLeases_110 : decode cX6_bestOfLeases 110 = .ok (.iload_n 3, 1) := by decide +kernel
theorem dX6_bestOfLeases_111 : decode cX6_bestOfLeases 111 = .ok (.istore 5, 2) := by decide +kernel
theorem dX6_bestOfLeases_113 : decode cX6_bestOfLeases 113 = .ok (.iload 5, 2) := by decide +kernel
theorem dX6_bestOfLeases_115 : decode cX6_bestOfLeases 115 = .ok (.iload_n 3, 1) := by decide +kernel
theorem dX6_bestOfLeases_116 : decode cX6_bestOfLeases 116 = .ok (.aload_n 0, 1) := by decide +kernel
theorem dX6_bestOfLeases_117 : decode cX6_bestOfLeases 117 = .ok (.getfield 28, 3) := by decide +kernel
theorem dX6_bestOfLeases_120 : decode cX6_bestOfLeases 120 = .ok (.iload_n 2, 1) := by decide +kernel
theorem dX6_bestOfLeases_121 : decode cX6_bestOfLeases 121 = .ok (.iaload, 1) := by decide +kernel
theorem dX6_bestOfLeases_122 : decode cX6_bestOfLeases 122 = .ok (.iadd, 1) := by decide +kernel
theorem dX6_bestOfLeases_123 : decode cX6_bestOfLeases 123 = .ok (.if_icmp .ge 40, 3) := by decide +kernel
theorem dX6_bestOfLeases_126 : decode cX6_bestOfLeases 126 = .ok (.iload 5, 2) := by decide +kernel
theorem dX6_bestOfLeases_128 : decode cX6_bestOfLeases 128 = .ok (.sipush 128, 3) := by decide +kernel
theorem dX6_bestOfLeases_131 : decode cX6_bestOfLeases 131 = .ok (.if_icmp .ge 32, 3) := by decide +kernel
theorem dX6_bestOfLeases_134 : decode cX6_bestOfLeases 134 = .ok (.iload 4, 2) := by decide +kernel
theorem dX6_bestOfLeases_136 : decode cX6_bestOfLeases 136 = .ok (.aload_n 0, 1) := by decide +kernel
theorem dX6_bestOfLeases_137 : decode cX6_bestOfLeases 137 = .ok (.getfield 48, 3) := by decide +kernel
theorem dX6_bestOfLeases_140 : decode cX6_bestOfLeases 140 = .ok (.iload 5, 2) := by decide +kernel
theorem dX6_bestOfLeases_142 : decode cX6_bestOfLeases 142 = .ok (.iaload, 1) := by decide +kernel
theorem dX6_bestOfLeases_143 : decode cX6_bestOfLeases 143 = .ok (.iadd, 1) := by decide +kernel
theorem dX6_bestOfLeases_144 : decode cX6_bestOfLeases 144 = .ok (.istore 4, 2) := by decide +kernel
theorem dX6_bestOfLeases_146 : decode cX6_bestOfLeases 146 = .ok (.aload_n 0, 1) := by decide +kernel
theorem dX6_bestOfLeases_147 : decode cX6_bestOfLeases 147 = .ok (.getfield 48, 3) := by decide +kernel
theorem dX6_bestOfLeases_150 : decode cX6_bestOfLeases 150 = .ok (.iload 5, 2) := by decide +kernel
theorem dX6_bestOfLeases_152 : decode cX6_bestOfLeases 152 = .ok (.iconst 0, 1) := by decide +kernel
theorem dX6_bestOfLeases_153 : decode cX6_bestOfLeases 153 = .ok (.iastore, 1) := by decide +kernel
theorem dX6_bestOfLeases_154 : decode cX6_bestOfLeases 154 = .ok (.iload 5, 2) := by decide +kernel
theorem dX6_bestOfLeases_156 : decode cX6_bestOfLeases 156 = .ok (.iload_n 1, 1) := by decide +kernel
theorem dX6_bestOfLeases_157 : decode cX6_bestOfLeases 157 = .ok (.iadd, 1) := by decide +kernel
theorem dX6_bestOfLeases_158 : decode cX6_bestOfLeases 158 = .ok (.istore 5, 2) := by decide +kernel
theorem dX6_bestOfLeases_160 : decode cX6_bestOfLeases 160 = .ok (.goto (-47), 3) := by decide +kernel
theorem dX6_bestOfLeases_163 : decode cX6_bestOfLeases 163 = .ok (.aload_n 0, 1) := by decide +kernel
theorem dX6_bestOfLeases_164 : decode cX6_bestOfLeases 164 = .ok (.getfield 48, 3) := by decide +kernel
theorem dX6_bestOfLeases_167 : decode cX6_bestOfLeases 167 = .ok (.iload_n 3, 1) := by decide +kernel
theorem dX6_bestOfLeases_168 : decode cX6_bestOfLeases 168 = .ok (.iload 4, 2) := by decide +kernel
theorem dX6_bestOfLeases_170 : decode cX6_bestOfLeases 170 = .ok (.aload_n 0, 1) := by decide +kernel
theorem dX6_bestOfLeases_171 : decode cX6_bestOfLeases 171 = .ok (.getfield 31, 3) := by decide +kernel
theorem dX6_bestOfLeases_174 : decode cX6_bestOfLeases 174 = .ok (.iload_n 2, 1) := by decide +kernel
theorem dX6_bestOfLeases_175 : decode cX6_bestOfLeases 175 = .ok (.iaload, 1) := by decide +kernel
theorem dX6_bestOfLeases_176 : decode cX6_bestOfLeases 176 = .ok (.if_icmp .ge 8, 3) := by decide +kernel
theorem dX6_bestOfLeases_179 : decode cX6_bestOfLeases 179 = .ok (.iload 4, 2) := by decide +kernel
theorem dX6_bestOfLeases_181 : decode cX6_bestOfLeases 181 = .ok (.goto 9, 3) := by decide +kernel
theorem dX6_bestOfLeases_184 : decode cX6_bestOfLeases 184 = .ok (.aload_n 0, 1) := by decide +kernel
theorem dX6_bestOfLeases_185 : decode cX6_bestOfLeases 185 = .ok (.getfield 31, 3) := by decide +kernel
theorem dX6_bestOfLeases_188 : decode cX6_bestOfLeases 188 = .ok (.iload_n 2, 1) := by decide +kernel
theorem dX6_bestOfLeases_189 : decode cX6_bestOfLeases 189 = .ok (.iaload, 1) := by decide +kernel
theorem dX6_bestOfLeases_190 : decode cX6_bestOfLeases 190 = .ok (.iastore, 1) := by decide +kernel
theorem dX6_bestOfLeases_191 : decode cX6_bestOfLeases 191 = .ok (.iload_n 3, 1) := by decide +kernel
theorem dX6_bestOfLeases_192 : decode cX6_bestOfLeases 192 = .ok (.aload_n 0, 1) := by decide +kernel
theorem dX6_bestOfLeases_193 : decode cX6_bestOfLeases 193 = .ok (.getfield 28, 3) := by decide +kernel
theorem dX6_bestOfLeases_196 : decode cX6_bestOfLeases 196 = .ok (.iload_n 2, 1) := by decide +kernel
theorem dX6_bestOfLeases_197 : decode cX6_bestOfLeases 197 = .ok (.iaload, 1) := by decide +kernel
theorem dX6_bestOfLeases_198 : decode cX6_bestOfLeases 198 = .ok (.iadd, 1) := by decide +kernel
theorem dX6_bestOfLeases_199 : decode cX6_bestOfLeases 199 = .ok (.istore_n 3, 1) := by decide +kernel
theorem dX6_bestOfLeases_200 : decode cX6_bestOfLeases 200 = .ok (.goto (-100), 3) := by decide +kernel
theorem dX6_bestOfLeases_203 : decode cX6_bestOfLeases 203 = .ok (.aload_n 0, 1) := by decide +kernel
theorem dX6_bestOfLeases_204 : decode cX6_bestOfLeases 204 = .ok (.getfield 28, 3) := by decide +kernel
theorem dX6_bestOfLeases_207 : decode cX6_bestOfLeases 207 = .ok (.iload_n 2, 1) := by decide +kernel
theorem dX6_bestOfLeases_208 : decode cX6_bestOfLeases 208 = .ok (.iaload, 1) := by decide +kernel
theorem dX6_bestOfLeases_209 : decode cX6_bestOfLeases 209 = .ok (.istore_n 1, 1) := by decide +kernel
theorem dX6_bestOfLeases_210 : decode cX6_bestOfLeases 210 = .ok (.iinc 2 1, 3) := by decide +kernel
theorem dX6_bestOfLeases_213 : decode cX6_bestOfLeases 213 = .ok (.goto (-123), 3) := by decide +kernel
theorem dX6_bestOfLeases_216 : decode cX6_bestOfLeases 216 = .ok (.iconst 0, 1) := by decide +kernel
theorem dX6_bestOfLeases_217 : decode cX6_bestOfLeases 217 = .ok (.istore_n 2, 1) := by decide +kernel
theorem dX6_bestOfLeases_218 : decode cX6_bestOfLeases 218 = .ok (.iconst 0, 1) := by decide +kernel
theorem dX6_bestOfLeases_219 : decode cX6_bestOfLeases 219 = .ok (.istore_n 3, 1) := by decide +kernel
theorem dX6_bestOfLeases_220 : decode cX6_bestOfLeases 220 = .ok (.iload_n 3, 1) := by decide +kernel
theorem dX6_bestOfLeases_221 : decode cX6_bestOfLeases 221 = .ok (.sipush 128, 3) := by decide +kernel
theorem dX6_bestOfLeases_224 : decode cX6_bestOfLeases 224 = .ok (.if_icmp .ge 18, 3) := by decide +kernel
theorem dX6_bestOfLeases_227 : decode cX6_bestOfLeases 227 = .ok (.iload_n 2, 1) := by decide +kernel
theorem dX6_bestOfLeases_228 : decode cX6_bestOfLeases 228 = .ok (.aload_n 0, 1) := by decide +kernel
theorem dX6_bestOfLeases_229 : decode cX6_bestOfLeases 229 = .ok (.getfield 48, 3) := by decide +kernel
theorem dX6_bestOfLeases_232 : decode cX6_bestOfLeases 232 = .ok (.iload_n 3, 1) := by decide +kernel
theorem dX6_bestOfLeases_233 : decode cX6_bestOfLeases 233 = .ok (.iaload, 1) := by decide +kernel
theorem dX6_bestOfLeases_234 : decode cX6_bestOfLeases 234 = .ok (.iadd, 1) := by decide +kernel
theorem dX6_bestOfLeases_235 : decode cX6_bestOfLeases 235 = .ok (.istore_n 2, 1) := by decide +kernel
theorem dX6_bestOfLeases_236 : decode cX6_bestOfLeases 236 = .ok (.iinc 3 1, 3) := by decide +kernel
theorem dX6_bestOfLeases_239 : decode cX6_bestOfLeases 239 = .ok (.goto (-19), 3) := by decide +kernel
theorem dX6_bestOfLeases_242 : decode cX6_bestOfLeases 242 = .ok (.iload_n 2, 1) := by decide +kernel
theorem dX6_bestOfLeases_243 : decode cX6_bestOfLeases 243 = .ok (.ireturn, 1) := by decide +kernel
theorem dX6_leases_0 : decode cX6_leases 0 = .ok (.aload_n 0, 1) := by decide +kernel
theorem dX6_leases_1 : decode cX6_leases 1 = .ok (.iconst 0, 1) := by decide +kernel
theorem dX6_leases_2 : decode cX6_leases 2 = .ok (.putfield 66, 3) := by decide +kernel
theorem dX6_leases_5 : decode cX6_leases 5 = .ok (.iload_n 1, 1) := by decide +kernel
theorem dX6_leases_6 : decode cX6_leases 6 = .ok (.i2l, 1) := by decide +kernel
theorem dX6_leases_7 : decode cX6_leases 7 = .ok (.lconst 0, 1) := by decide +kernel
theorem dX6_leases_8 : decode cX6_leases 8 = .ok (.ldc2_w 161, 3) := by decide +kernel
theorem dX6_leases_11 : decode cX6_leases 11 = .ok (.invokestatic 75, 3) := by decide +kernel
theorem dX6_leases_14 : decode cX6_leases 14 = .ok (.ifCond .ne 6, 3) := by decide +kernel
theorem dX6_leases_17 : decode cX6_leases 17 = .ok (.ldc 85, 2) := by decide +kernel
theorem dX6_leases_19 : decode cX6_leases 19 = .ok (.ireturn, 1) := by decide +kernel
theorem dX6_leases_20 : decode cX6_leases 20 = .ok (.iconst 0, 1) := by decide +kernel
theorem dX6_leases_21 : decode cX6_leases 21 = .ok (.istore_n 2, 1) := by decide +kernel
theorem dX6_leases_22 : decode cX6_leases 22 = .ok (.iconst 0, 1) := by decide +kernel
theorem dX6_leases_23 : decode cX6_leases 23 = .ok (.istore_n 3, 1) := by decide +kernel
theorem dX6_leases_24 : decode cX6_leases 24 = .ok (.iload_n 3, 1) := by decide +kernel
theorem dX6_leases_25 : decode cX6_leases 25 = .ok (.sipush 128, 3) := by decide +kernel
theorem dX6_leases_28 : decode cX6_leases 28 = .ok (.if_icmp .ge 45, 3) := by decide +kernel
theorem dX6_leases_31 : decode cX6_leases 31 = .ok (.iload_n 2, 1) := by decide +kernel
theorem dX6_leases_32 : decode cX6_leases 32 = .ok (.iload_n 1, 1) := by decide +kernel
theorem dX6_leases_33 : decode cX6_leases 33 = .ok (.iconst 1, 1) := by decide +kernel
theorem dX6_leases_34 : decode cX6_leases 34 = .ok (.if_icmp .ne 12, 3) := by decide +kernel
theorem dX6_leases_37 : decode cX6_leases 37 = .ok (.aload_n 0, 1) := by decide +kernel
theorem dX6_leases_38 : decode cX6_leases 38 = .ok (.getfield 38, 3) := by decide +kernel
theorem dX6_leases_41 : decode cX6_leases 41 = .ok (.iload_n 3, 1) := by decide +kernel
theorem dX6_leases_42 : decode cX6_leases 42 = .ok (.iaload, 1) := by decide +kernel
theorem dX6_leases_43 : decode cX6_leases 43 = .ok (.goto 22, 3) := by decide +kernel
theorem dX6_leases_46 : decode cX6_leases 46 = .ok (.iload_n 1, 1) := by decide +kernel
theorem dX6_leases_47 : decode cX6_leases 47 = .ok (.iconst 3, 1) := by decide +kernel
theorem dX6_leases_48 : decode cX6_leases 48 = .ok (.if_icmp .ne 16, 3) := by decide +kernel
theorem dX6_leases_51 : decode cX6_leases 51 = .ok (.aload_n 0, 1) := by decide +kernel
theorem dX6_leases_52 : decode cX6_leases 52 = .ok (.getfield 34, 3) := by decide +kernel
theorem dX6_leases_55 : decode cX6_leases 55 = .ok (.iload_n 3, 1) := by decide +kernel
theorem dX6_leases_56 : decode cX6_leases 56 = .ok (.baload, 1) := by decide +kernel
theorem dX6_leases_57 : decode cX6_leases 57 = .ok (.ifCond .eq 7, 3) := by decide +kernel
theorem dX6_leases_60 : decode cX6_leases 60 = .ok (.iconst 1, 1) := by decide +kernel
theorem dX6_leases_61 : decode cX6_leases 61 = .ok (.goto 4, 3) := by decide +kernel
theorem dX6_leases_64 : decode cX6_leases 64 = .ok (.iconst 0, 1) := by decide +kernel
theorem dX6_leases_65 : decode cX6_leases 65 = .ok (.iadd, 1) := by decide +kernel
theorem dX6_leases_66 : decode cX6_leases 66 = .ok (.istore_n 2, 1) := by decide +kernel
theorem dX6_leases_67 : decode cX6_leases 67 = .ok (.iinc 3 1, 3) := by decide +kernel
theorem dX6_leases_70 : decode cX6_leases 70 = .ok (.goto (-46), 3) := by decide +kernel
theorem dX6_leases_73 : decode cX6_leases 73 = .ok (.iconst 0, 1) := by decide +kernel
theorem dX6_leases_74 : decode cX6_leases 74 = .ok (.istore_n 3, 1) := by decide +kernel
theorem dX6_leases_75 : decode cX6_leases 75 = .ok (.iload_n 3, 1) := by decide +kernel
theorem dX6_leases_76 : decode cX6_leases 76 = .ok (.sipush 512, 3) := by decide +kernel
theorem dX6_leases_79 : decode cX6_leases 79 = .ok (.if_icmp .ge 31, 3) := by decide +kernel
theorem dX6_leases_82 : decode cX6_leases 82 = .ok (.iload_n 1, 1) := by decide +kernel
theorem dX6_leases_83 : decode cX6_leases 83 = .ok (.iconst 4, 1) := by decide +kernel
theorem dX6_leases_84 : decode cX6_leases 84 = .ok (.if_icmp .ne 26, 3) := by decide +kernel
theorem dX6_leases_87 : decode cX6_leases 87 = .ok (.iload_n 2, 1) := by decide +kernel
theorem dX6_leases_88 : decode cX6_leases 88 = .ok (.aload_n 0, 1) := by decide +kernel
theorem dX6_leases_89 : decode cX6_leases 89 = .ok (.getfield 41, 3) := by decide +kernel
theorem dX6_leases_92 : decode cX6_leases 92 = .ok (.iload_n 3, 1) := by decide +kernel
theorem dX6_leases_93 : decode cX6_leases 93 = .ok (.baload, 1) := by decide +kernel
theorem dX6_leases_94 : decode cX6_leases 94 = .ok (.ifCond .eq 7, 3) := by decide +kernel
theorem dX6_leases_97 : decode cX6_leases 97 = .ok (.iconst 1, 1) := by decide +kernel
theorem dX6_leases_98 : decode cX6_leases 98 = .ok (.goto 4, 3) := by decide +kernel
theorem dX6_leases_101 : decode cX6_leases 101 = .ok (.iconst 0, 1) := by decide +kernel
theorem dX6_leases_102 : decode cX6_leases 102 = .ok (.iadd, 1) := by decide +kernel
theorem dX6_leases_103 : decode cX6_leases 103 = .ok (.istore_n 2, 1) := by decide +kernel
theorem dX6_leases_104 : decode cX6_leases 104 = .ok (.iinc 3 1, 3) := by decide +kernel
theorem dX6_leases_107 : decode cX6_leases 107 = .ok (.goto (-32), 3) := by decide +kernel
theorem dX6_leases_110 : decode cX6_leases 110 = .ok (.iload_n 1, 1) := by decide +kernel
theorem dX6_leases_111 : decode cX6_leases 111 = .ok (.ifCond .ne 10, 3) := by decide +kernel
theorem dX6_leases_114 : decode cX6_leases 114 = .ok (.aload_n 0, 1) := by decide +kernel
theorem dX6_leases_115 : decode cX6_leases 115 = .ok (.getfield 158, 3) := by decide +kernel
theorem dX6_leases_118 : decode cX6_leases 118 = .ok (.goto 16, 3) := by decide +kernel
theorem dX6_leases_121 : decode cX6_leases 121 = .ok (.iload_n 1, 1) := by decide +kernel
theorem dX6_leases_122 : decode cX6_leases 122 = .ok (.iconst 2, 1) := by decide +kernel
theorem dX6_leases_123 : decode cX6_leases 123 = .ok (.if_icmp .ne 10, 3) := by decide +kernel
theorem dX6_leases_126 : decode cX6_leases 126 = .ok (.aload_n 0, 1) := by decide +kernel
theorem dX6_leases_127 : decode cX6_leases 127 = .ok (.invokevirtual 163, 3) := by decide +kernel
theorem dX6_leases_130 : decode cX6_leases 130 = .ok (.goto 4, 3) := by decide +kernel
theorem dX6_leases_133 : decode cX6_leases 133 = .ok (.iload_n 2, 1) := by decide +kernel
theorem dX6_leases_134 : decode cX6_leases 134 = .ok (.ireturn, 1) := by decide +kernel
theorem dX6_covered_0 : decode cX6_covered 0 = .ok (.aload_n 0, 1) := by decide +kernel
theorem dX6_covered_1 : decode cX6_covered 1 = .ok (.iconst 0, 1) := by decide +kernel
theorem dX6_covered_2 : decode cX6_covered 2 = .ok (.putfield 66, 3) := by decide +kernel
theorem dX6_covered_5 : decode cX6_covered 5 = .ok (.iload_n 1, 1) := by decide +kernel
theorem dX6_covered_6 : decode cX6_covered 6 = .ok (.invokestatic 149, 3) := by decide +kernel
theorem dX6_covered_9 : decode cX6_covered 9 = .ok (.ifCond .ne 8, 3) := by decide +kernel
theorem dX6_covered_12 : decode cX6_covered 12 = .ok (.ldc 85, 2) := by decide +kernel
theorem dX6_covered_14 : decode cX6_covered 14 = .ok (.goto 16, 3) := by decide +kernel
theorem dX6_covered_17 : decode cX6_covered 17 = .ok (.aload_n 0, 1) := by decide +kernel
theorem dX6_covered_18 : decode cX6_covered 18 = .ok (.iload_n 1, 1) := by decide +kernel
theorem dX6_covered_19 : decode cX6_covered 19 = .ok (.invokevirtual 152, 3) := by decide +kernel
theorem dX6_covered_22 : decode cX6_covered 22 = .ok (.ifCond .eq 7, 3) := by decide +kernel
theorem dX6_covered_25 : decode cX6_covered 25 = .ok (.iconst 1, 1) := by decide +kernel
theorem dX6_covered_26 : decode cX6_covered 26 = .ok (.goto 4, 3) := by decide +kernel
theorem dX6_covered_29 : decode cX6_covered 29 = .ok (.iconst 0, 1) := by decide +kernel
theorem dX6_covered_30 : decode cX6_covered 30 = .ok (.ireturn, 1) := by decide +kernel
theorem dX6_isSite_0 : decode cX6_isSite 0 = .ok (.iload_n 1, 1) := by decide +kernel
theorem dX6_isSite_1 : decode cX6_isSite 1 = .ok (.i2l, 1) := by decide +kernel
theorem dX6_isSite_2 : decode cX6_isSite 2 = .ok (.lconst 0, 1) := by decide +kernel
theorem dX6_isSite_3 : decode cX6_isSite 3 = .ok (.aload_n 0, 1) := by decide +kernel
theorem dX6_isSite_4 : decode cX6_isSite 4 = .ok (.getfield 166, 3) := by decide +kernel
theorem dX6_isSite_7 : decode cX6_isSite 7 = .ok (.iconst 1, 1) := by decide +kernel
theorem dX6_isSite_8 : decode cX6_isSite 8 = .ok (.isub, 1) := by decide +kernel
theorem dX6_isSite_9 : decode cX6_isSite 9 = .ok (.i2l, 1) := by decide +kernel
theorem dX6_isSite_10 : decode cX6_isSite 10 = .ok (.invokestatic 75, 3) := by decide +kernel
theorem dX6_isSite_13 : decode cX6_isSite 13 = .ok (.ireturn, 1) := by decide +kernel
theorem dX6_site_0 : decode cX6_site 0 = .ok (.aload_n 0, 1) := by decide +kernel
theorem dX6_site_1 : decode cX6_site 1 = .ok (.iconst 0, 1) := by decide +kernel
theorem dX6_site_2 : decode cX6_site 2 = .ok (.putfield 66, 3) := by decide +kernel
theorem dX6_site_5 : decode cX6_site 5 = .ok (.aload_n 0, 1) := by decide +kernel
theorem dX6_site_6 : decode cX6_site 6 = .ok (.getfield 166, 3) := by decide +kernel
theorem dX6_site_9 : decode cX6_site 9 = .ok (.bipush 10, 2) := by decide +kernel
theorem dX6_site_11 : decode cX6_site 11 = .ok (.if_icmp .ne 6, 3) := by decide +kernel
theorem dX6_site_14 : decode cX6_site 14 = .ok (.ldc 104, 2) := by decide +kernel
theorem dX6_site_16 : decode cX6_site 16 = .ok (.ireturn, 1) := by decide +kernel
theorem dX6_site_17 : decode cX6_site 17 = .ok (.aload_n 0, 1) := by decide +kernel
theorem dX6_site_18 : decode cX6_site 18 = .ok (.dup, 1) := by decide +kernel
theorem dX6_site_19 : decode cX6_site 19 = .ok (.getfield 166, 3) := by decide +kernel
theorem dX6_site_22 : decode cX6_site 22 = .ok (.iconst 1, 1) := by decide +kernel
theorem dX6_site_23 : decode cX6_site 23 = .ok (.iadd, 1) := by decide +kernel
theorem dX6_site_24 : decode cX6_site 24 = .ok (.putfield 166, 3) := by decide +kernel
theorem dX6_site_27 : decode cX6_site 27 = .ok (.aload_n 0, 1) := by decide +kernel
theorem dX6_site_28 : decode cX6_site 28 = .ok (.getfield 166, 3) := by decide +kernel
theorem dX6_site_31 : decode cX6_site 31 = .ok (.iconst 1, 1) := by decide +kernel
theorem dX6_site_32 : decode cX6_site 32 = .ok (.isub, 1) := by decide +kernel
theorem dX6_site_33 : decode cX6_site 33 = .ok (.ireturn, 1) := by decide +kernel
theorem dX6_way_0 : decode cX6_way 0 = .ok (.aload_n 0, 1) := by decide +kernel
theorem dX6_way_1 : decode cX6_way 1 = .ok (.iconst 0, 1) := by decide +kernel
theorem dX6_way_2 : decode cX6_way 2 = .ok (.putfield 66, 3) := by decide +kernel
theorem dX6_way_5 : decode cX6_way 5 = .ok (.aload_n 0, 1) := by decide +kernel
theorem dX6_way_6 : decode cX6_way 6 = .ok (.iload_n 1, 1) := by decide +kernel
theorem dX6_way_7 : decode cX6_way 7 = .ok (.invokevirtual 169, 3) := by decide +kernel
theorem dX6_way_10 : decode cX6_way 10 = .ok (.ifCond .eq 28, 3) := by decide +kernel
theorem dX6_way_13 : decode cX6_way 13 = .ok (.aload_n 0, 1) := by decide +kernel
theorem dX6_way_14 : decode cX6_way 14 = .ok (.iload_n 2, 1) := by decide +kernel
theorem dX6_way_15 : decode cX6_way 15 = .ok (.invokevirtual 169, 3) := by decide +kernel
theorem dX6_way_18 : decode cX6_way 18 = .ok (.ifCond .eq 20, 3) := by decide +kernel
theorem dX6_way_21 : decode cX6_way 21 = .ok (.iload_n 1, 1) := by decide +kernel
theorem dX6_way_22 : decode cX6_way 22 = .ok (.iload_n 2, 1) := by decide +kernel
theorem dX6_way_23 : decode cX6_way 23 = .ok (.if_icmp .eq 15, 3) := by decide +kernel
theorem dX6_way_26 : decode cX6_way 26 = .ok (.iload_n 3, 1) := by decide +kernel
theorem dX6_way_27 : decode cX6_way 27 = .ok (.i2l, 1) := by decide +kernel
theorem dX6_way_28 : decode cX6_way 28 = .ok (.lconst 1, 1) := by decide +kernel
theorem dX6_way_29 : decode cX6_way 29 = .ok (.ldc2_w 96, 3) := by decide +kernel
theorem dX6_way_32 : decode cX6_way 32 = .ok (.invokestatic 75, 3) := by decide +kernel
theorem dX6_way_35 : decode cX6_way 35 = .ok (.ifCond .ne 6, 3) := by decide +kernel
theorem dX6_way_38 : decode cX6_way 38 = .ok (.ldc 85, 2) := by decide +kernel
theorem dX6_way_40 : decode cX6_way 40 = .ok (.ireturn, 1) := by decide +kernel
theorem dX6_way_41 : decode cX6_way 41 = .ok (.aload_n 0, 1) := by decide +kernel
theorem dX6_way_42 : decode cX6_way 42 = .ok (.getfield 54, 3) := by decide +kernel
theorem dX6_way_45 : decode cX6_way 45 = .ok (.bipush 10, 2) := by decide +kernel
theorem dX6_way_47 : decode cX6_way 47 = .ok (.iload_n 1, 1) := by decide +kernel
theorem dX6_way_48 : decode cX6_way 48 = .ok (.imul, 1) := by decide +kernel
theorem dX6_way_49 : decode cX6_way 49 = .ok (.iload_n 2, 1) := by decide +kernel
theorem dX6_way_50 : decode cX6_way 50 = .ok (.iadd, 1) := by decide +kernel
theorem dX6_way_51 : decode cX6_way 51 = .ok (.baload, 1) := by decide +kernel
theorem dX6_way_52 : decode cX6_way 52 = .ok (.ifCond .eq 6, 3) := by decide +kernel
theorem dX6_way_55 : decode cX6_way 55 = .ok (.ldc 103, 2) := by decide +kernel
theorem dX6_way_57 : decode cX6_way 57 = .ok (.ireturn, 1) := by decide +kernel
theorem dX6_way_58 : decode cX6_way 58 = .ok (.aload_n 0, 1) := by decide +kernel
theorem dX6_way_59 : decode cX6_way 59 = .ok (.getfield 51, 3) := by decide +kernel
theorem dX6_way_62 : decode cX6_way 62 = .ok (.bipush 10, 2) := by decide +kernel
theorem dX6_way_64 : decode cX6_way 64 = .ok (.iload_n 1, 1) := by decide +kernel
theorem dX6_way_65 : decode cX6_way 65 = .ok (.imul, 1) := by decide +kernel
theorem dX6_way_66 : decode cX6_way 66 = .ok (.iload_n 2, 1) := by decide +kernel
theorem dX6_way_67 : decode cX6_way 67 = .ok (.iadd, 1) := by decide +kernel
theorem dX6_way_68 : decode cX6_way 68 = .ok (.iaload, 1) := by decide +kernel
theorem dX6_way_69 : decode cX6_way 69 = .ok (.istore 4, 2) := by decide +kernel
theorem dX6_way_71 : decode cX6_way 71 = .ok (.aload_n 0, 1) := by decide +kernel
theorem dX6_way_72 : decode cX6_way 72 = .ok (.getfield 51, 3) := by decide +kernel
theorem dX6_way_75 : decode cX6_way 75 = .ok (.bipush 10, 2) := by decide +kernel
theorem dX6_way_77 : decode cX6_way 77 = .ok (.iload_n 1, 1) := by decide +kernel
theorem dX6_way_78 : decode cX6_way 78 = .ok (.imul, 1) := by decide +kernel
theorem dX6_way_79 : decode cX6_way 79 = .ok (.iload_n 2, 1) := by decide +kernel
theorem dX6_way_80 : decode cX6_way 80 = .ok (.iadd, 1) := by decide +kernel
theorem dX6_way_81 : decode cX6_way 81 = .ok (.iload_n 3, 1) := by decide +kernel
theorem dX6_way_82 : decode cX6_way 82 = .ok (.iastore, 1) := by decide +kernel
theorem dX6_way_83 : decode cX6_way 83 = .ok (.aload_n 0, 1) := by decide +kernel
theorem dX6_way_84 : decode cX6_way 84 = .ok (.getfield 51, 3) := by decide +kernel
theorem dX6_way_87 : decode cX6_way 87 = .ok (.bipush 10, 2) := by decide +kernel
theorem dX6_way_89 : decode cX6_way 89 = .ok (.iload_n 2, 1) := by decide +kernel
theorem dX6_way_90 : decode cX6_way 90 = .ok (.imul, 1) := by decide +kernel
theorem dX6_way_91 : decode cX6_way 91 = .ok (.iload_n 1, 1) := by decide +kernel
theorem dX6_way_92 : decode cX6_way 92 = .ok (.iadd, 1) := by decide +kernel
theorem dX6_way_93 : decode cX6_way 93 = .ok (.iload_n 3, 1) := by decide +kernel
theorem dX6_way_94 : decode cX6_way 94 = .ok (.iastore, 1) := by decide +kernel
theorem dX6_way_95 : decode cX6_way 95 = .ok (.iload 4, 2) := by decide +kernel
theorem dX6_way_97 : decode cX6_way 97 = .ok (.ireturn, 1) := by decide +kernel
theorem dX6_call_0 : decode cX6_call 0 = .ok (.aload_n 0, 1) := by decide +kernel
theorem dX6_call_1 : decode cX6_call 1 = .ok (.iconst 0, 1) := by decide +kernel
theorem dX6_call_2 : decode cX6_call 2 = .ok (.putfield 66, 3) := by decide +kernel
theorem dX6_call_5 : decode cX6_call 5 = .ok (.aload_n 0, 1) := by decide +kernel
theorem dX6_call_6 : decode cX6_call 6 = .ok (.iload_n 1, 1) := by decide +kernel
theorem dX6_call_7 : decode cX6_call 7 = .ok (.invokevirtual 169, 3) := by decide +kernel
theorem dX6_call_10 : decode cX6_call 10 = .ok (.ifCond .ne 6, 3) := by decide +kernel
theorem dX6_call_13 : decode cX6_call 13 = .ok (.ldc 85, 2) := by decide +kernel
theorem dX6_call_15 : decode cX6_call 15 = .ok (.ireturn, 1) := by decide +kernel
theorem dX6_call_16 : decode cX6_call 16 = .ok (.aload_n 0, 1) := by decide +kernel
theorem dX6_call_17 : decode cX6_call 17 = .ok (.getfield 172, 3) := by decide +kernel
theorem dX6_call_20 : decode cX6_call 20 = .ok (.iload_n 1, 1) := by decide +kernel
theorem dX6_call_21 : decode cX6_call 21 = .ok (.ishr, 1) := by decide +kernel
theorem dX6_call_22 : decode cX6_call 22 = .ok (.iconst 1, 1) := by decide +kernel
theorem dX6_call_23 : decode cX6_call 23 = .ok (.iand, 1) := by decide +kernel
theorem dX6_call_24 : decode cX6_call 24 = .ok (.iconst 1, 1) := by decide +kernel
theorem dX6_call_25 : decode cX6_call 25 = .ok (.if_icmp .ne 6, 3) := by decide +kernel
theorem dX6_call_28 : decode cX6_call 28 = .ok (.ldc 103, 2) := by decide +kernel
theorem dX6_call_30 : decode cX6_call 30 = .ok (.ireturn, 1) := by decide +kernel
theorem dX6_call_31 : decode cX6_call 31 = .ok (.aload_n 0, 1) := by decide +kernel
theorem dX6_call_32 : decode cX6_call 32 = .ok (.getfield 172, 3) := by decide +kernel
theorem dX6_call_35 : decode cX6_call 35 = .ok (.ifCond .ne 24, 3) := by decide +kernel
theorem dX6_call_38 : decode cX6_call 38 = .ok (.aload_n 0, 1) := by decide +kernel
theorem dX6_call_39 : decode cX6_call 39 = .ok (.iconst 1, 1) := by decide +kernel
theorem dX6_call_40 : decode cX6_call 40 = .ok (.iload_n 1, 1) := by decide +kernel
theorem dX6_call_41 : decode cX6_call 41 = .ok (.ishl, 1) := by decide +kernel
theorem dX6_call_42 : decode cX6_call 42 = .ok (.putfield 172, 3) := by decide +kernel
theorem dX6_call_45 : decode cX6_call 45 = .ok (.aload_n 0, 1) := by decide +kernel
theorem dX6_call_46 : decode cX6_call 46 = .ok (.dup, 1) := by decide +kernel
theorem dX6_call_47 : decode cX6_call 47 = .ok (.getfield 175, 3) := by decide +kernel
theorem dX6_call_50 : decode cX6_call 50 = .ok (.iconst 1, 1) := by decide +kernel
theorem dX6_call_51 : decode cX6_call 51 = .ok (.iload_n 1, 1) := by decide +kernel
theorem dX6_call_52 : decode cX6_call 52 = .ok (.ishl, 1) := by decide +kernel
theorem dX6_call_53 : decode cX6_call 53 = .ok (.ior, 1) := by decide +kernel
theorem dX6_call_54 : decode cX6_call 54 = .ok (.putfield 175, 3) := by decide +kernel
theorem dX6_call_57 : decode cX6_call 57 = .ok (.iconst 0, 1) := by decide +kernel
theorem dX6_call_58 : decode cX6_call 58 = .ok (.ireturn, 1) := by decide +kernel
theorem dX6_call_59 : decode cX6_call 59 = .ok (.iconst 0, 1) := by decide +kernel
theorem dX6_call_60 : decode cX6_call 60 = .ok (.istore_n 2, 1) := by decide +kernel
theorem dX6_call_61 : decode cX6_call 61 = .ok (.iload_n 2, 1) := by decide +kernel
theorem dX6_call_62 : decode cX6_call 62 = .ok (.aload_n 0, 1) := by decide +kernel
theorem dX6_call_63 : decode cX6_call 63 = .ok (.getfield 166, 3) := by decide +kernel
theorem dX6_call_66 : decode cX6_call 66 = .ok (.if_icmp .ge 40, 3) := by decide +kernel
theorem dX6_call_69 : decode cX6_call 69 = .ok (.aload_n 0, 1) := by decide +kernel
theorem dX6_call_70 : decode cX6_call 70 = .ok (.getfield 57, 3) := by decide +kernel
theorem dX6_call_73 : decode cX6_call 73 = .ok (.iload_n 2, 1) := by decide +kernel
theorem dX6_call_74 : decode cX6_call 74 = .ok (.aload_n 0, 1) := by decide +kernel
theorem dX6_call_75 : decode cX6_call 75 = .ok (.getfield 175, 3) := by decide +kernel
theorem dX6_call_78 : decode cX6_call 78 = .ok (.iload_n 2, 1) := by decide +kernel
theorem dX6_call_79 : decode cX6_call 79 = .ok (.ishr, 1) := by decide +kernel
theorem dX6_call_80 : decode cX6_call 80 = .ok (.iconst 1, 1) := by decide +kernel
theorem dX6_call_81 : decode cX6_call 81 = .ok (.iand, 1) := by decide +kernel
theorem dX6_call_82 : decode cX6_call 82 = .ok (.iconst 1, 1) := by decide +kernel
theorem dX6_call_83 : decode cX6_call 83 = .ok (.if_icmp .ne 7, 3) := by decide +kernel
theorem dX6_call_86 : decode cX6_call 86 = .ok (.iconst 0, 1) := by decide +kernel
theorem dX6_call_87 : decode cX6_call 87 = .ok (.goto 5, 3) := by decide +kernel
theorem dX6_call_90 : decode cX6_call 90 = .ok (.ldc 126, 2) := by decide +kernel
theorem dX6_call_92 : decode cX6_call 92 = .ok (.iastore, 1) := by decide +kernel
theorem dX6_call_93 : decode cX6_call 93 = .ok (.aload_n 0, 1) := by decide +kernel
theorem dX6_call_94 : decode cX6_call 94 = .ok (.getfield 60, 3) := by decide +kernel
theorem dX6_call_97 : decode cX6_call 97 = .ok (.iload_n 2, 1) := by decide +kernel
theorem dX6_call_98 : decode cX6_call 98 = .ok (.iconst 0, 1) := by decide +kernel
theorem dX6_call_99 : decode cX6_call 99 = .ok (.iastore, 1) := by decide +kernel
theorem dX6_call_100 : decode cX6_call 100 = .ok (.iinc 2 1, 3) := by decide +kernel
theorem dX6_call_103 : decode cX6_call 103 = .ok (.goto (-42), 3) := by decide +kernel
theorem dX6_call_106 : decode cX6_call 106 = .ok (.iconst 1, 1) := by decide +kernel
theorem dX6_call_107 : decode cX6_call 107 = .ok (.istore_n 2, 1) := by decide +kernel
theorem dX6_call_108 : decode cX6_call 108 = .ok (.iload_n 2, 1) := by decide +kernel
theorem dX6_call_109 : decode cX6_call 109 = .ok (.ifCond .eq 178, 3) := by decide +kernel
theorem dX6_call_112 : decode cX6_call 112 = .ok (.iconst 0, 1) := by decide +kernel
theorem dX6_call_113 : decode cX6_call 113 = .ok (.istore_n 2, 1) := by decide +kernel
theorem dX6_call_114 : decode cX6_call 114 = .ok (.iconst 0, 1) := by decide +kernel
theorem dX6_call_115 : decode cX6_call 115 = .ok (.istore_n 3, 1) := by decide +kernel
theorem dX6_call_116 : decode cX6_call 116 = .ok (.iload_n 3, 1) := by decide +kernel
theorem dX6_call_117 : decode cX6_call 117 = .ok (.aload_n 0, 1) := by decide +kernel
theorem dX6_call_118 : decode cX6_call 118 = .ok (.getfield 166, 3) := by decide +kernel
theorem dX6_call_121 : decode cX6_call 121 = .ok (.if_icmp .ge 163, 3) := by decide +kernel
theorem dX6_call_124 : decode cX6_call 124 = .ok (.iconst 0, 1) := by decide +kernel
theorem dX6_call_125 : decode cX6_call 125 = .ok (.istore 4, 2) := by decide +kernel
theorem dX6_call_127 : decode cX6_call 127 = .ok (.iload 4, 2) := by decide +kernel
theorem dX6_call_129 : decode cX6_call 129 = .ok (.aload_n 0, 1) := by decide +kernel
theorem dX6_call_130 : decode cX6_call 130 = .ok (.getfield 166, 3) := by decide +kernel
theorem dX6_call_133 : decode cX6_call 133 = .ok (.if_icmp .ge 145, 3) := by decide +kernel
theorem dX6_call_136 : decode cX6_call 136 = .ok (.aload_n 0, 1) := by decide +kernel
theorem dX6_call_137 : decode cX6_call 137 = .ok (.getfield 175, 3) := by decide +kernel
theorem dX6_call_140 : decode cX6_call 140 = .ok (.iload_n 3, 1) := by decide +kernel
theorem dX6_call_141 : decode cX6_call 141 = .ok (.ishr, 1) := by decide +kernel
theorem dX6_call_142 : decode cX6_call 142 = .ok (.iconst 1, 1) := by decide +kernel
theorem dX6_call_143 : decode cX6_call 143 = .ok (.iand, 1) := by decide +kernel
theorem dX6_call_144 : decode cX6_call 144 = .ok (.ifCond .ne 134, 3) := by decide +kernel
theorem dX6_call_147 : decode cX6_call 147 = .ok (.aload_n 0, 1) := by decide +kernel
theorem dX6_call_148 : decode cX6_call 148 = .ok (.getfield 51, 3) := by decide +kernel
theorem dX6_call_151 : decode cX6_call 151 = .ok (.bipush 10, 2) := by decide +kernel
theorem dX6_call_153 : decode cX6_call 153 = .ok (.iload_n 3, 1) := by decide +kernel
theorem dX6_call_154 : decode cX6_call 154 = .ok (.imul, 1) := by decide +kernel
theorem dX6_call_155 : decode cX6_call 155 = .ok (.iload 4, 2) := by decide +kernel
theorem dX6_call_157 : decode cX6_call 157 = .ok (.iadd, 1) := by decide +kernel
theorem dX6_call_158 : decode cX6_call 158 = .ok (.iaload, 1) := by decide +kernel
theorem dX6_call_159 : decode cX6_call 159 = .ok (.ifCond .le 113, 3) := by decide +kernel
theorem dX6_call_162 : decode cX6_call 162 = .ok (.aload_n 0, 1) := by decide +kernel
theorem dX6_call_163 : decode cX6_call 163 = .ok (.getfield 57, 3) := by decide +kernel
theorem dX6_call_166 : decode cX6_call 166 = .ok (.iload 4, 2) := by decide +kernel
theorem dX6_call_168 : decode cX6_call 168 = .ok (.iaload, 1) := by decide +kernel
theorem dX6_call_169 : decode cX6_call 169 = .ok (.ldc 126, 2) := by decide +kernel
theorem dX6_call_171 : decode cX6_call 171 = .ok (.if_icmp .eq 101, 3) := by decide +kernel
theorem dX6_call_174 : decode cX6_call 174 = .ok (.aload_n 0, 1) := by decide +kernel
theorem dX6_call_175 : decode cX6_call 175 = .ok (.getfield 57, 3) := by decide +kernel
theorem dX6_call_178 : decode cX6_call 178 = .ok (.iload 4, 2) := by decide +kernel
theorem dX6_call_180 : decode cX6_call 180 = .ok (.iaload, 1) := by decide +kernel
theorem dX6_call_181 : decode cX6_call 181 = .ok (.aload_n 0, 1) := by decide +kernel
theorem dX6_call_182 : decode cX6_call 182 = .ok (.getfield 51, 3) := by decide +kernel
theorem dX6_call_185 : decode cX6_call 185 = .ok (.bipush 10, 2) := by decide +kernel
theorem dX6_call_187 : decode cX6_call 187 = .ok (.iload_n 3, 1) := by decide +kernel
theorem dX6_call_188 : decode cX6_call 188 = .ok (.imul, 1) := by decide +kernel
theorem dX6_call_189 : decode cX6_call 189 = .ok (.iload 4, 2) := by decide +kernel
theorem dX6_call_191 : decode cX6_call 191 = .ok (.iadd, 1) := by decide +kernel
theorem dX6_call_192 : decode cX6_call 192 = .ok (.iaload, 1) := by decide +kernel
theorem dX6_call_193 : decode cX6_call 193 = .ok (.iadd, 1) := by decide +kernel
theorem dX6_call_194 : decode cX6_call 194 = .ok (.istore 5, 2) := by decide +kernel
theorem dX6_call_196 : decode cX6_call 196 = .ok (.aload_n 0, 1) := by decide +kernel
theorem dX6_call_197 : decode cX6_call 197 = .ok (.getfield 57, 3) := by decide +kernel
theorem dX6_call_200 : decode cX6_call 200 = .ok (.iload_n 3, 1) := by decide +kernel
theorem dX6_call_201 : decode cX6_call 201 = .ok (.iaload, 1) := by decide +kernel
theorem dX6_call_202 : decode cX6_call 202 = .ok (.ldc 126, 2) := by decide +kernel
theorem dX6_call_204 : decode cX6_call 204 = .ok (.if_icmp .eq 43, 3) := by decide +kernel
theorem dX6_call_207 : decode cX6_call 207 = .ok (.iload 5, 2) := by decide +kernel
theorem dX6_call_209 : decode cX6_call 209 = .ok (.aload_n 0, 1) := by decide +kernel
theorem dX6_call_210 : decode cX6_call 210 = .ok (.getfield 57, 3) := by decide +kernel
theorem dX6_call_213 : decode cX6_call 213 = .ok (.iload_n 3, 1) := by decide +kernel
theorem dX6_call_214 : decode cX6_call 214 = .ok (.iaload, 1) := by decide +kernel
theorem dX6_call_215 : decode cX6_call 215 = .ok (.if_icmp .lt 32, 3) := by decide +kernel
theorem dX6_call_218 : decode cX6_call 218 = .ok (.iload 5, 2) := by decide +kernel
theorem dX6_call_220 : decode cX6_call 220 = .ok (.aload_n 0, 1) := by decide +kernel
theorem dX6_call_221 : decode cX6_call 221 = .ok (.getfield 57, 3) := by decide +kernel
theorem dX6_call_224 : decode cX6_call 224 = .ok (.iload_n 3, 1) := by decide +kernel
theorem dX6_call_225 : decode cX6_call 225 = .ok (.iaload, 1) := by decide +kernel
theorem dX6_call_226 : decode cX6_call 226 = .ok (.if_icmp .ne 46, 3) := by decide +kernel
theorem dX6_call_229 : decode cX6_call 229 = .ok (.aload_n 0, 1) := by decide +kernel
theorem dX6_call_230 : decode cX6_call 230 = .ok (.getfield 60, 3) := by decide +kernel
theorem dX6_call_233 : decode cX6_call 233 = .ok (.iload 4, 2) := by decide +kernel
theorem dX6_call_235 : decode cX6_call 235 = .ok (.iaload, 1) := by decide +kernel
theorem dX6_call_236 : decode cX6_call 236 = .ok (.iconst 1, 1) := by decide +kernel
theorem dX6_call_237 : decode cX6_call 237 = .ok (.iadd, 1) := by decide +kernel
theorem dX6_call_238 : decode cX6_call 238 = .ok (.aload_n 0, 1) := by decide +kernel
theorem dX6_call_239 : decode cX6_call 239 = .ok (.getfield 60, 3) := by decide +kernel
theorem dX6_call_242 : decode cX6_call 242 = .ok (.iload_n 3, 1) := by decide +kernel
theorem dX6_call_243 : decode cX6_call 243 = .ok (.iaload, 1) := by decide +kernel
theorem dX6_call_244 : decode cX6_call 244 = .ok (.if_icmp .ge 28, 3) := by decide +kernel
theorem dX6_call_247 : decode cX6_call 247 = .ok (.aload_n 0, 1) := by decide +kernel
theorem dX6_call_248 : decode cX6_call 248 = .ok (.getfield 57, 3) := by decide +kernel
theorem dX6_call_251 : decode cX6_call 251 = .ok (.iload_n 3, 1) := by decide +kernel
theorem dX6_call_252 : decode cX6_call 252 = .ok (.iload 5, 2) := by decide +kernel
theorem dX6_call_254 : decode cX6_call 254 = .ok (.iastore, 1) := by decide +kernel
theorem dX6_call_255 : decode cX6_call 255 = .ok (.aload_n 0, 1) := by decide +kernel
theorem dX6_call_256 : decode cX6_call 256 = .ok (.getfield 60, 3) := by decide +kernel
theorem dX6_call_259 : decode cX6_call 259 = .ok (.iload_n 3, 1) := by decide +kernel
theorem dX6_call_260 : decode cX6_call 260 = .ok (.aload_n 0, 1) := by decide +kernel
theorem dX6_call_261 : decode cX6_call 261 = .ok (.getfield 60, 3) := by decide +kernel
theorem dX6_call_264 : decode cX6_call 264 = .ok (.iload 4, 2) := by decide +kernel
theorem dX6_call_266 : decode cX6_call 266 = .ok (.iaload, 1) := by decide +kernel
theorem dX6_call_267 : decode cX6_call 267 = .ok (.iconst 1, 1) := by decide +kernel
theorem dX6_call_268 : decode cX6_call 268 = .ok (.iadd, 1) := by decide +kernel
theorem dX6_call_269 : decode cX6_call 269 = .ok (.iastore, 1) := by decide +kernel
theorem dX6_call_270 : decode cX6_call 270 = .ok (.iconst 1, 1) := by decide +kernel
theorem dX6_call_271 : decode cX6_call 271 = .ok (.istore_n 2, 1) := by decide +kernel
theorem dX6_call_272 : decode cX6_call 272 = .ok (.iinc 4 1, 3) := by decide +kernel
theorem dX6_call_275 : decode cX6_call 275 = .ok (.goto (-148), 3) := by decide +kernel
theorem dX6_call_278 : decode cX6_call 278 = .ok (.iinc 3 1, 3) := by decide +kernel
theorem dX6_call_281 : decode cX6_call 281 = .ok (.goto (-165), 3) := by decide +kernel
theorem dX6_call_284 : decode cX6_call 284 = .ok (.goto (-176), 3) := by decide +kernel
theorem dX6_call_287 : decode cX6_call 287 = .ok (.aload_n 0, 1) := by decide +kernel
theorem dX6_call_288 : decode cX6_call 288 = .ok (.getfield 57, 3) := by decide +kernel
theorem dX6_call_291 : decode cX6_call 291 = .ok (.iload_n 1, 1) := by decide +kernel
theorem dX6_call_292 : decode cX6_call 292 = .ok (.iaload, 1) := by decide +kernel
theorem dX6_call_293 : decode cX6_call 293 = .ok (.ldc 126, 2) := by decide +kernel
theorem dX6_call_295 : decode cX6_call 295 = .ok (.if_icmp .ne 6, 3) := by decide +kernel
theorem dX6_call_298 : decode cX6_call 298 = .ok (.ldc 126, 2) := by decide +kernel
theorem dX6_call_300 : decode cX6_call 300 = .ok (.ireturn, 1) := by decide +kernel
theorem dX6_call_301 : decode cX6_call 301 = .ok (.aload_n 0, 1) := by decide +kernel
theorem dX6_call_302 : decode cX6_call 302 = .ok (.getfield 57, 3) := by decide +kernel
theorem dX6_call_305 : decode cX6_call 305 = .ok (.iload_n 1, 1) := by decide +kernel
theorem dX6_call_306 : decode cX6_call 306 = .ok (.iaload, 1) := by decide +kernel
theorem dX6_call_307 : decode cX6_call 307 = .ok (.istore_n 3, 1) := by decide +kernel
theorem dX6_call_308 : decode cX6_call 308 = .ok (.iload_n 1, 1) := by decide +kernel
theorem dX6_call_309 : decode cX6_call 309 = .ok (.istore 4, 2) := by decide +kernel
theorem dX6_call_311 : decode cX6_call 311 = .ok (.aload_n 0, 1) := by decide +kernel
theorem dX6_call_312 : decode cX6_call 312 = .ok (.dup, 1) := by decide +kernel
theorem dX6_call_313 : decode cX6_call 313 = .ok (.getfield 172, 3) := by decide +kernel
theorem dX6_call_316 : decode cX6_call 316 = .ok (.iconst 1, 1) := by decide +kernel
theorem dX6_call_317 : decode cX6_call 317 = .ok (.iload_n 1, 1) := by decide +kernel
theorem dX6_call_318 : decode cX6_call 318 = .ok (.ishl, 1) := by decide +kernel
theorem dX6_call_319 : decode cX6_call 319 = .ok (.ior, 1) := by decide +kernel
theorem dX6_call_320 : decode cX6_call 320 = .ok (.putfield 172, 3) := by decide +kernel
theorem dX6_call_323 : decode cX6_call 323 = .ok (.aload_n 0, 1) := by decide +kernel
theorem dX6_call_324 : decode cX6_call 324 = .ok (.getfield 175, 3) := by decide +kernel
theorem dX6_call_327 : decode cX6_call 327 = .ok (.iload 4, 2) := by decide +kernel
theorem dX6_call_329 : decode cX6_call 329 = .ok (.ishr, 1) := by decide +kernel
theorem dX6_call_330 : decode cX6_call 330 = .ok (.iconst 1, 1) := by decide +kernel
theorem dX6_call_331 : decode cX6_call 331 = .ok (.iand, 1) := by decide +kernel
theorem dX6_call_332 : decode cX6_call 332 = .ok (.ifCond .ne 161, 3) := by decide +kernel
theorem dX6_call_335 : decode cX6_call 335 = .ok (.ldc 126, 2) := by decide +kernel
theorem dX6_call_337 : decode cX6_call 337 = .ok (.istore 5, 2) := by decide +kernel
theorem dX6_call_339 : decode cX6_call 339 = .ok (.aload_n 0, 1) := by decide +kernel
theorem dX6_call_340 : decode cX6_call 340 = .ok (.getfield 166, 3) := by decide +kernel
theorem dX6_call_343 : decode cX6_call 343 = .ok (.iconst 1, 1) := by decide +kernel
theorem dX6_call_344 : decode cX6_call 344 = .ok (.isub, 1) := by decide +kernel
theorem dX6_call_345 : decode cX6_call 345 = .ok (.istore 6, 2) := by decide +kernel
theorem dX6_call_347 : decode cX6_call 347 = .ok (.iload 6, 2) := by decide +kernel
theorem dX6_call_349 : decode cX6_call 349 = .ok (.ifCond .lt 96, 3) := by decide +kernel
theorem dX6_call_352 : decode cX6_call 352 = .ok (.aload_n 0, 1) := by decide +kernel
theorem dX6_call_353 : decode cX6_call 353 = .ok (.getfield 51, 3) := by decide +kernel
theorem dX6_call_356 : decode cX6_call 356 = .ok (.bipush 10, 2) := by decide +kernel
theorem dX6_call_358 : decode cX6_call 358 = .ok (.iload 4, 2) := by decide +kernel
theorem dX6_call_360 : decode cX6_call 360 = .ok (.imul, 1) := by decide +kernel
theorem dX6_call_361 : decode cX6_call 361 = .ok (.iload 6, 2) := by decide +kernel
theorem dX6_call_363 : decode cX6_call 363 = .ok (.iadd, 1) := by decide +kernel
theorem dX6_call_364 : decode cX6_call 364 = .ok (.iaload, 1) := by decide +kernel
theorem dX6_call_365 : decode cX6_call 365 = .ok (.ifCond .le 70, 3) := by decide +kernel
theorem dX6_call_368 : decode cX6_call 368 = .ok (.aload_n 0, 1) := by decide +kernel
theorem dX6_call_369 : decode cX6_call 369 = .ok (.getfield 57, 3) := by decide +kernel
theorem dX6_call_372 : decode cX6_call 372 = .ok (.iload 6, 2) := by decide +kernel
theorem dX6_call_374 : decode cX6_call 374 = .ok (.iaload, 1) := by decide +kernel
theorem dX6_call_375 : decode cX6_call 375 = .ok (.ldc 126, 2) := by decide +kernel
theorem dX6_call_377 : decode cX6_call 377 = .ok (.if_icmp .eq 58, 3) := by decide +kernel
theorem dX6_call_380 : decode cX6_call 380 = .ok (.aload_n 0, 1) := by decide +kernel
theorem dX6_call_381 : decode cX6_call 381 = .ok (.getfield 57, 3) := by decide +kernel
theorem dX6_call_384 : decode cX6_call 384 = .ok (.iload 6, 2) := by decide +kernel
theorem dX6_call_386 : decode cX6_call 386 = .ok (.iaload, 1) := by decide +kernel
theorem dX6_call_387 : decode cX6_call 387 = .ok (.aload_n 0, 1) := by decide +kernel
theorem dX6_call_388 : decode cX6_call 388 = .ok (.getfield 51, 3) := by decide +kernel
theorem dX6_call_391 : decode cX6_call 391 = .ok (.bipush 10, 2) := by decide +kernel
theorem dX6_call_393 : decode cX6_call 393 = .ok (.iload 4, 2) := by decide +kernel
theorem dX6_call_395 : decode cX6_call 395 = .ok (.imul, 1) := by decide +kernel
theorem dX6_call_396 : decode cX6_call 396 = .ok (.iload 6, 2) := by decide +kernel
theorem dX6_call_398 : decode cX6_call 398 = .ok (.iadd, 1) := by decide +kernel
theorem dX6_call_399 : decode cX6_call 399 = .ok (.iaload, 1) := by decide +kernel
theorem dX6_call_400 : decode cX6_call 400 = .ok (.iadd, 1) := by decide +kernel
theorem dX6_call_401 : decode cX6_call 401 = .ok (.aload_n 0, 1) := by decide +kernel
theorem dX6_call_402 : decode cX6_call 402 = .ok (.getfield 57, 3) := by decide +kernel
theorem dX6_call_405 : decode cX6_call 405 = .ok (.iload 4, 2) := by decide +kernel
theorem dX6_call_407 : decode cX6_call 407 = .ok (.iaload, 1) := by decide +kernel
theorem dX6_call_408 : decode cX6_call 408 = .ok (.if_icmp .ne 27, 3) := by decide +kernel
theorem dX6_call_411 : decode cX6_call 411 = .ok (.aload_n 0, 1) := by decide +kernel
theorem dX6_call_412 : decode cX6_call 412 = .ok (.getfield 60, 3) := by decide +kernel
theorem dX6_call_415 : decode cX6_call 415 = .ok (.iload 6, 2) := by decide +kernel
theorem dX6_call_417 : decode cX6_call 417 = .ok (.iaload, 1) := by decide +kernel
theorem dX6_call_418 : decode cX6_call 418 = .ok (.iconst 1, 1) := by decide +kernel
theorem dX6_call_419 : decode cX6_call 419 = .ok (.iadd, 1) := by decide +kernel
theorem dX6_call_420 : decode cX6_call 420 = .ok (.aload_n 0, 1) := by decide +kernel
theorem dX6_call_421 : decode cX6_call 421 = .ok (.getfield 60, 3) := by decide +kernel
theorem dX6_call_424 : decode cX6_call 424 = .ok (.iload 4, 2) := by decide +kernel
theorem dX6_call_426 : decode cX6_call 426 = .ok (.iaload, 1) := by decide +kernel
theorem dX6_call_427 : decode cX6_call 427 = .ok (.if_icmp .ne 8, 3) := by decide +kernel
theorem dX6_call_430 : decode cX6_call 430 = .ok (.iload 6, 2) := by decide +kernel
theorem dX6_call_432 : decode cX6_call 432 = .ok (.goto 5, 3) := by decide +kernel
theorem dX6_call_435 : decode cX6_call 435 = .ok (.iload 5, 2) := by decide +kernel
theorem dX6_call_437 : decode cX6_call 437 = .ok (.istore 5, 2) := by decide +kernel
theorem dX6_call_439 : decode cX6_call 439 = .ok (.iinc 6 (-1), 3) := by decide +kernel
theorem dX6_call_442 : decode cX6_call 442 = .ok (.goto (-95), 3) := by decide +kernel
theorem dX6_call_445 : decode cX6_call 445 = .ok (.aload_n 0, 1) := by decide +kernel
theorem dX6_call_446 : decode cX6_call 446 = .ok (.getfield 54, 3) := by decide +kernel
theorem dX6_call_449 : decode cX6_call 449 = .ok (.bipush 10, 2) := by decide +kernel
theorem dX6_call_451 : decode cX6_call 451 = .ok (.iload 4, 2) := by decide +kernel
theorem dX6_call_453 : decode cX6_call 453 = .ok (.imul, 1) := by decide +kernel
theorem dX6_call_454 : decode cX6_call 454 = .ok (.iload 5, 2) := by decide +kernel
theorem dX6_call_456 : decode cX6_call 456 = .ok (.iadd, 1) := by decide +kernel
theorem dX6_call_457 : decode cX6_call 457 = .ok (.iconst 1, 1) := by decide +kernel
theorem dX6_call_458 : decode cX6_call 458 = .ok (.bastore, 1) := by decide +kernel
theorem dX6_call_459 : decode cX6_call 459 = .ok (.aload_n 0, 1) := by decide +kernel
theorem dX6_call_460 : decode cX6_call 460 = .ok (.getfield 54, 3) := by decide +kernel
theorem dX6_call_463 : decode cX6_call 463 = .ok (.bipush 10, 2) := by decide +kernel
theorem dX6_call_465 : decode cX6_call 465 = .ok (.iload 5, 2) := by decide +kernel
theorem dX6_call_467 : decode cX6_call 467 = .ok (.imul, 1) := by decide +kernel
theorem dX6_call_468 : decode cX6_call 468 = .ok (.iload 4, 2) := by decide +kernel
theorem dX6_call_470 : decode cX6_call 470 = .ok (.iadd, 1) := by decide +kernel
theorem dX6_call_471 : decode cX6_call 471 = .ok (.iconst 1, 1) := by decide +kernel
theorem dX6_call_472 : decode cX6_call 472 = .ok (.bastore, 1) := by decide +kernel
theorem dX6_call_473 : decode cX6_call 473 = .ok (.aload_n 0, 1) := by decide +kernel
theorem dX6_call_474 : decode cX6_call 474 = .ok (.dup, 1) := by decide +kernel
theorem dX6_call_475 : decode cX6_call 475 = .ok (.getfield 175, 3) := by decide +kernel
theorem dX6_call_478 : decode cX6_call 478 = .ok (.iconst 1, 1) := by decide +kernel
theorem dX6_call_479 : decode cX6_call 479 = .ok (.iload 4, 2) := by decide +kernel
theorem dX6_call_481 : decode cX6_call 481 = .ok (.ishl, 1) := by decide +kernel
theorem dX6_call_482 : decode cX6_call 482 = .ok (.ior, 1) := by decide +kernel
theorem dX6_call_483 : decode cX6_call 483 = .ok (.putfield 175, 3) := by decide +kernel
theorem dX6_call_486 : decode cX6_call 486 = .ok (.iload 5, 2) := by decide +kernel
theorem dX6_call_488 : decode cX6_call 488 = .ok (.istore 4, 2) := by decide +kernel
theorem dX6_call_490 : decode cX6_call 490 = .ok (.goto (-167), 3) := by decide +kernel
theorem dX6_call_493 : decode cX6_call 493 = .ok (.aload_n 0, 1) := by decide +kernel
theorem dX6_call_494 : decode cX6_call 494 = .ok (.dup, 1) := by decide +kernel
theorem dX6_call_495 : decode cX6_call 495 = .ok (.getfield 178, 3) := by decide +kernel
theorem dX6_call_498 : decode cX6_call 498 = .ok (.iload_n 3, 1) := by decide +kernel
theorem dX6_call_499 : decode cX6_call 499 = .ok (.iadd, 1) := by decide +kernel
theorem dX6_call_500 : decode cX6_call 500 = .ok (.putfield 178, 3) := by decide +kernel
theorem dX6_call_503 : decode cX6_call 503 = .ok (.iload_n 3, 1) := by decide +kernel
theorem dX6_call_504 : decode cX6_call 504 = .ok (.ireturn, 1) := by decide +kernel
theorem dX6_treeOf_0 : decode cX6_treeOf 0 = .ok (.iconst 0, 1) := by decide +kernel
theorem dX6_treeOf_1 : decode cX6_treeOf 1 = .ok (.istore_n 2, 1) := by decide +kernel
theorem dX6_treeOf_2 : decode cX6_treeOf 2 = .ok (.iload_n 1, 1) := by decide +kernel
theorem dX6_treeOf_3 : decode cX6_treeOf 3 = .ok (.iload_n 2, 1) := by decide +kernel
theorem dX6_treeOf_4 : decode cX6_treeOf 4 = .ok (.ishr, 1) := by decide +kernel
theorem dX6_treeOf_5 : decode cX6_treeOf 5 = .ok (.iconst 1, 1) := by decide +kernel
theorem dX6_treeOf_6 : decode cX6_treeOf 6 = .ok (.iand, 1) := by decide +kernel
theorem dX6_treeOf_7 : decode cX6_treeOf 7 = .ok (.ifCond .ne 9, 3) := by decide +kernel
theorem dX6_treeOf_10 : decode cX6_treeOf 10 = .ok (.iinc 2 1, 3) := by decide +kernel
theorem dX6_treeOf_13 : decode cX6_treeOf 13 = .ok (.goto (-11), 3) := by decide +kernel
theorem dX6_treeOf_16 : decode cX6_treeOf 16 = .ok (.aload_n 0, 1) := by decide +kernel
theorem dX6_treeOf_17 : decode cX6_treeOf 17 = .ok (.iconst 1, 1) := by decide +kernel
theorem dX6_treeOf_18 : decode cX6_treeOf 18 = .ok (.iload_n 2, 1) := by decide +kernel
theorem dX6_treeOf_19 : decode cX6_treeOf 19 = .ok (.ishl, 1) := by decide +kernel
theorem dX6_treeOf_20 : decode cX6_treeOf 20 = .ok (.putfield 181, 3) := by decide +kernel
theorem dX6_treeOf_23 : decode cX6_treeOf 23 = .ok (.iconst 0, 1) := by decide +kernel
theorem dX6_treeOf_24 : decode cX6_treeOf 24 = .ok (.istore_n 3, 1) := by decide +kernel
theorem dX6_treeOf_25 : decode cX6_treeOf 25 = .ok (.aload_n 0, 1) := by decide +kernel
theorem dX6_treeOf_26 : decode cX6_treeOf 26 = .ok (.getfield 181, 3) := by decide +kernel
theorem dX6_treeOf_29 : decode cX6_treeOf 29 = .ok (.iload_n 1, 1) := by decide +kernel
theorem dX6_treeOf_30 : decode cX6_treeOf 30 = .ok (.if_icmp .eq 155, 3) := by decide +kernel
theorem dX6_treeOf_33 : decode cX6_treeOf 33 = .ok (.ldc 126, 2) := by decide +kernel
theorem dX6_treeOf_35 : decode cX6_treeOf 35 = .ok (.istore 4, 2) := by decide +kernel
theorem dX6_treeOf_37 : decode cX6_treeOf 37 = .ok (.ldc 126, 2) := by decide +kernel
theorem dX6_treeOf_39 : decode cX6_treeOf 39 = .ok (.istore 5, 2) := by decide +kernel
theorem dX6_treeOf_41 : decode cX6_treeOf 41 = .ok (.iconst 0, 1) := by decide +kernel
theorem dX6_treeOf_42 : decode cX6_treeOf 42 = .ok (.istore 6, 2) := by decide +kernel
theorem dX6_treeOf_44 : decode cX6_treeOf 44 = .ok (.iload 6, 2) := by decide +kernel
theorem dX6_treeOf_46 : decode cX6_treeOf 46 = .ok (.aload_n 0, 1) := by decide +kernel
theorem dX6_treeOf_47 : decode cX6_treeOf 47 = .ok (.getfield 166, 3) := by decide +kernel
theorem dX6_treeOf_50 : decode cX6_treeOf 50 = .ok (.if_icmp .ge 104, 3) := by decide +kernel
theorem dX6_treeOf_53 : decode cX6_treeOf 53 = .ok (.iconst 0, 1) := by decide +kernel
theorem dX6_treeOf_54 : decode cX6_treeOf 54 = .ok (.istore 7, 2) := by decide +kernel
theorem dX6_treeOf_56 : decode cX6_treeOf 56 = .ok (.iload 7, 2) := by decide +kernel
theorem dX6_treeOf_58 : decode cX6_treeOf 58 = .ok (.aload_n 0, 1) := by decide +kernel
theorem dX6_treeOf_59 : decode cX6_treeOf 59 = .ok (.getfield 166, 3) := by decide +kernel
theorem dX6_treeOf_62 : decode cX6_treeOf 62 = .ok (.if_icmp .ge 86, 3) := by decide +kernel
theorem dX6_treeOf_65 : decode cX6_treeOf 65 = .ok (.aload_n 0, 1) := by decide +kernel
theorem dX6_treeOf_66 : decode cX6_treeOf 66 = .ok (.getfield 181, 3) := by decide +kernel
theorem dX6_treeOf_69 : decode cX6_treeOf 69 = .ok (.iload 6, 2) := by decide +kernel
theorem dX6_treeOf_71 : decode cX6_treeOf 71 = .ok (.ishr, 1) := by decide +kernel
theorem dX6_treeOf_72 : decode cX6_treeOf 72 = .ok (.iconst 1, 1) := by decide +kernel
theorem dX6_treeOf_73 : decode cX6_treeOf 73 = .ok (.iand, 1) := by decide +kernel
theorem dX6_treeOf_74 : decode cX6_treeOf 74 = .ok (.iconst 1, 1) := by decide +kernel
theorem dX6_treeOf_75 : decode cX6_treeOf 75 = .ok (.if_icmp .ne 73, 3) := by decide +kernel
theorem dX6_treeOf_78 : decode cX6_treeOf 78 = .ok (.aload_n 0, 1) := by decide +kernel
theorem dX6_treeOf_79 : decode cX6_treeOf 79 = .ok (.getfield 51, 3) := by decide +kernel
theorem dX6_treeOf_82 : decode cX6_treeOf 82 = .ok (.bipush 10, 2) := by decide +kernel
theorem dX6_treeOf_84 : decode cX6_treeOf 84 = .ok (.iload 6, 2) := by decide +kernel
theorem dX6_treeOf_86 : decode cX6_treeOf 86 = .ok (.imul, 1) := by decide +kernel
theorem dX6_treeOf_87 : decode cX6_treeOf 87 = .ok (.iload 7, 2) := by decide +kernel
theorem dX6_treeOf_89 : decode cX6_treeOf 89 = .ok (.iadd, 1) := by decide +kernel
theorem dX6_treeOf_90 : decode cX6_treeOf 90 = .ok (.iaload, 1) := by decide +kernel
theorem dX6_treeOf_91 : decode cX6_treeOf 91 = .ok (.istore 8, 2) := by decide +kernel
theorem dX6_treeOf_93 : decode cX6_treeOf 93 = .ok (.iload_n 1, 1) := by decide +kernel
theorem dX6_treeOf_94 : decode cX6_treeOf 94 = .ok (.iload 7, 2) := by decide +kernel
theorem dX6_treeOf_96 : decode cX6_treeOf 96 = .ok (.ishr, 1) := by decide +kernel
theorem dX6_treeOf_97 : decode cX6_treeOf 97 = .ok (.iconst 1, 1) := by decide +kernel
theorem dX6_treeOf_98 : decode cX6_treeOf 98 = .ok (.iand, 1) := by decide +kernel
theorem dX6_treeOf_99 : decode cX6_treeOf 99 = .ok (.iconst 1, 1) := by decide +kernel
theorem dX6_treeOf_100 : decode cX6_treeOf 100 = .ok (.if_icmp .ne 42, 3) := by decide +kernel
theorem dX6_treeOf_103 : decode cX6_treeOf 103 = .ok (.aload_n 0, 1) := by decide +kernel
theorem dX6_treeOf_104 : decode cX6_treeOf 104 = .ok (.getfield 181, 3) := by decide +kernel
theorem dX6_treeOf_107 : decode cX6_treeOf 107 = .ok (.iload 7, 2) := by decide +kernel
theorem dX6_treeOf_109 : decode cX6_treeOf 109 = .ok (.ishr, 1) := by decide +kernel
theorem dX6_treeOf_110 : decode cX6_treeOf 110 = .ok (.iconst 1, 1) := by decide +kernel
theorem dX6_treeOf_111 : decode cX6_treeOf 111 = .ok (.iand, 1) := by decide +kernel
theorem dX6_treeOf_112 : decode cX6_treeOf 112 = .ok (.ifCond .ne 30, 3) := by decide +kernel
theorem dX6_treeOf_115 : decode cX6_treeOf 115 = .ok (.iload 8, 2) := by decide +kernel
theorem dX6_treeOf_117 : decode cX6_treeOf 117 = .ok (.ifCond .le 25, 3) := by decide +kernel
theorem dX6_treeOf_120 : decode cX6_treeOf 120 = .ok (.iload 4, 2) := by decide +kernel
theorem dX6_treeOf_122 : decode cX6_treeOf 122 = .ok (.ldc 126, 2) := by decide +kernel
theorem dX6_treeOf_124 : decode cX6_treeOf 124 = .ok (.if_icmp .eq 10, 3) := by decide +kernel
theorem dX6_treeOf_127 : decode cX6_treeOf 127 = .ok (.iload 8, 2) := by decide +kernel
theorem dX6_treeOf_129 : decode cX6_treeOf 129 = .ok (.iload 4, 2) := by decide +kernel
theorem dX6_treeOf_131 : decode cX6_treeOf 131 = .ok (.if_icmp .ge 11, 3) := by decide +kernel
theorem dX6_treeOf_134 : decode cX6_treeOf 134 = .ok (.iload 8, 2) := by decide +kernel
theorem dX6_treeOf_136 : decode cX6_treeOf 136 = .ok (.istore 4, 2) := by decide +kernel
theorem dX6_treeOf_138 : decode cX6_treeOf 138 = .ok (.iload 7, 2) := by decide +kernel
theorem dX6_treeOf_140 : decode cX6_treeOf 140 = .ok (.istore 5, 2) := by decide +kernel
theorem dX6_treeOf_142 : decode cX6_treeOf 142 = .ok (.iinc 7 1, 3) := by decide +kernel
theorem dX6_treeOf_145 : decode cX6_treeOf 145 = .ok (.goto (-89), 3) := by decide +kernel
theorem dX6_treeOf_148 : decode cX6_treeOf 148 = .ok (.iinc 6 1, 3) := by decide +kernel
theorem dX6_treeOf_151 : decode cX6_treeOf 151 = .ok (.goto (-107), 3) := by decide +kernel
theorem dX6_treeOf_154 : decode cX6_treeOf 154 = .ok (.iload 5, 2) := by decide +kernel
theorem dX6_treeOf_156 : decode cX6_treeOf 156 = .ok (.ldc 126, 2) := by decide +kernel
theorem dX6_treeOf_158 : decode cX6_treeOf 158 = .ok (.if_icmp .ne 6, 3) := by decide +kernel
theorem dX6_treeOf_161 : decode cX6_treeOf 161 = .ok (.ldc 126, 2) := by decide +kernel
theorem dX6_treeOf_163 : decode cX6_treeOf 163 = .ok (.ireturn, 1) := by decide +kernel
theorem dX6_treeOf_164 : decode cX6_treeOf 164 = .ok (.aload_n 0, 1) := by decide +kernel
theorem dX6_treeOf_165 : decode cX6_treeOf 165 = .ok (.dup, 1) := by decide +kernel
theorem dX6_treeOf_166 : decode cX6_treeOf 166 = .ok (.getfield 181, 3) := by decide +kernel
theorem dX6_treeOf_169 : decode cX6_treeOf 169 = .ok (.iconst 1, 1) := by decide +kernel
theorem dX6_treeOf_170 : decode cX6_treeOf 170 = .ok (.iload 5, 2) := by decide +kernel
theorem dX6_treeOf_172 : decode cX6_treeOf 172 = .ok (.ishl, 1) := by decide +kernel
theorem dX6_treeOf_173 : decode cX6_treeOf 173 = .ok (.ior, 1) := by decide +kernel
theorem dX6_treeOf_174 : decode cX6_treeOf 174 = .ok (.putfield 181, 3) := by decide +kernel
theorem dX6_treeOf_177 : decode cX6_treeOf 177 = .ok (.iload_n 3, 1) := by decide +kernel
theorem dX6_treeOf_178 : decode cX6_treeOf 178 = .ok (.iload 4, 2) := by decide +kernel
theorem dX6_treeOf_180 : decode cX6_treeOf 180 = .ok (.iadd, 1) := by decide +kernel
theorem dX6_treeOf_181 : decode cX6_treeOf 181 = .ok (.istore_n 3, 1) := by decide +kernel
theorem dX6_treeOf_182 : decode cX6_treeOf 182 = .ok (.goto (-157), 3) := by decide +kernel
theorem dX6_treeOf_185 : decode cX6_treeOf 185 = .ok (.iload_n 3, 1) := by decide +kernel
theorem dX6_treeOf_186 : decode cX6_treeOf 186 = .ok (.ireturn, 1) := by decide +kernel
theorem dX6_bestOfSites_0 : decode cX6_bestOfSites 0 = .ok (.aload_n 0, 1) := by decide +kernel
theorem dX6_bestOfSites_1 : decode cX6_bestOfSites 1 = .ok (.getfield 172, 3) := by decide +kernel
theorem dX6_bestOfSites_4 : decode cX6_bestOfSites 4 = .ok (.ifCond .ne 5, 3) := by decide +kernel
theorem dX6_bestOfSites_7 : decode cX6_bestOfSites 7 = .ok (.iconst 0, 1) := by decide +kernel
theorem dX6_bestOfSites_8 : decode cX6_bestOfSites 8 = .ok (.ireturn, 1) := by decide +kernel
theorem dX6_bestOfSites_9 : decode cX6_bestOfSites 9 = .ok (.ldc 126, 2) := by decide +kernel
theorem dX6_bestOfSites_11 : decode cX6_bestOfSites 11 = .ok (.istore_n 1, 1) := by decide +kernel
theorem dX6_bestOfSites_12 : decode cX6_bestOfSites 12 = .ok (.iconst 1, 1) := by decide +kernel
theorem dX6_bestOfSites_13 : decode cX6_bestOfSites 13 = .ok (.istore_n 2, 1) := by decide +kernel
theorem dX6_bestOfSites_14 : decode cX6_bestOfSites 14 = .ok (.iload_n 2, 1) := by decide +kernel
theorem dX6_bestOfSites_15 : decode cX6_bestOfSites 15 = .ok (.iconst 1, 1) := by decide +kernel
theorem dX6_bestOfSites_16 : decode cX6_bestOfSites 16 = .ok (.aload_n 0, 1) := by decide +kernel
theorem dX6_bestOfSites_17 : decode cX6_bestOfSites 17 = .ok (.getfield 166, 3) := by decide +kernel
theorem dX6_bestOfSites_20 : decode cX6_bestOfSites 20 = .ok (.ishl, 1) := by decide +kernel
theorem dX6_bestOfSites_21 : decode cX6_bestOfSites 21 = .ok (.if_icmp .ge 49, 3) := by decide +kernel
theorem dX6_bestOfSites_24 : decode cX6_bestOfSites 24 = .ok (.aload_n 0, 1) := by decide +kernel
theorem dX6_bestOfSites_25 : decode cX6_bestOfSites 25 = .ok (.getfield 172, 3) := by decide +kernel
theorem dX6_bestOfSites_28 : decode cX6_bestOfSites 28 = .ok (.iload_n 2, 1) := by decide +kernel
theorem dX6_bestOfSites_29 : decode cX6_bestOfSites 29 = .ok (.iconst (-1), 1) := by decide +kernel
theorem dX6_bestOfSites_30 : decode cX6_bestOfSites 30 = .ok (.ixor, 1) := by decide +kernel
theorem dX6_bestOfSites_31 : decode cX6_bestOfSites 31 = .ok (.iand, 1) := by decide +kernel
theorem dX6_bestOfSites_32 : decode cX6_bestOfSites 32 = .ok (.ifCond .ne 32, 3) := by decide +kernel
theorem dX6_bestOfSites_35 : decode cX6_bestOfSites 35 = .ok (.aload_n 0, 1) := by decide +kernel
theorem dX6_bestOfSites_36 : decode cX6_bestOfSites 36 = .ok (.iload_n 2, 1) := by decide +kernel
theorem dX6_bestOfSites_37 : decode cX6_bestOfSites 37 = .ok (.invokevirtual 184, 3) := by decide +kernel
theorem dX6_bestOfSites_40 : decode cX6_bestOfSites 40 = .ok (.istore_n 3, 1) := by decide +kernel
theorem dX6_bestOfSites_41 : decode cX6_bestOfSites 41 = .ok (.iload_n 3, 1) := by decide +kernel
theorem dX6_bestOfSites_42 : decode cX6_bestOfSites 42 = .ok (.ldc 126, 2) := by decide +kernel
theorem dX6_bestOfSites_44 : decode cX6_bestOfSites 44 = .ok (.if_icmp .eq 18, 3) := by decide +kernel
theorem dX6_bestOfSites_47 : decode cX6_bestOfSites 47 = .ok (.iload_n 1, 1) := by decide +kernel
theorem dX6_bestOfSites_48 : decode cX6_bestOfSites 48 = .ok (.ldc 126, 2) := by decide +kernel
theorem dX6_bestOfSites_50 : decode cX6_bestOfSites 50 = .ok (.if_icmp .eq 8, 3) := by decide +kernel
theorem dX6_bestOfSites_53 : decode cX6_bestOfSites 53 = .ok (.iload_n 3, 1) := by decide +kernel
theorem dX6_bestOfSites_54 : decode cX6_bestOfSites 54 = .ok (.iload_n 1, 1) := by decide +kernel
theorem dX6_bestOfSites_55 : decode cX6_bestOfSites 55 = .ok (.if_icmp .ge 7, 3) := by decide +kernel
theorem dX6_bestOfSites_58 : decode cX6_bestOfSites 58 = .ok (.iload_n 3, 1) := by decide +kernel
theorem dX6_bestOfSites_59 : decode cX6_bestOfSites 59 = .ok (.goto 4, 3) := by decide +kernel
theorem dX6_bestOfSites_62 : decode cX6_bestOfSites 62 = .ok (.iload_n 1, 1) := by decide +kernel
theorem dX6_bestOfSites_63 : decode cX6_bestOfSites 63 = .ok (.istore_n 1, 1) := by decide +kernel
theorem dX6_bestOfSites_64 : decode cX6_bestOfSites 64 = .ok (.iinc 2 1, 3) := by decide +kernel
theorem dX6_bestOfSites_67 : decode cX6_bestOfSites 67 = .ok (.goto (-53), 3) := by decide +kernel
theorem dX6_bestOfSites_70 : decode cX6_bestOfSites 70 = .ok (.iload_n 1, 1) := by decide +kernel
theorem dX6_bestOfSites_71 : decode cX6_bestOfSites 71 = .ok (.ireturn, 1) := by decide +kernel
theorem dX6_joins_0 : decode cX6_joins 0 = .ok (.aload_n 0, 1) := by decide +kernel
theorem dX6_joins_1 : decode cX6_joins 1 = .ok (.iconst 0, 1) := by decide +kernel
theorem dX6_joins_2 : decode cX6_joins 2 = .ok (.putfield 66, 3) := by decide +kernel
theorem dX6_joins_5 : decode cX6_joins 5 = .ok (.iload_n 1, 1) := by decide +kernel
theorem dX6_joins_6 : decode cX6_joins 6 = .ok (.i2l, 1) := by decide +kernel
theorem dX6_joins_7 : decode cX6_joins 7 = .ok (.lconst 0, 1) := by decide +kernel
theorem dX6_joins_8 : decode cX6_joins 8 = .ok (.ldc2_w 161, 3) := by decide +kernel
theorem dX6_joins_11 : decode cX6_joins 11 = .ok (.invokestatic 75, 3) := by decide +kernel
theorem dX6_joins_14 : decode cX6_joins 14 = .ok (.ifCond .ne 6, 3) := by decide +kernel
theorem dX6_joins_17 : decode cX6_joins 17 = .ok (.ldc 85, 2) := by decide +kernel
theorem dX6_joins_19 : decode cX6_joins 19 = .ok (.ireturn, 1) := by decide +kernel
theorem dX6_joins_20 : decode cX6_joins 20 = .ok (.iconst 0, 1) := by decide +kernel
theorem dX6_joins_21 : decode cX6_joins 21 = .ok (.istore_n 2, 1) := by decide +kernel
theorem dX6_joins_22 : decode cX6_joins 22 = .ok (.iconst 0, 1) := by decide +kernel
theorem dX6_joins_23 : decode cX6_joins 23 = .ok (.istore_n 3, 1) := by decide +kernel
theorem dX6_joins_24 : decode cX6_joins 24 = .ok (.iload_n 3, 1) := by decide +kernel
theorem dX6_joins_25 : decode cX6_joins 25 = .ok (.bipush 100, 2) := by decide +kernel
theorem dX6_joins_27 : decode cX6_joins 27 = .ok (.if_icmp .ge 26, 3) := by decide +kernel
theorem dX6_joins_30 : decode cX6_joins 30 = .ok (.iload_n 2, 1) := by decide +kernel
theorem dX6_joins_31 : decode cX6_joins 31 = .ok (.aload_n 0, 1) := by decide +kernel
theorem dX6_joins_32 : decode cX6_joins 32 = .ok (.getfield 54, 3) := by decide +kernel
theorem dX6_joins_35 : decode cX6_joins 35 = .ok (.iload_n 3, 1) := by decide +kernel
theorem dX6_joins_36 : decode cX6_joins 36 = .ok (.baload, 1) := by decide +kernel
theorem dX6_joins_37 : decode cX6_joins 37 = .ok (.ifCond .eq 7, 3) := by decide +kernel
theorem dX6_joins_40 : decode cX6_joins 40 = .ok (.iconst 1, 1) := by decide +kernel
theorem dX6_joins_41 : decode cX6_joins 41 = .ok (.goto 4, 3) := by decide +kernel
theorem dX6_joins_44 : decode cX6_joins 44 = .ok (.iconst 0, 1) := by decide +kernel
theorem dX6_joins_45 : decode cX6_joins 45 = .ok (.iadd, 1) := by decide +kernel
theorem dX6_joins_46 : decode cX6_joins 46 = .ok (.istore_n 2, 1) := by decide +kernel
theorem dX6_joins_47 : decode cX6_joins 47 = .ok (.iinc 3 1, 3) := by decide +kernel
theorem dX6_joins_50 : decode cX6_joins 50 = .ok (.goto (-26), 3) := by decide +kernel
theorem dX6_joins_53 : decode cX6_joins 53 = .ok (.iload_n 1, 1) := by decide +kernel
theorem dX6_joins_54 : decode cX6_joins 54 = .ok (.ifCond .ne 10, 3) := by decide +kernel
theorem dX6_joins_57 : decode cX6_joins 57 = .ok (.aload_n 0, 1) := by decide +kernel
theorem dX6_joins_58 : decode cX6_joins 58 = .ok (.getfield 178, 3) := by decide +kernel
theorem dX6_joins_61 : decode cX6_joins 61 = .ok (.goto 42, 3) := by decide +kernel
theorem dX6_joins_64 : decode cX6_joins 64 = .ok (.iload_n 1, 1) := by decide +kernel
theorem dX6_joins_65 : decode cX6_joins 65 = .ok (.iconst 1, 1) := by decide +kernel
theorem dX6_joins_66 : decode cX6_joins 66 = .ok (.if_icmp .ne 10, 3) := by decide +kernel
theorem dX6_joins_69 : decode cX6_joins 69 = .ok (.aload_n 0, 1) := by decide +kernel
theorem dX6_joins_70 : decode cX6_joins 70 = .ok (.invokevirtual 187, 3) := by decide +kernel
theorem dX6_joins_73 : decode cX6_joins 73 = .ok (.goto 30, 3) := by decide +kernel
theorem dX6_joins_76 : decode cX6_joins 76 = .ok (.iload_n 1, 1) := by decide +kernel
theorem dX6_joins_77 : decode cX6_joins 77 = .ok (.iconst 2, 1) := by decide +kernel
theorem dX6_joins_78 : decode cX6_joins 78 = .ok (.if_icmp .ne 10, 3) := by decide +kernel
theorem dX6_joins_81 : decode cX6_joins 81 = .ok (.aload_n 0, 1) := by decide +kernel
theorem dX6_joins_82 : decode cX6_joins 82 = .ok (.getfield 172, 3) := by decide +kernel
theorem dX6_joins_85 : decode cX6_joins 85 = .ok (.goto 18, 3) := by decide +kernel
theorem dX6_joins_88 : decode cX6_joins 88 = .ok (.iload_n 1, 1) := by decide +kernel
theorem dX6_joins_89 : decode cX6_joins 89 = .ok (.iconst 3, 1) := by decide +kernel
theorem dX6_joins_90 : decode cX6_joins 90 = .ok (.if_icmp .ne 10, 3) := by decide +kernel
theorem dX6_joins_93 : decode cX6_joins 93 = .ok (.aload_n 0, 1) := by decide +kernel
theorem dX6_joins_94 : decode cX6_joins 94 = .ok (.getfield 175, 3) := by decide +kernel
theorem dX6_joins_97 : decode cX6_joins 97 = .ok (.goto 6, 3) := by decide +kernel
theorem dX6_joins_100 : decode cX6_joins 100 = .ok (.iload_n 2, 1) := by decide +kernel
theorem dX6_joins_101 : decode cX6_joins 101 = .ok (.iconst 2, 1) := by decide +kernel
theorem dX6_joins_102 : decode cX6_joins 102 = .ok (.idiv, 1) := by decide +kernel
theorem dX6_joins_103 : decode cX6_joins 103 = .ok (.ireturn, 1) := by decide +kernel
theorem dX6_kindOf_0 : decode cX6_kindOf 0 = .ok (.aload_n 0, 1) := by decide +kernel
theorem dX6_kindOf_1 : decode cX6_kindOf 1 = .ok (.iload_n 1, 1) := by decide +kernel
theorem dX6_kindOf_2 : decode cX6_kindOf 2 = .ok (.invokevirtual 112, 3) := by decide +kernel
theorem dX6_kindOf_5 : decode cX6_kindOf 5 = .ok (.ifCond .eq 7, 3) := by decide +kernel
theorem dX6_kindOf_8 : decode cX6_kindOf 8 = .ok (.iconst 3, 1) := by decide +kernel
theorem dX6_kindOf_9 : decode cX6_kindOf 9 = .ok (.goto 24, 3) := by decide +kernel
theorem dX6_kindOf_12 : decode cX6_kindOf 12 = .ok (.iconst 2, 1) := by decide +kernel
theorem dX6_kindOf_13 : decode cX6_kindOf 13 = .ok (.aload_n 0, 1) := by decide +kernel
theorem dX6_kindOf_14 : decode cX6_kindOf 14 = .ok (.iload_n 1, 1) := by decide +kernel
theorem dX6_kindOf_15 : decode cX6_kindOf 15 = .ok (.invokevirtual 115, 3) := by decide +kernel
theorem dX6_kindOf_18 : decode cX6_kindOf 18 = .ok (.imul, 1) := by decide +kernel
theorem dX6_kindOf_19 : decode cX6_kindOf 19 = .ok (.aload_n 0, 1) := by decide +kernel
theorem dX6_kindOf_20 : decode cX6_kindOf 20 = .ok (.getfield 19, 3) := by decide +kernel
theorem dX6_kindOf_23 : decode cX6_kindOf 23 = .ok (.iload_n 1, 1) := by decide +kernel
theorem dX6_kindOf_24 : decode cX6_kindOf 24 = .ok (.iaload, 1) := by decide +kernel
theorem dX6_kindOf_25 : decode cX6_kindOf 25 = .ok (.if_icmp .lt 7, 3) := by decide +kernel
theorem dX6_kindOf_28 : decode cX6_kindOf 28 = .ok (.iconst 2, 1) := by decide +kernel
theorem dX6_kindOf_29 : decode cX6_kindOf 29 = .ok (.goto 4, 3) := by decide +kernel
theorem dX6_kindOf_32 : decode cX6_kindOf 32 = .ok (.iconst 1, 1) := by decide +kernel
theorem dX6_kindOf_33 : decode cX6_kindOf 33 = .ok (.ireturn, 1) := by decide +kernel
theorem dX6_kind_0 : decode cX6_kind 0 = .ok (.aload_n 0, 1) := by decide +kernel
theorem dX6_kind_1 : decode cX6_kind 1 = .ok (.iconst 0, 1) := by decide +kernel
theorem dX6_kind_2 : decode cX6_kind 2 = .ok (.putfield 66, 3) := by decide +kernel
theorem dX6_kind_5 : decode cX6_kind 5 = .ok (.aload_n 0, 1) := by decide +kernel
theorem dX6_kind_6 : decode cX6_kind 6 = .ok (.iload_n 1, 1) := by decide +kernel
theorem dX6_kind_7 : decode cX6_kind 7 = .ok (.invokevirtual 133, 3) := by decide +kernel
theorem dX6_kind_10 : decode cX6_kind 10 = .ok (.ifCond .eq 11, 3) := by decide +kernel
theorem dX6_kind_13 : decode cX6_kind 13 = .ok (.aload_n 0, 1) := by decide +kernel
theorem dX6_kind_14 : decode cX6_kind 14 = .ok (.iload_n 1, 1) := by decide +kernel
theorem dX6_kind_15 : decode cX6_kind 15 = .ok (.invokevirtual 190, 3) := by decide +kernel
theorem dX6_kind_18 : decode cX6_kind 18 = .ok (.goto 5, 3) := by decide +kernel
theorem dX6_kind_21 : decode cX6_kind 21 = .ok (.ldc 85, 2) := by decide +kernel
theorem dX6_kind_23 : decode cX6_kind 23 = .ok (.ireturn, 1) := by decide +kernel
theorem dX6_as_0 : decode cX6_as 0 = .ok (.aload_n 0, 1) := by decide +kernel
theorem dX6_as_1 : decode cX6_as 1 = .ok (.iconst 0, 1) := by decide +kernel
theorem dX6_as_2 : decode cX6_as 2 = .ok (.putfield 66, 3) := by decide +kernel
theorem dX6_as_5 : decode cX6_as 5 = .ok (.aload_n 0, 1) := by decide +kernel
theorem dX6_as_6 : decode cX6_as 6 = .ok (.iload_n 1, 1) := by decide +kernel
theorem dX6_as_7 : decode cX6_as 7 = .ok (.invokevirtual 133, 3) := by decide +kernel
theorem dX6_as_10 : decode cX6_as 10 = .ok (.ifCond .eq 15, 3) := by decide +kernel
theorem dX6_as_13 : decode cX6_as 13 = .ok (.iload_n 2, 1) := by decide +kernel
theorem dX6_as_14 : decode cX6_as 14 = .ok (.i2l, 1) := by decide +kernel
theorem dX6_as_15 : decode cX6_as 15 = .ok (.lconst 0, 1) := by decide +kernel
theorem dX6_as_16 : decode cX6_as 16 = .ok (.ldc2_w 136, 3) := by decide +kernel
theorem dX6_as_19 : decode cX6_as 19 = .ok (.invokestatic 75, 3) := by decide +kernel
theorem dX6_as_22 : decode cX6_as 22 = .ok (.ifCond .ne 6, 3) := by decide +kernel
theorem dX6_as_25 : decode cX6_as 25 = .ok (.ldc 85, 2) := by decide +kernel
theorem dX6_as_27 : decode cX6_as 27 = .ok (.ireturn, 1) := by decide +kernel
theorem dX6_as_28 : decode cX6_as 28 = .ok (.aload_n 0, 1) := by decide +kernel
theorem dX6_as_29 : decode cX6_as 29 = .ok (.iconst 0, 1) := by decide +kernel
theorem dX6_as_30 : decode cX6_as 30 = .ok (.putfield 69, 3) := by decide +kernel
theorem dX6_as_33 : decode cX6_as 33 = .ok (.aload_n 0, 1) := by decide +kernel
theorem dX6_as_34 : decode cX6_as 34 = .ok (.iload_n 1, 1) := by decide +kernel
theorem dX6_as_35 : decode cX6_as 35 = .ok (.invokevirtual 190, 3) := by decide +kernel
theorem dX6_as_38 : decode cX6_as 38 = .ok (.istore_n 3, 1) := by decide +kernel
theorem dX6_as_39 : decode cX6_as 39 = .ok (.iload_n 2, 1) := by decide +kernel
theorem dX6_as_40 : decode cX6_as 40 = .ok (.ifCond .eq 18, 3) := by decide +kernel
theorem dX6_as_43 : decode cX6_as 43 = .ok (.iload_n 3, 1) := by decide +kernel
theorem dX6_as_44 : decode cX6_as 44 = .ok (.iload_n 2, 1) := by decide +kernel
theorem dX6_as_45 : decode cX6_as 45 = .ok (.if_icmp .eq 13, 3) := by decide +kernel
theorem dX6_as_48 : decode cX6_as 48 = .ok (.iload_n 2, 1) := by decide +kernel
theorem dX6_as_49 : decode cX6_as 49 = .ok (.iconst 1, 1) := by decide +kernel
theorem dX6_as_50 : decode cX6_as 50 = .ok (.if_icmp .ne 17, 3) := by decide +kernel
theorem dX6_as_53 : decode cX6_as 53 = .ok (.iload_n 3, 1) := by decide +kernel
theorem dX6_as_54 : decode cX6_as 54 = .ok (.iconst 2, 1) := by decide +kernel
theorem dX6_as_55 : decode cX6_as 55 = .ok (.if_icmp .ne 12, 3) := by decide +kernel
theorem dX6_as_58 : decode cX6_as 58 = .ok (.aload_n 0, 1) := by decide +kernel
theorem dX6_as_59 : decode cX6_as 59 = .ok (.getfield 19, 3) := by decide +kernel
theorem dX6_as_62 : decode cX6_as 62 = .ok (.iload_n 1, 1) := by decide +kernel
theorem dX6_as_63 : decode cX6_as 63 = .ok (.iaload, 1) := by decide +kernel
theorem dX6_as_64 : decode cX6_as 64 = .ok (.goto 8, 3) := by decide +kernel
theorem dX6_as_67 : decode cX6_as 67 = .ok (.aload_n 0, 1) := by decide +kernel
theorem dX6_as_68 : decode cX6_as 68 = .ok (.iconst 3, 1) := by decide +kernel
theorem dX6_as_69 : decode cX6_as 69 = .ok (.invokevirtual 86, 3) := by decide +kernel
theorem dX6_as_72 : decode cX6_as 72 = .ok (.ireturn, 1) := by decide +kernel
theorem dX6_began_0 : decode cX6_began 0 = .ok (.aload_n 0, 1) := by decide +kernel
theorem dX6_began_1 : decode cX6_began 1 = .ok (.getfield 193, 3) := by decide +kernel
theorem dX6_began_4 : decode cX6_began 4 = .ok (.bipush 16, 2) := by decide +kernel
theorem dX6_began_6 : decode cX6_began 6 = .ok (.if_icmp .ge 23, 3) := by decide +kernel
theorem dX6_began_9 : decode cX6_began 9 = .ok (.aload_n 0, 1) := by decide +kernel
theorem dX6_began_10 : decode cX6_began 10 = .ok (.getfield 63, 3) := by decide +kernel
theorem dX6_began_13 : decode cX6_began 13 = .ok (.aload_n 0, 1) := by decide +kernel
theorem dX6_began_14 : decode cX6_began 14 = .ok (.getfield 193, 3) := by decide +kernel
theorem dX6_began_17 : decode cX6_began 17 = .ok (.iload_n 1, 1) := by decide +kernel
theorem dX6_began_18 : decode cX6_began 18 = .ok (.iastore, 1) := by decide +kernel
theorem dX6_began_19 : decode cX6_began 19 = .ok (.aload_n 0, 1) := by decide +kernel
theorem dX6_began_20 : decode cX6_began 20 = .ok (.dup, 1) := by decide +kernel
theorem dX6_began_21 : decode cX6_began 21 = .ok (.getfield 193, 3) := by decide +kernel
theorem dX6_began_24 : decode cX6_began 24 = .ok (.iconst 1, 1) := by decide +kernel
theorem dX6_began_25 : decode cX6_began 25 = .ok (.iadd, 1) := by decide +kernel
theorem dX6_began_26 : decode cX6_began 26 = .ok (.putfield 193, 3) := by decide +kernel
theorem dX6_began_29 : decode cX6_began 29 = .ok (.return_, 1) := by decide +kernel
theorem dX6_ownWorth_0 : decode cX6_ownWorth 0 = .ok (.aload_n 0, 1) := by decide +kernel
theorem dX6_ownWorth_1 : decode cX6_ownWorth 1 = .ok (.bipush 13, 2) := by decide +kernel
theorem dX6_ownWorth_3 : decode cX6_ownWorth 3 = .ok (.invokevirtual 196, 3) := by decide +kernel
theorem dX6_ownWorth_6 : decode cX6_ownWorth 6 = .ok (.aload_n 0, 1) := by decide +kernel
theorem dX6_ownWorth_7 : decode cX6_ownWorth 7 = .ok (.bipush 10, 2) := by decide +kernel
theorem dX6_ownWorth_9 : decode cX6_ownWorth 9 = .ok (.invokevirtual 196, 3) := by decide +kernel
theorem dX6_ownWorth_12 : decode cX6_ownWorth 12 = .ok (.iconst 2, 1) := by decide +kernel
theorem dX6_ownWorth_13 : decode cX6_ownWorth 13 = .ok (.aload_n 0, 1) := by decide +kernel
theorem dX6_ownWorth_14 : decode cX6_ownWorth 14 = .ok (.getfield 19, 3) := by decide +kernel
theorem dX6_ownWorth_17 : decode cX6_ownWorth 17 = .ok (.iload_n 1, 1) := by decide +kernel
theorem dX6_ownWorth_18 : decode cX6_ownWorth 18 = .ok (.iaload, 1) := by decide +kernel
theorem dX6_ownWorth_19 : decode cX6_ownWorth 19 = .ok (.imul, 1) := by decide +kernel
theorem dX6_ownWorth_20 : decode cX6_ownWorth 20 = .ok (.ireturn, 1) := by decide +kernel
theorem dX6_marked_0 : decode cX6_marked 0 = .ok (.aload_n 0, 1) := by decide +kernel
theorem dX6_marked_1 : decode cX6_marked 1 = .ok (.iload_n 1, 1) := by decide +kernel
theorem dX6_marked_2 : decode cX6_marked 2 = .ok (.invokevirtual 190, 3) := by decide +kernel
theorem dX6_marked_5 : decode cX6_marked 5 = .ok (.istore_n 2, 1) := by decide +kernel
theorem dX6_marked_6 : decode cX6_marked 6 = .ok (.iload_n 2, 1) := by decide +kernel
theorem dX6_marked_7 : decode cX6_marked 7 = .ok (.iconst 2, 1) := by decide +kernel
theorem dX6_marked_8 : decode cX6_marked 8 = .ok (.if_icmp .ne 9, 3) := by decide +kernel
theorem dX6_marked_11 : decode cX6_marked 11 = .ok (.aload_n 0, 1) := by decide +kernel
theorem dX6_marked_12 : decode cX6_marked 12 = .ok (.bipush 21, 2) := by decide +kernel
theorem dX6_marked_14 : decode cX6_marked 14 = .ok (.invokevirtual 196, 3) := by decide +kernel
theorem dX6_marked_17 : decode cX6_marked 17 = .ok (.iload_n 2, 1) := by decide +kernel
theorem dX6_marked_18 : decode cX6_marked 18 = .ok (.iconst 3, 1) := by decide +kernel
theorem dX6_marked_19 : decode cX6_marked 19 = .ok (.if_icmp .ne 9, 3) := by decide +kernel
theorem dX6_marked_22 : decode cX6_marked 22 = .ok (.aload_n 0, 1) := by decide +kernel
theorem dX6_marked_23 : decode cX6_marked 23 = .ok (.bipush 22, 2) := by decide +kernel
theorem dX6_marked_25 : decode cX6_marked 25 = .ok (.invokevirtual 196, 3) := by decide +kernel
theorem dX6_marked_28 : decode cX6_marked 28 = .ok (.aload_n 0, 1) := by decide +kernel
theorem dX6_marked_29 : decode cX6_marked 29 = .ok (.bipush 20, 2) := by decide +kernel
theorem dX6_marked_31 : decode cX6_marked 31 = .ok (.invokevirtual 196, 3) := by decide +kernel
theorem dX6_marked_34 : decode cX6_marked 34 = .ok (.aload_n 0, 1) := by decide +kernel
theorem dX6_marked_35 : decode cX6_marked 35 = .ok (.getfield 22, 3) := by decide +kernel
theorem dX6_marked_38 : decode cX6_marked 38 = .ok (.iload_n 1, 1) := by decide +kernel
theorem dX6_marked_39 : decode cX6_marked 39 = .ok (.iaload, 1) := by decide +kernel
theorem dX6_marked_40 : decode cX6_marked 40 = .ok (.invokestatic 200, 3) := by decide +kernel
theorem dX6_marked_43 : decode cX6_marked 43 = .ok (.iload_n 2, 1) := by decide +kernel
theorem dX6_marked_44 : decode cX6_marked 44 = .ok (.iconst 2, 1) := by decide +kernel
theorem dX6_marked_45 : decode cX6_marked 45 = .ok (.if_icmp .ne 8, 3) := by decide +kernel
theorem dX6_marked_48 : decode cX6_marked 48 = .ok (.bipush 100, 2) := by decide +kernel
theorem dX6_marked_50 : decode cX6_marked 50 = .ok (.goto 17, 3) := by decide +kernel
theorem dX6_marked_53 : decode cX6_marked 53 = .ok (.iload_n 2, 1) := by decide +kernel
theorem dX6_marked_54 : decode cX6_marked 54 = .ok (.iconst 3, 1) := by decide +kernel
theorem dX6_marked_55 : decode cX6_marked 55 = .ok (.if_icmp .ne 11, 3) := by decide +kernel
theorem dX6_marked_58 : decode cX6_marked 58 = .ok (.aload_n 0, 1) := by decide +kernel
theorem dX6_marked_59 : decode cX6_marked 59 = .ok (.iload_n 1, 1) := by decide +kernel
theorem dX6_marked_60 : decode cX6_marked 60 = .ok (.invokevirtual 203, 3) := by decide +kernel
theorem dX6_marked_63 : decode cX6_marked 63 = .ok (.goto 4, 3) := by decide +kernel
theorem dX6_marked_66 : decode cX6_marked 66 = .ok (.iconst 0, 1) := by decide +kernel
theorem dX6_marked_67 : decode cX6_marked 67 = .ok (.iadd, 1) := by decide +kernel
theorem dX6_marked_68 : decode cX6_marked 68 = .ok (.ireturn, 1) := by decide +kernel
theorem dX6_worth_0 : decode cX6_worth 0 = .ok (.aload_n 0, 1) := by decide +kernel
theorem dX6_worth_1 : decode cX6_worth 1 = .ok (.iload_n 1, 1) := by decide +kernel
theorem dX6_worth_2 : decode cX6_worth 2 = .ok (.invokevirtual 190, 3) := by decide +kernel
theorem dX6_worth_5 : decode cX6_worth 5 = .ok (.istore_n 2, 1) := by decide +kernel
theorem dX6_worth_6 : decode cX6_worth 6 = .ok (.iload_n 2, 1) := by decide +kernel
theorem dX6_worth_7 : decode cX6_worth 7 = .ok (.iconst 3, 1) := by decide +kernel
theorem dX6_worth_8 : decode cX6_worth 8 = .ok (.if_icmp .ne 9, 3) := by decide +kernel
theorem dX6_worth_11 : decode cX6_worth 11 = .ok (.aload_n 0, 1) := by decide +kernel
theorem dX6_worth_12 : decode cX6_worth 12 = .ok (.iload_n 1, 1) := by decide +kernel
theorem dX6_worth_13 : decode cX6_worth 13 = .ok (.invokevirtual 203, 3) := by decide +kernel
theorem dX6_worth_16 : decode cX6_worth 16 = .ok (.ireturn, 1) := by decide +kernel
theorem dX6_worth_17 : decode cX6_worth 17 = .ok (.iload_n 2, 1) := by decide +kernel
theorem dX6_worth_18 : decode cX6_worth 18 = .ok (.iconst 2, 1) := by decide +kernel
theorem dX6_worth_19 : decode cX6_worth 19 = .ok (.if_icmp .ne 9, 3) := by decide +kernel
theorem dX6_worth_22 : decode cX6_worth 22 = .ok (.aload_n 0, 1) := by decide +kernel
theorem dX6_worth_23 : decode cX6_worth 23 = .ok (.bipush 12, 2) := by decide +kernel
theorem dX6_worth_25 : decode cX6_worth 25 = .ok (.invokevirtual 196, 3) := by decide +kernel
theorem dX6_worth_28 : decode cX6_worth 28 = .ok (.aload_n 0, 1) := by decide +kernel
theorem dX6_worth_29 : decode cX6_worth 29 = .ok (.bipush 11, 2) := by decide +kernel
theorem dX6_worth_31 : decode cX6_worth 31 = .ok (.invokevirtual 196, 3) := by decide +kernel
theorem dX6_worth_34 : decode cX6_worth 34 = .ok (.aload_n 0, 1) := by decide +kernel
theorem dX6_worth_35 : decode cX6_worth 35 = .ok (.bipush 10, 2) := by decide +kernel
theorem dX6_worth_37 : decode cX6_worth 37 = .ok (.invokevirtual 196, 3) := by decide +kernel
theorem dX6_worth_40 : decode cX6_worth 40 = .ok (.aload_n 0, 1) := by decide +kernel
theorem dX6_worth_41 : decode cX6_worth 41 = .ok (.getfield 19, 3) := by decide +kernel
theorem dX6_worth_44 : decode cX6_worth 44 = .ok (.iload_n 1, 1) := by decide +kernel
theorem dX6_worth_45 : decode cX6_worth 45 = .ok (.iaload, 1) := by decide +kernel
theorem dX6_worth_46 : decode cX6_worth 46 = .ok (.aload_n 0, 1) := by decide +kernel
theorem dX6_worth_47 : decode cX6_worth 47 = .ok (.iload_n 1, 1) := by decide +kernel
theorem dX6_worth_48 : decode cX6_worth 48 = .ok (.invokevirtual 115, 3) := by decide +kernel
theorem dX6_worth_51 : decode cX6_worth 51 = .ok (.isub, 1) := by decide +kernel
theorem dX6_worth_52 : decode cX6_worth 52 = .ok (.istore_n 3, 1) := by decide +kernel
theorem dX6_worth_53 : decode cX6_worth 53 = .ok (.iload_n 2, 1) := by decide +kernel
theorem dX6_worth_54 : decode cX6_worth 54 = .ok (.iconst 2, 1) := by decide +kernel
theorem dX6_worth_55 : decode cX6_worth 55 = .ok (.if_icmp .ne 13, 3) := by decide +kernel
theorem dX6_worth_58 : decode cX6_worth 58 = .ok (.iload_n 3, 1) := by decide +kernel
theorem dX6_worth_59 : decode cX6_worth 59 = .ok (.aload_n 0, 1) := by decide +kernel
theorem dX6_worth_60 : decode cX6_worth 60 = .ok (.iload_n 1, 1) := by decide +kernel
theorem dX6_worth_61 : decode cX6_worth 61 = .ok (.invokevirtual 206, 3) := by decide +kernel
theorem dX6_worth_64 : decode cX6_worth 64 = .ok (.iadd, 1) := by decide +kernel
theorem dX6_worth_65 : decode cX6_worth 65 = .ok (.goto 4, 3) := by decide +kernel
theorem dX6_worth_68 : decode cX6_worth 68 = .ok (.iload_n 3, 1) := by decide +kernel
theorem dX6_worth_69 : decode cX6_worth 69 = .ok (.ireturn, 1) := by decide +kernel
theorem dX6_ask_0 : decode cX6_ask 0 = .ok (.aload_n 0, 1) := by decide +kernel
theorem dX6_ask_1 : decode cX6_ask 1 = .ok (.iconst 0, 1) := by decide +kernel
theorem dX6_ask_2 : decode cX6_ask 2 = .ok (.putfield 66, 3) := by decide +kernel
theorem dX6_ask_5 : decode cX6_ask 5 = .ok (.aload_n 0, 1) := by decide +kernel
theorem dX6_ask_6 : decode cX6_ask 6 = .ok (.iload_n 1, 1) := by decide +kernel
theorem dX6_ask_7 : decode cX6_ask 7 = .ok (.invokevirtual 133, 3) := by decide +kernel
theorem dX6_ask_10 : decode cX6_ask 10 = .ok (.ifCond .eq 13, 3) := by decide +kernel
theorem dX6_ask_13 : decode cX6_ask 13 = .ok (.iload_n 2, 1) := by decide +kernel
theorem dX6_ask_14 : decode cX6_ask 14 = .ok (.i2l, 1) := by decide +kernel
theorem dX6_ask_15 : decode cX6_ask 15 = .ok (.lconst 0, 1) := by decide +kernel
theorem dX6_ask_16 : decode cX6_ask 16 = .ok (.lconst 1, 1) := by decide +kernel
theorem dX6_ask_17 : decode cX6_ask 17 = .ok (.invokestatic 75, 3) := by decide +kernel
theorem dX6_ask_20 : decode cX6_ask 20 = .ok (.ifCond .ne 6, 3) := by decide +kernel
theorem dX6_ask_23 : decode cX6_ask 23 = .ok (.ldc 85, 2) := by decide +kernel
theorem dX6_ask_25 : decode cX6_ask 25 = .ok (.ireturn, 1) := by decide +kernel
theorem dX6_ask_26 : decode cX6_ask 26 = .ok (.aload_n 0, 1) := by decide +kernel
theorem dX6_ask_27 : decode cX6_ask 27 = .ok (.iconst 0, 1) := by decide +kernel
theorem dX6_ask_28 : decode cX6_ask 28 = .ok (.putfield 193, 3) := by decide +kernel
theorem dX6_ask_31 : decode cX6_ask 31 = .ok (.iload_n 2, 1) := by decide +kernel
theorem dX6_ask_32 : decode cX6_ask 32 = .ok (.ifCond .ne 11, 3) := by decide +kernel
theorem dX6_ask_35 : decode cX6_ask 35 = .ok (.aload_n 0, 1) := by decide +kernel
theorem dX6_ask_36 : decode cX6_ask 36 = .ok (.iload_n 1, 1) := by decide +kernel
theorem dX6_ask_37 : decode cX6_ask 37 = .ok (.invokevirtual 209, 3) := by decide +kernel
theorem dX6_ask_40 : decode cX6_ask 40 = .ok (.goto 8, 3) := by decide +kernel
theorem dX6_ask_43 : decode cX6_ask 43 = .ok (.aload_n 0, 1) := by decide +kernel
theorem dX6_ask_44 : decode cX6_ask 44 = .ok (.iload_n 1, 1) := by decide +kernel
theorem dX6_ask_45 : decode cX6_ask 45 = .ok (.invokevirtual 206, 3) := by decide +kernel
theorem dX6_ask_48 : decode cX6_ask 48 = .ok (.ireturn, 1) := by decide +kernel
theorem dX6_trace_0 : decode cX6_trace 0 = .ok (.aload_n 0, 1) := by decide +kernel
theorem dX6_trace_1 : decode cX6_trace 1 = .ok (.iconst 0, 1) := by decide +kernel
theorem dX6_trace_2 : decode cX6_trace 2 = .ok (.putfield 66, 3) := by decide +kernel
theorem dX6_trace_5 : decode cX6_trace 5 = .ok (.iload_n 1, 1) := by decide +kernel
theorem dX6_trace_6 : decode cX6_trace 6 = .ok (.i2l, 1) := by decide +kernel
theorem dX6_trace_7 : decode cX6_trace 7 = .ok (.lconst 0, 1) := by decide +kernel
theorem dX6_trace_8 : decode cX6_trace 8 = .ok (.aload_n 0, 1) := by decide +kernel
theorem dX6_trace_9 : decode cX6_trace 9 = .ok (.getfield 193, 3) := by decide +kernel
theorem dX6_trace_12 : decode cX6_trace 12 = .ok (.iconst 1, 1) := by decide +kernel
theorem dX6_trace_13 : decode cX6_trace 13 = .ok (.isub, 1) := by decide +kernel
theorem dX6_trace_14 : decode cX6_trace 14 = .ok (.i2l, 1) := by decide +kernel
theorem dX6_trace_15 : decode cX6_trace 15 = .ok (.invokestatic 75, 3) := by decide +kernel
theorem dX6_trace_18 : decode cX6_trace 18 = .ok (.ifCond .eq 12, 3) := by decide +kernel
theorem dX6_trace_21 : decode cX6_trace 21 = .ok (.aload_n 0, 1) := by decide +kernel
theorem dX6_trace_22 : decode cX6_trace 22 = .ok (.getfield 63, 3) := by decide +kernel
theorem dX6_trace_25 : decode cX6_trace 25 = .ok (.iload_n 1, 1) := by decide +kernel
theorem dX6_trace_26 : decode cX6_trace 26 = .ok (.iaload, 1) := by decide +kernel
theorem dX6_trace_27 : decode cX6_trace 27 = .ok (.goto 5, 3) := by decide +kernel
theorem dX6_trace_30 : decode cX6_trace 30 = .ok (.ldc 126, 2) := by decide +kernel
theorem dX6_trace_32 : decode cX6_trace 32 = .ok (.ireturn, 1) := by decide +kernel
theorem dX6_count_0 : decode cX6_count 0 = .ok (.aload_n 0, 1) := by decide +kernel
theorem dX6_count_1 : decode cX6_count 1 = .ok (.iconst 0, 1) := by decide +kernel
theorem dX6_count_2 : decode cX6_count 2 = .ok (.putfield 66, 3) := by decide +kernel
theorem dX6_count_5 : decode cX6_count 5 = .ok (.iconst 0, 1) := by decide +kernel
theorem dX6_count_6 : decode cX6_count 6 = .ok (.istore_n 2, 1) := by decide +kernel
theorem dX6_count_7 : decode cX6_count 7 = .ok (.iload_n 1, 1) := by decide +kernel
theorem dX6_count_8 : decode cX6_count 8 = .ok (.tableswitch 170 0 6 #[44, 77, 82, 90, 125, 130, 135], 44) := by decide +kernel
theorem dX6_count_52 : decode cX6_count 52 = .ok (.iconst 0, 1) := by decide +kernel
theorem dX6_count_53 : decode cX6_count 53 = .ok (.istore_n 3, 1) := by decide +kernel
theorem dX6_count_54 : decode cX6_count 54 = .ok (.iload_n 3, 1) := by decide +kernel
theorem dX6_count_55 : decode cX6_count 55 = .ok (.bipush 8, 2) := by decide +kernel
theorem dX6_count_57 : decode cX6_count 57 = .ok (.if_icmp .ge 26, 3) := by decide +kernel
theorem dX6_count_60 : decode cX6_count 60 = .ok (.iload_n 2, 1) := by decide +kernel
theorem dX6_count_61 : decode cX6_count 61 = .ok (.aload_n 0, 1) := by decide +kernel
theorem dX6_count_62 : decode cX6_count 62 = .ok (.getfield 7, 3) := by decide +kernel
theorem dX6_count_65 : decode cX6_count 65 = .ok (.iload_n 3, 1) := by decide +kernel
theorem dX6_count_66 : decode cX6_count 66 = .ok (.iaload, 1) := by decide +kernel
theorem dX6_count_67 : decode cX6_count 67 = .ok (.ifCond .lt 7, 3) := by decide +kernel
theorem dX6_count_70 : decode cX6_count 70 = .ok (.iconst 1, 1) := by decide +kernel
theorem dX6_count_71 : decode cX6_count 71 = .ok (.goto 4, 3) := by decide +kernel
theorem dX6_count_74 : decode cX6_count 74 = .ok (.iconst 0, 1) := by decide +kernel
theorem dX6_count_75 : decode cX6_count 75 = .ok (.iadd, 1) := by decide +kernel
theorem dX6_count_76 : decode cX6_count 76 = .ok (.istore_n 2, 1) := by decide +kernel
theorem dX6_count_77 : decode cX6_count 77 = .ok (.iinc 3 1, 3) := by decide +kernel
theorem dX6_count_80 : decode cX6_count 80 = .ok (.goto (-26), 3) := by decide +kernel
theorem dX6_count_83 : decode cX6_count 83 = .ok (.iload_n 2, 1) := by decide +kernel
theorem dX6_count_84 : decode cX6_count 84 = .ok (.ireturn, 1) := by decide +kernel
theorem dX6_count_85 : decode cX6_count 85 = .ok (.aload_n 0, 1) := by decide +kernel
theorem dX6_count_86 : decode cX6_count 86 = .ok (.getfield 90, 3) := by decide +kernel
theorem dX6_count_89 : decode cX6_count 89 = .ok (.ireturn, 1) := by decide +kernel
theorem dX6_count_90 : decode cX6_count 90 = .ok (.aload_n 0, 1) := by decide +kernel
theorem dX6_count_91 : decode cX6_count 91 = .ok (.getfield 93, 3) := by decide +kernel
theorem dX6_count_94 : decode cX6_count 94 = .ok (.invokestatic 200, 3) := by decide +kernel
theorem dX6_count_97 : decode cX6_count 97 = .ok (.ireturn, 1) := by decide +kernel
theorem dX6_count_98 : decode cX6_count 98 = .ok (.iconst 0, 1) := by decide +kernel
theorem dX6_count_99 : decode cX6_count 99 = .ok (.istore_n 3, 1) := by decide +kernel
theorem dX6_count_100 : decode cX6_count 100 = .ok (.iload_n 3, 1) := by decide +kernel
theorem dX6_count_101 : decode cX6_count 101 = .ok (.aload_n 0, 1) := by decide +kernel
theorem dX6_count_102 : decode cX6_count 102 = .ok (.getfield 90, 3) := by decide +kernel
theorem dX6_count_105 : decode cX6_count 105 = .ok (.if_icmp .ge 26, 3) := by decide +kernel
theorem dX6_count_108 : decode cX6_count 108 = .ok (.iload_n 2, 1) := by decide +kernel
theorem dX6_count_109 : decode cX6_count 109 = .ok (.aload_n 0, 1) := by decide +kernel
theorem dX6_count_110 : decode cX6_count 110 = .ok (.iload_n 3, 1) := by decide +kernel
theorem dX6_count_111 : decode cX6_count 111 = .ok (.invokevirtual 190, 3) := by decide +kernel
theorem dX6_count_114 : decode cX6_count 114 = .ok (.iconst 2, 1) := by decide +kernel
theorem dX6_count_115 : decode cX6_count 115 = .ok (.if_icmp .ne 7, 3) := by decide +kernel
theorem dX6_count_118 : decode cX6_count 118 = .ok (.iconst 1, 1) := by decide +kernel
theorem dX6_count_119 : decode cX6_count 119 = .ok (.goto 4, 3) := by decide +kernel
theorem dX6_count_122 : decode cX6_count 122 = .ok (.iconst 0, 1) := by decide +kernel
theorem dX6_count_123 : decode cX6_count 123 = .ok (.iadd, 1) := by decide +kernel
theorem dX6_count_124 : decode cX6_count 124 = .ok (.istore_n 2, 1) := by decide +kernel
theorem dX6_count_125 : decode cX6_count 125 = .ok (.iinc 3 1, 3) := by decide +kernel
theorem dX6_count_128 : decode cX6_count 128 = .ok (.goto (-28), 3) := by decide +kernel
theorem dX6_count_131 : decode cX6_count 131 = .ok (.iload_n 2, 1) := by decide +kernel
theorem dX6_count_132 : decode cX6_count 132 = .ok (.ireturn, 1) := by decide +kernel
theorem dX6_count_133 : decode cX6_count 133 = .ok (.aload_n 0, 1) := by decide +kernel
theorem dX6_count_134 : decode cX6_count 134 = .ok (.getfield 140, 3) := by decide +kernel
theorem dX6_count_137 : decode cX6_count 137 = .ok (.ireturn, 1) := by decide +kernel
theorem dX6_count_138 : decode cX6_count 138 = .ok (.aload_n 0, 1) := by decide +kernel
theorem dX6_count_139 : decode cX6_count 139 = .ok (.getfield 166, 3) := by decide +kernel
theorem dX6_count_142 : decode cX6_count 142 = .ok (.ireturn, 1) := by decide +kernel
theorem dX6_count_143 : decode cX6_count 143 = .ok (.iconst 0, 1) := by decide +kernel
theorem dX6_count_144 : decode cX6_count 144 = .ok (.istore_n 3, 1) := by decide +kernel
theorem dX6_count_145 : decode cX6_count 145 = .ok (.iload_n 3, 1) := by decide +kernel
theorem dX6_count_146 : decode cX6_count 146 = .ok (.bipush 100, 2) := by decide +kernel
theorem dX6_count_148 : decode cX6_count 148 = .ok (.if_icmp .ge 26, 3) := by decide +kernel
theorem dX6_count_151 : decode cX6_count 151 = .ok (.iload_n 2, 1) := by decide +kernel
theorem dX6_count_152 : decode cX6_count 152 = .ok (.aload_n 0, 1) := by decide +kernel
theorem dX6_count_153 : decode cX6_count 153 = .ok (.getfield 51, 3) := by decide +kernel
theorem dX6_count_156 : decode cX6_count 156 = .ok (.iload_n 3, 1) := by decide +kernel
theorem dX6_count_157 : decode cX6_count 157 = .ok (.iaload, 1) := by decide +kernel
theorem dX6_count_158 : decode cX6_count 158 = .ok (.ifCond .le 7, 3) := by decide +kernel
theorem dX6_count_161 : decode cX6_count 161 = .ok (.iconst 1, 1) := by decide +kernel
theorem dX6_count_162 : decode cX6_count 162 = .ok (.goto 4, 3) := by decide +kernel
theorem dX6_count_165 : decode cX6_count 165 = .ok (.iconst 0, 1) := by decide +kernel
theorem dX6_count_166 : decode cX6_count 166 = .ok (.iadd, 1) := by decide +kernel
theorem dX6_count_167 : decode cX6_count 167 = .ok (.istore_n 2, 1) := by decide +kernel
theorem dX6_count_168 : decode cX6_count 168 = .ok (.iinc 3 1, 3) := by decide +kernel
theorem dX6_count_171 : decode cX6_count 171 = .ok (.goto (-26), 3) := by decide +kernel
theorem dX6_count_174 : decode cX6_count 174 = .ok (.iload_n 2, 1) := by decide +kernel
theorem dX6_count_175 : decode cX6_count 175 = .ok (.iconst 2, 1) := by decide +kernel
theorem dX6_count_176 : decode cX6_count 176 = .ok (.idiv, 1) := by decide +kernel
theorem dX6_count_177 : decode cX6_count 177 = .ok (.ireturn, 1) := by decide +kernel
theorem dX6_count_178 : decode cX6_count 178 = .ok (.ldc 85, 2) := by decide +kernel
theorem dX6_count_180 : decode cX6_count 180 = .ok (.ireturn, 1) := by decide +kernel
theorem dX6_status_0 : decode cX6_status 0 = .ok (.aload_n 0, 1) := by decide +kernel
theorem dX6_status_1 : decode cX6_status 1 = .ok (.iconst 0, 1) := by decide +kernel
theorem dX6_status_2 : decode cX6_status 2 = .ok (.putfield 66, 3) := by decide +kernel
theorem dX6_status_5 : decode cX6_status 5 = .ok (.aload_n 0, 1) := by decide +kernel
theorem dX6_status_6 : decode cX6_status 6 = .ok (.getfield 69, 3) := by decide +kernel
theorem dX6_status_9 : decode cX6_status 9 = .ok (.ireturn, 1) := by decide +kernel
end
section
theorem dL_law_0 : decode cL_law 0 = .ok (.new 7, 3) := by decide +kernel
theorem dL_law_3 : decode cL_law 3 = .ok (.dup, 1) := by decide +kernel
theorem dL_law_4 : decode cL_law 4 = .ok (.invokespecial 9, 3) := by decide +kernel
theorem dL_law_7 : decode cL_law 7 = .ok (.astore_n 1, 1) := by decide +kernel
theorem dL_law_8 : decode cL_law 8 = .ok (.new 10, 3) := by decide +kernel
theorem dL_law_11 : decode cL_law 11 = .ok (.dup, 1) := by decide +kernel
theorem dL_law_12 : decode cL_law 12 = .ok (.invokespecial 12, 3) := by decide +kernel
theorem dL_law_15 : decode cL_law 15 = .ok (.astore_n 2, 1) := by decide +kernel
theorem dL_law_16 : decode cL_law 16 = .ok (.iconst 0, 1) := by decide +kernel
theorem dL_law_17 : decode cL_law 17 = .ok (.istore_n 3, 1) := by decide +kernel
theorem dL_law_18 : decode cL_law 18 = .ok (.iload_n 3, 1) := by decide +kernel
theorem dL_law_19 : decode cL_law 19 = .ok (.aload_n 0, 1) := by decide +kernel
theorem dL_law_20 : decode cL_law 20 = .ok (.arraylength, 1) := by decide +kernel
theorem dL_law_21 : decode cL_law 21 = .ok (.bipush 6, 2) := by decide +kernel
theorem dL_law_23 : decode cL_law 23 = .ok (.isub, 1) := by decide +kernel
theorem dL_law_24 : decode cL_law 24 = .ok (.if_icmp .gt 828, 3) := by decide +kernel
theorem dL_law_27 : decode cL_law 27 = .ok (.aload_n 0, 1) := by decide +kernel
theorem dL_law_28 : decode cL_law 28 = .ok (.iload_n 3, 1) := by decide +kernel
theorem dL_law_29 : decode cL_law 29 = .ok (.iaload, 1) := by decide +kernel
theorem dL_law_30 : decode cL_law 30 = .ok (.bipush 31, 2) := by decide +kernel
theorem dL_law_32 : decode cL_law 32 = .ok (.iand, 1) := by decide +kernel
theorem dL_law_33 : decode cL_law 33 = .ok (.tableswitch 813 0 23 #[111, 154, 197, 260, 283, 316, 339, 382, 405, 438, 461, 494, 517, 540, 563, 576, 619, 642, 665, 688, 721, 754, 777, 800], 111) := by decide +kernel
theorem dL_law_144 : decode cL_law 144 = .ok (.aload_n 1, 1) := by decide +kernel
theorem dL_law_145 : decode cL_law 145 = .ok (.aload_n 0, 1) := by decide +kernel
theorem dL_law_146 : decode cL_law 146 = .ok (.iload_n 3, 1) := by decide +kernel
theorem dL_law_147 : decode cL_law 147 = .ok (.iconst 1, 1) := by decide +kernel
theorem dL_law_148 : decode cL_law 148 = .ok (.iadd, 1) := by decide +kernel
theorem dL_law_149 : decode cL_law 149 = .ok (.iaload, 1) := by decide +kernel
theorem dL_law_150 : decode cL_law 150 = .ok (.aload_n 0, 1) := by decide +kernel
theorem dL_law_151 : decode cL_law 151 = .ok (.iload_n 3, 1) := by decide +kernel
theorem dL_law_152 : decode cL_law 152 = .ok (.iconst 2, 1) := by decide +kernel
theorem dL_law_153 : decode cL_law 153 = .ok (.iadd, 1) := by decide +kernel
theorem dL_law_154 : decode cL_law 154 = .ok (.iaload, 1) := by decide +kernel
theorem dL_law_155 : decode cL_law 155 = .ok (.aload_n 0, 1) := by decide +kernel
theorem dL_law_156 : decode cL_law 156 = .ok (.iload_n 3, 1) := by decide +kernel
theorem dL_law_157 : decode cL_law 157 = .ok (.iconst 3, 1) := by decide +kernel
theorem dL_law_158 : decode cL_law 158 = .ok (.iadd, 1) := by decide +kernel
theorem dL_law_159 : decode cL_law 159 = .ok (.iaload, 1) := by decide +kernel
theorem dL_law_160 : decode cL_law 160 = .ok (.invokevirtual 13, 3) := by decide +kernel
theorem dL_law_163 : decode cL_law 163 = .ok (.aload_n 2, 1) := by decide +kernel
theorem dL_law_164 : decode cL_law 164 = .ok (.aload_n 0, 1) := by decide +kernel
theorem dL_law_165 : decode cL_law 165 = .ok (.iload_n 3, 1) := by decide +kernel
theorem dL_law_166 : decode cL_law 166 = .ok (.iconst 1, 1) := by decide +kernel
theorem dL_law_167 : decode cL_law 167 = .ok (.iadd, 1) := by decide +kernel
theorem dL_law_168 : decode cL_law 168 = .ok (.iaload, 1) := by decide +kernel
theorem dL_law_169 : decode cL_law 169 = .ok (.aload_n 0, 1) := by decide +kernel
theorem dL_law_170 : decode cL_law 170 = .ok (.iload_n 3, 1) := by decide +kernel
theorem dL_law_171 : decode cL_law 171 = .ok (.iconst 2, 1) := by decide +kernel
theorem dL_law_172 : decode cL_law 172 = .ok (.iadd, 1) := by decide +kernel
theorem dL_law_173 : decode cL_law 173 = .ok (.iaload, 1) := by decide +kernel
theorem dL_law_174 : decode cL_law 174 = .ok (.aload_n 0, 1) := by decide +kernel
theorem dL_law_175 : decode cL_law 175 = .ok (.iload_n 3, 1) := by decide +kernel
theorem dL_law_176 : decode cL_law 176 = .ok (.iconst 3, 1) := by decide +kernel
theorem dL_law_177 : decode cL_law 177 = .ok (.iadd, 1) := by decide +kernel
theorem dL_law_178 : decode cL_law 178 = .ok (.iaload, 1) := by decide +kernel
theorem dL_law_179 : decode cL_law 179 = .ok (.invokevirtual 17, 3) := by decide +kernel
theorem dL_law_182 : decode cL_law 182 = .ok (.if_icmp .eq 664, 3) := by decide +kernel
theorem dL_law_185 : decode cL_law 185 = .ok (.iconst 0, 1) := by decide +kernel
theorem dL_law_186 : decode cL_law 186 = .ok (.ireturn, 1) := by decide +kernel
theorem dL_law_187 : decode cL_law 187 = .ok (.aload_n 1, 1) := by decide +kernel
theorem dL_law_188 : decode cL_law 188 = .ok (.aload_n 0, 1) := by decide +kernel
theorem dL_law_189 : decode cL_law 189 = .ok (.iload_n 3, 1) := by decide +kernel
theorem dL_law_190 : decode cL_law 190 = .ok (.iconst 1, 1) := by decide +kernel
theorem dL_law_191 : decode cL_law 191 = .ok (.iadd, 1) := by decide +kernel
theorem dL_law_192 : decode cL_law 192 = .ok (.iaload, 1) := by decide +kernel
theorem dL_law_193 : decode cL_law 193 = .ok (.aload_n 0, 1) := by decide +kernel
theorem dL_law_194 : decode cL_law 194 = .ok (.iload_n 3, 1) := by decide +kernel
theorem dL_law_195 : decode cL_law 195 = .ok (.iconst 2, 1) := by decide +kernel
theorem dL_law_196 : decode cL_law 196 = .ok (.iadd, 1) := by decide +kernel
theorem dL_law_197 : decode cL_law 197 = .ok (.iaload, 1) := by decide +kernel
theorem dL_law_198 : decode cL_law 198 = .ok (.aload_n 0, 1) := by decide +kernel
theorem dL_law_199 : decode cL_law 199 = .ok (.iload_n 3, 1) := by decide +kernel
theorem dL_law_200 : decode cL_law 200 = .ok (.iconst 3, 1) := by decide +kernel
theorem dL_law_201 : decode cL_law 201 = .ok (.iadd, 1) := by decide +kernel
theorem dL_law_202 : decode cL_law 202 = .ok (.iaload, 1) := by decide +kernel
theorem dL_law_203 : decode cL_law 203 = .ok (.invokevirtual 18, 3) := by decide +kernel
theorem dL_law_206 : decode cL_law 206 = .ok (.aload_n 2, 1) := by decide +kernel
theorem dL_law_207 : decode cL_law 207 = .ok (.aload_n 0, 1) := by decide +kernel
theorem dL_law_208 : decode cL_law 208 = .ok (.iload_n 3, 1) := by decide +kernel
theorem dL_law_209 : decode cL_law 209 = .ok (.iconst 1, 1) := by decide +kernel
theorem dL_law_210 : decode cL_law 210 = .ok (.iadd, 1) := by decide +kernel
theorem dL_law_211 : decode cL_law 211 = .ok (.iaload, 1) := by decide +kernel
theorem dL_law_212 : decode cL_law 212 = .ok (.aload_n 0, 1) := by decide +kernel
theorem dL_law_213 : decode cL_law 213 = .ok (.iload_n 3, 1) := by decide +kernel
theorem dL_law_214 : decode cL_law 214 = .ok (.iconst 2, 1) := by decide +kernel
theorem dL_law_215 : decode cL_law 215 = .ok (.iadd, 1) := by decide +kernel
theorem dL_law_216 : decode cL_law 216 = .ok (.iaload, 1) := by decide +kernel
theorem dL_law_217 : decode cL_law 217 = .ok (.aload_n 0, 1) := by decide +kernel
theorem dL_law_218 : decode cL_law 218 = .ok (.iload_n 3, 1) := by decide +kernel
theorem dL_law_219 : decode cL_law 219 = .ok (.iconst 3, 1) := by decide +kernel
theorem dL_law_220 : decode cL_law 220 = .ok (.iadd, 1) := by decide +kernel
theorem dL_law_221 : decode cL_law 221 = .ok (.iaload, 1) := by decide +kernel
theorem dL_law_222 : decode cL_law 222 = .ok (.invokevirtual 21, 3) := by decide +kernel
theorem dL_law_225 : decode cL_law 225 = .ok (.if_icmp .eq 621, 3) := by decide +kernel
theorem dL_law_228 : decode cL_law 228 = .ok (.iconst 0, 1) := by decide +kernel
theorem dL_law_229 : decode cL_law 229 = .ok (.ireturn, 1) := by decide +kernel
theorem dL_law_230 : decode cL_law 230 = .ok (.aload_n 1, 1) := by decide +kernel
theorem dL_law_231 : decode cL_law 231 = .ok (.aload_n 0, 1) := by decide +kernel
theorem dL_law_232 : decode cL_law 232 = .ok (.iload_n 3, 1) := by decide +kernel
theorem dL_law_233 : decode cL_law 233 = .ok (.iconst 1, 1) := by decide +kernel
theorem dL_law_234 : decode cL_law 234 = .ok (.iadd, 1) := by decide +kernel
theorem dL_law_235 : decode cL_law 235 = .ok (.iaload, 1) := by decide +kernel
theorem dL_law_236 : decode cL_law 236 = .ok (.aload_n 0, 1) := by decide +kernel
theorem dL_law_237 : decode cL_law 237 = .ok (.iload_n 3, 1) := by decide +kernel
theorem dL_law_238 : decode cL_law 238 = .ok (.iconst 2, 1) := by decide +kernel
theorem dL_law_239 : decode cL_law 239 = .ok (.iadd, 1) := by decide +kernel
theorem dL_law_240 : decode cL_law 240 = .ok (.iaload, 1) := by decide +kernel
theorem dL_law_241 : decode cL_law 241 = .ok (.aload_n 0, 1) := by decide +kernel
theorem dL_law_242 : decode cL_law 242 = .ok (.iload_n 3, 1) := by decide +kernel
theorem dL_law_243 : decode cL_law 243 = .ok (.iconst 3, 1) := by decide +kernel
theorem dL_law_244 : decode cL_law 244 = .ok (.iadd, 1) := by decide +kernel
theorem dL_law_245 : decode cL_law 245 = .ok (.iaload, 1) := by decide +kernel
theorem dL_law_246 : decode cL_law 246 = .ok (.aload_n 0, 1) := by decide +kernel
theorem dL_law_247 : decode cL_law 247 = .ok (.iload_n 3, 1) := by decide +kernel
theorem dL_law_248 : decode cL_law 248 = .ok (.iconst 4, 1) := by decide +kernel
theorem dL_law_249 : decode cL_law 249 = .ok (.iadd, 1) := by decide +kernel
theorem dL_law_250 : decode cL_law 250 = .ok (.iaload, 1) := by decide +kernel
theorem dL_law_251 : decode cL_law 251 = .ok (.aload_n 0, 1) := by decide +kernel
theorem dL_law_252 : decode cL_law 252 = .ok (.iload_n 3, 1) := by decide +kernel
theorem dL_law_253 : decode cL_law 253 = .ok (.iconst 5, 1) := by decide +kernel
theorem dL_law_254 : decode cL_law 254 = .ok (.iadd, 1) := by decide +kernel
theorem dL_law_255 : decode cL_law 255 = .ok (.iaload, 1) := by decide +kernel
theorem dL_law_256 : decode cL_law 256 = .ok (.invokevirtual 22, 3) := by decide +kernel
theorem dL_law_259 : decode cL_law 259 = .ok (.aload_n 2, 1) := by decide +kernel
theorem dL_law_260 : decode cL_law 260 = .ok (.aload_n 0, 1) := by decide +kernel
theorem dL_law_261 : decode cL_law 261 = .ok (.iload_n 3, 1) := by decide +kernel
theorem dL_law_262 : decode cL_law 262 = .ok (.iconst 1, 1) := by decide +kernel
theorem dL_law_263 : decode cL_law 263 = .ok (.iadd, 1) := by decide +kernel
theorem dL_law_264 : decode cL_law 264 = .ok (.iaload, 1) := by decide +kernel
theorem dL_law_265 : decode cL_law 265 = .ok (.aload_n 0, 1) := by decide +kernel
theorem dL_law_266 : decode cL_law 266 = .ok (.iload_n 3, 1) := by decide +kernel
theorem dL_law_267 : decode cL_law 267 = .ok (.iconst 2, 1) := by decide +kernel
theorem dL_law_268 : decode cL_law 268 = .ok (.iadd, 1) := by decide +kernel
theorem dL_law_269 : decode cL_law 269 = .ok (.iaload, 1) := by decide +kernel
theorem dL_law_270 : decode cL_law 270 = .ok (.aload_n 0, 1) := by decide +kernel
theorem dL_law_271 : decode cL_law 271 = .ok (.iload_n 3, 1) := by decide +kernel
theorem dL_law_272 : decode cL_law 272 = .ok (.iconst 3, 1) := by decide +kernel
theorem dL_law_273 : decode cL_law 273 = .ok (.iadd, 1) := by decide +kernel
theorem dL_law_274 : decode cL_law 274 = .ok (.iaload, 1) := by decide +kernel
theorem dL_law_275 : decode cL_law 275 = .ok (.aload_n 0, 1) := by decide +kernel
theorem dL_law_276 : decode cL_law 276 = .ok (.iload_n 3, 1) := by decide +kernel
theorem dL_law_277 : decode cL_law 277 = .ok (.iconst 4, 1) := by decide +kernel
theorem dL_law_278 : decode cL_law 278 = .ok (.iadd, 1) := by decide +kernel
theorem dL_law_279 : decode cL_law 279 = .ok (.iaload, 1) := by decide +kernel
theorem dL_law_280 : decode cL_law 280 = .ok (.aload_n 0, 1) := by decide +kernel
theorem dL_law_281 : decode cL_law 281 = .ok (.iload_n 3, 1) := by decide +kernel
theorem dL_law_282 : decode cL_law 282 = .ok (.iconst 5, 1) := by decide +kernel
theorem dL_law_283 : decode cL_law 283 = .ok (.iadd, 1) := by decide +kernel
theorem dL_law_284 : decode cL_law 284 = .ok (.iaload, 1) := by decide +kernel
theorem dL_law_285 : decode cL_law 285 = .ok (.invokevirtual 26, 3) := by decide +kernel
theorem dL_law_288 : decode cL_law 288 = .ok (.if_icmp .eq 558, 3) := by decide +kernel
theorem dL_law_291 : decode cL_law 291 = .ok (.iconst 0, 1) := by decide +kernel
theorem dL_law_292 : decode cL_law 292 = .ok (.ireturn, 1) := by decide +kernel
theorem dL_law_293 : decode cL_law 293 = .ok (.aload_n 1, 1) := by decide +kernel
theorem dL_law_294 : decode cL_law 294 = .ok (.aload_n 0, 1) := by decide +kernel
theorem dL_law_295 : decode cL_law 295 = .ok (.iload_n 3, 1) := by decide +kernel
theorem dL_law_296 : decode cL_law 296 = .ok (.iconst 1, 1) := by decide +kernel
theorem dL_law_297 : decode cL_law 297 = .ok (.iadd, 1) := by decide +kernel
theorem dL_law_298 : decode cL_law 298 = .ok (.iaload, 1) := by decide +kernel
theorem dL_law_299 : decode cL_law 299 = .ok (.invokevirtual 27, 3) := by decide +kernel
theorem dL_law_302 : decode cL_law 302 = .ok (.aload_n 2, 1) := by decide +kernel
theorem dL_law_303 : decode cL_law 303 = .ok (.aload_n 0, 1) := by decide +kernel
theorem dL_law_304 : decode cL_law 304 = .ok (.iload_n 3, 1) := by decide +kernel
theorem dL_law_305 : decode cL_law 305 = .ok (.iconst 1, 1) := by decide +kernel
theorem dL_law_306 : decode cL_law 306 = .ok (.iadd, 1) := by decide +kernel
theorem dL_law_307 : decode cL_law 307 = .ok (.iaload, 1) := by decide +kernel
theorem dL_law_308 : decode cL_law 308 = .ok (.invokevirtual 31, 3) := by decide +kernel
theorem dL_law_311 : decode cL_law 311 = .ok (.if_icmp .eq 535, 3) := by decide +kernel
theorem dL_law_314 : decode cL_law 314 = .ok (.iconst 0, 1) := by decide +kernel
theorem dL_law_315 : decode cL_law 315 = .ok (.ireturn, 1) := by decide +kernel
theorem dL_law_316 : decode cL_law 316 = .ok (.aload_n 1, 1) := by decide +kernel
theorem dL_law_317 : decode cL_law 317 = .ok (.aload_n 0, 1) := by decide +kernel
theorem dL_law_318 : decode cL_law 318 = .ok (.iload_n 3, 1) := by decide +kernel
theorem dL_law_319 : decode cL_law 319 = .ok (.iconst 1, 1) := by decide +kernel
theorem dL_law_320 : decode cL_law 320 = .ok (.iadd, 1) := by decide +kernel
theorem dL_law_321 : decode cL_law 321 = .ok (.iaload, 1) := by decide +kernel
theorem dL_law_322 : decode cL_law 322 = .ok (.aload_n 0, 1) := by decide +kernel
theorem dL_law_323 : decode cL_law 323 = .ok (.iload_n 3, 1) := by decide +kernel
theorem dL_law_324 : decode cL_law 324 = .ok (.iconst 2, 1) := by decide +kernel
theorem dL_law_325 : decode cL_law 325 = .ok (.iadd, 1) := by decide +kernel
theorem dL_law_326 : decode cL_law 326 = .ok (.iaload, 1) := by decide +kernel
theorem dL_law_327 : decode cL_law 327 = .ok (.invokevirtual 32, 3) := by decide +kernel
theorem dL_law_330 : decode cL_law 330 = .ok (.aload_n 2, 1) := by decide +kernel
theorem dL_law_331 : decode cL_law 331 = .ok (.aload_n 0, 1) := by decide +kernel
theorem dL_law_332 : decode cL_law 332 = .ok (.iload_n 3, 1) := by decide +kernel
theorem dL_law_333 : decode cL_law 333 = .ok (.iconst 1, 1) := by decide +kernel
theorem dL_law_334 : decode cL_law 334 = .ok (.iadd, 1) := by decide +kernel
theorem dL_law_335 : decode cL_law 335 = .ok (.iaload, 1) := by decide +kernel
theorem dL_law_336 : decode cL_law 336 = .ok (.aload_n 0, 1) := by decide +kernel
theorem dL_law_337 : decode cL_law 337 = .ok (.iload_n 3, 1) := by decide +kernel
theorem dL_law_338 : decode cL_law 338 = .ok (.iconst 2, 1) := by decide +kernel
theorem dL_law_339 : decode cL_law 339 = .ok (.iadd, 1) := by decide +kernel
theorem dL_law_340 : decode cL_law 340 = .ok (.iaload, 1) := by decide +kernel
theorem dL_law_341 : decode cL_law 341 = .ok (.invokevirtual 36, 3) := by decide +kernel
theorem dL_law_344 : decode cL_law 344 = .ok (.if_icmp .eq 502, 3) := by decide +kernel
theorem dL_law_347 : decode cL_law 347 = .ok (.iconst 0, 1) := by decide +kernel
theorem dL_law_348 : decode cL_law 348 = .ok (.ireturn, 1) := by decide +kernel
theorem dL_law_349 : decode cL_law 349 = .ok (.aload_n 1, 1) := by decide +kernel
theorem dL_law_350 : decode cL_law 350 = .ok (.aload_n 0, 1) := by decide +kernel
theorem dL_law_351 : decode cL_law 351 = .ok (.iload_n 3, 1) := by decide +kernel
theorem dL_law_352 : decode cL_law 352 = .ok (.iconst 1, 1) := by decide +kernel
theorem dL_law_353 : decode cL_law 353 = .ok (.iadd, 1) := by decide +kernel
theorem dL_law_354 : decode cL_law 354 = .ok (.iaload, 1) := by decide +kernel
theorem dL_law_355 : decode cL_law 355 = .ok (.invokevirtual 37, 3) := by decide +kernel
theorem dL_law_358 : decode cL_law 358 = .ok (.aload_n 2, 1) := by decide +kernel
theorem dL_law_359 : decode cL_law 359 = .ok (.aload_n 0, 1) := by decide +kernel
theorem dL_law_360 : decode cL_law 360 = .ok (.iload_n 3, 1) := by decide +kernel
theorem dL_law_361 : decode cL_law 361 = .ok (.iconst 1, 1) := by decide +kernel
theorem dL_law_362 : decode cL_law 362 = .ok (.iadd, 1) := by decide +kernel
theorem dL_law_363 : decode cL_law 363 = .ok (.iaload, 1) := by decide +kernel
theorem dL_law_364 : decode cL_law 364 = .ok (.invokevirtual 40, 3) := by decide +kernel
theorem dL_law_367 : decode cL_law 367 = .ok (.if_icmp .eq 479, 3) := by decide +kernel
theorem dL_law_370 : decode cL_law 370 = .ok (.iconst 0, 1) := by decide +kernel
theorem dL_law_371 : decode cL_law 371 = .ok (.ireturn, 1) := by decide +kernel
theorem dL_law_372 : decode cL_law 372 = .ok (.aload_n 1, 1) := by decide +kernel
theorem dL_law_373 : decode cL_law 373 = .ok (.aload_n 0, 1) := by decide +kernel
theorem dL_law_374 : decode cL_law 374 = .ok (.iload_n 3, 1) := by decide +kernel
theorem dL_law_375 : decode cL_law 375 = .ok (.iconst 1, 1) := by decide +kernel
theorem dL_law_376 : decode cL_law 376 = .ok (.iadd, 1) := by decide +kernel
theorem dL_law_377 : decode cL_law 377 = .ok (.iaload, 1) := by decide +kernel
theorem dL_law_378 : decode cL_law 378 = .ok (.aload_n 0, 1) := by decide +kernel
theorem dL_law_379 : decode cL_law 379 = .ok (.iload_n 3, 1) := by decide +kernel
theorem dL_law_380 : decode cL_law 380 = .ok (.iconst 2, 1) := by decide +kernel
theorem dL_law_381 : decode cL_law 381 = .ok (.iadd, 1) := by decide +kernel
theorem dL_law_382 : decode cL_law 382 = .ok (.iaload, 1) := by decide +kernel
theorem dL_law_383 : decode cL_law 383 = .ok (.aload_n 0, 1) := by decide +kernel
theorem dL_law_384 : decode cL_law 384 = .ok (.iload_n 3, 1) := by decide +kernel
theorem dL_law_385 : decode cL_law 385 = .ok (.iconst 3, 1) := by decide +kernel
theorem dL_law_386 : decode cL_law 386 = .ok (.iadd, 1) := by decide +kernel
theorem dL_law_387 : decode cL_law 387 = .ok (.iaload, 1) := by decide +kernel
theorem dL_law_388 : decode cL_law 388 = .ok (.invokevirtual 41, 3) := by decide +kernel
theorem dL_law_391 : decode cL_law 391 = .ok (.aload_n 2, 1) := by decide +kernel
theorem dL_law_392 : decode cL_law 392 = .ok (.aload_n 0, 1) := by decide +kernel
theorem dL_law_393 : decode cL_law 393 = .ok (.iload_n 3, 1) := by decide +kernel
theorem dL_law_394 : decode cL_law 394 = .ok (.iconst 1, 1) := by decide +kernel
theorem dL_law_395 : decode cL_law 395 = .ok (.iadd, 1) := by decide +kernel
theorem dL_law_396 : decode cL_law 396 = .ok (.iaload, 1) := by decide +kernel
theorem dL_law_397 : decode cL_law 397 = .ok (.aload_n 0, 1) := by decide +kernel
theorem dL_law_398 : decode cL_law 398 = .ok (.iload_n 3, 1) := by decide +kernel
theorem dL_law_399 : decode cL_law 399 = .ok (.iconst 2, 1) := by decide +kernel
theorem dL_law_400 : decode cL_law 400 = .ok (.iadd, 1) := by decide +kernel
theorem dL_law_401 : decode cL_law 401 = .ok (.iaload, 1) := by decide +kernel
theorem dL_law_402 : decode cL_law 402 = .ok (.aload_n 0, 1) := by decide +kernel
theorem dL_law_403 : decode cL_law 403 = .ok (.iload_n 3, 1) := by decide +kernel
theorem dL_law_404 : decode cL_law 404 = .ok (.iconst 3, 1) := by decide +kernel
theorem dL_law_405 : decode cL_law 405 = .ok (.iadd, 1) := by decide +kernel
theorem dL_law_406 : decode cL_law 406 = .ok (.iaload, 1) := by decide +kernel
theorem dL_law_407 : decode cL_law 407 = .ok (.invokevirtual 44, 3) := by decide +kernel
theorem dL_law_410 : decode cL_law 410 = .ok (.if_icmp .eq 436, 3) := by decide +kernel
theorem dL_law_413 : decode cL_law 413 = .ok (.iconst 0, 1) := by decide +kernel
theorem dL_law_414 : decode cL_law 414 = .ok (.ireturn, 1) := by decide +kernel
theorem dL_law_415 : decode cL_law 415 = .ok (.aload_n 1, 1) := by decide +kernel
theorem dL_law_416 : decode cL_law 416 = .ok (.aload_n 0, 1) := by decide +kernel
theorem dL_law_417 : decode cL_law 417 = .ok (.iload_n 3, 1) := by decide +kernel
theorem dL_law_418 : decode cL_law 418 = .ok (.iconst 1, 1) := by decide +kernel
theorem dL_law_419 : decode cL_law 419 = .ok (.iadd, 1) := by decide +kernel
theorem dL_law_420 : decode cL_law 420 = .ok (.iaload, 1) := by decide +kernel
theorem dL_law_421 : decode cL_law 421 = .ok (.invokevirtual 45, 3) := by decide +kernel
theorem dL_law_424 : decode cL_law 424 = .ok (.aload_n 2, 1) := by decide +kernel
theorem dL_law_425 : decode cL_law 425 = .ok (.aload_n 0, 1) := by decide +kernel
theorem dL_law_426 : decode cL_law 426 = .ok (.iload_n 3, 1) := by decide +kernel
theorem dL_law_427 : decode cL_law 427 = .ok (.iconst 1, 1) := by decide +kernel
theorem dL_law_428 : decode cL_law 428 = .ok (.iadd, 1) := by decide +kernel
theorem dL_law_429 : decode cL_law 429 = .ok (.iaload, 1) := by decide +kernel
theorem dL_law_430 : decode cL_law 430 = .ok (.invokevirtual 48, 3) := by decide +kernel
theorem dL_law_433 : decode cL_law 433 = .ok (.if_icmp .eq 413, 3) := by decide +kernel
theorem dL_law_436 : decode cL_law 436 = .ok (.iconst 0, 1) := by decide +kernel
theorem dL_law_437 : decode cL_law 437 = .ok (.ireturn, 1) := by decide +kernel
theorem dL_law_438 : decode cL_law 438 = .ok (.aload_n 1, 1) := by decide +kernel
theorem dL_law_439 : decode cL_law 439 = .ok (.aload_n 0, 1) := by decide +kernel
theorem dL_law_440 : decode cL_law 440 = .ok (.iload_n 3, 1) := by decide +kernel
theorem dL_law_441 : decode cL_law 441 = .ok (.iconst 1, 1) := by decide +kernel
theorem dL_law_442 : decode cL_law 442 = .ok (.iadd, 1) := by decide +kernel
theorem dL_law_443 : decode cL_law 443 = .ok (.iaload, 1) := by decide +kernel
theorem dL_law_444 : decode cL_law 444 = .ok (.aload_n 0, 1) := by decide +kernel
theorem dL_law_445 : decode cL_law 445 = .ok (.iload_n 3, 1) := by decide +kernel
theorem dL_law_446 : decode cL_law 446 = .ok (.iconst 2, 1) := by decide +kernel
theorem dL_law_447 : decode cL_law 447 = .ok (.iadd, 1) := by decide +kernel
theorem dL_law_448 : decode cL_law 448 = .ok (.iaload, 1) := by decide +kernel
theorem dL_law_449 : decode cL_law 449 = .ok (.invokevirtual 49, 3) := by decide +kernel
theorem dL_law_452 : decode cL_law 452 = .ok (.aload_n 2, 1) := by decide +kernel
theorem dL_law_453 : decode cL_law 453 = .ok (.aload_n 0, 1) := by decide +kernel
theorem dL_law_454 : decode cL_law 454 = .ok (.iload_n 3, 1) := by decide +kernel
theorem dL_law_455 : decode cL_law 455 = .ok (.iconst 1, 1) := by decide +kernel
theorem dL_law_456 : decode cL_law 456 = .ok (.iadd, 1) := by decide +kernel
theorem dL_law_457 : decode cL_law 457 = .ok (.iaload, 1) := by decide +kernel
theorem dL_law_458 : decode cL_law 458 = .ok (.aload_n 0, 1) := by decide +kernel
theorem dL_law_459 : decode cL_law 459 = .ok (.iload_n 3, 1) := by decide +kernel
theorem dL_law_460 : decode cL_law 460 = .ok (.iconst 2, 1) := by decide +kernel
theorem dL_law_461 : decode cL_law 461 = .ok (.iadd, 1) := by decide +kernel
theorem dL_law_462 : decode cL_law 462 = .ok (.iaload, 1) := by decide +kernel
theorem dL_law_463 : decode cL_law 463 = .ok (.invokevirtual 52, 3) := by decide +kernel
theorem dL_law_466 : decode cL_law 466 = .ok (.if_icmp .eq 380, 3) := by decide +kernel
theorem dL_law_469 : decode cL_law 469 = .ok (.iconst 0, 1) := by decide +kernel
theorem dL_law_470 : decode cL_law 470 = .ok (.ireturn, 1) := by decide +kernel
theorem dL_law_471 : decode cL_law 471 = .ok (.aload_n 1, 1) := by decide +kernel
theorem dL_law_472 : decode cL_law 472 = .ok (.aload_n 0, 1) := by decide +kernel
theorem dL_law_473 : decode cL_law 473 = .ok (.iload_n 3, 1) := by decide +kernel
theorem dL_law_474 : decode cL_law 474 = .ok (.iconst 1, 1) := by decide +kernel
theorem dL_law_475 : decode cL_law 475 = .ok (.iadd, 1) := by decide +kernel
theorem dL_law_476 : decode cL_law 476 = .ok (.iaload, 1) := by decide +kernel
theorem dL_law_477 : decode cL_law 477 = .ok (.invokevirtual 53, 3) := by decide +kernel
theorem dL_law_480 : decode cL_law 480 = .ok (.aload_n 2, 1) := by decide +kernel
theorem dL_law_481 : decode cL_law 481 = .ok (.aload_n 0, 1) := by decide +kernel
theorem dL_law_482 : decode cL_law 482 = .ok (.iload_n 3, 1) := by decide +kernel
theorem dL_law_483 : decode cL_law 483 = .ok (.iconst 1, 1) := by decide +kernel
theorem dL_law_484 : decode cL_law 484 = .ok (.iadd, 1) := by decide +kernel
theorem dL_law_485 : decode cL_law 485 = .ok (.iaload, 1) := by decide +kernel
theorem dL_law_486 : decode cL_law 486 = .ok (.invokevirtual 56, 3) := by decide +kernel
theorem dL_law_489 : decode cL_law 489 = .ok (.if_icmp .eq 357, 3) := by decide +kernel
theorem dL_law_492 : decode cL_law 492 = .ok (.iconst 0, 1) := by decide +kernel
theorem dL_law_493 : decode cL_law 493 = .ok (.ireturn, 1) := by decide +kernel
theorem dL_law_494 : decode cL_law 494 = .ok (.aload_n 1, 1) := by decide +kernel
theorem dL_law_495 : decode cL_law 495 = .ok (.aload_n 0, 1) := by decide +kernel
theorem dL_law_496 : decode cL_law 496 = .ok (.iload_n 3, 1) := by decide +kernel
theorem dL_law_497 : decode cL_law 497 = .ok (.iconst 1, 1) := by decide +kernel
theorem dL_law_498 : decode cL_law 498 = .ok (.iadd, 1) := by decide +kernel
theorem dL_law_499 : decode cL_law 499 = .ok (.iaload, 1) := by decide +kernel
theorem dL_law_500 : decode cL_law 500 = .ok (.aload_n 0, 1) := by decide +kernel
theorem dL_law_501 : decode cL_law 501 = .ok (.iload_n 3, 1) := by decide +kernel
theorem dL_law_502 : decode cL_law 502 = .ok (.iconst 2, 1) := by decide +kernel
theorem dL_law_503 : decode cL_law 503 = .ok (.iadd, 1) := by decide +kernel
theorem dL_law_504 : decode cL_law 504 = .ok (.iaload, 1) := by decide +kernel
theorem dL_law_505 : decode cL_law 505 = .ok (.invokevirtual 57, 3) := by decide +kernel
theorem dL_law_508 : decode cL_law 508 = .ok (.aload_n 2, 1) := by decide +kernel
theorem dL_law_509 : decode cL_law 509 = .ok (.aload_n 0, 1) := by decide +kernel
theorem dL_law_510 : decode cL_law 510 = .ok (.iload_n 3, 1) := by decide +kernel
theorem dL_law_511 : decode cL_law 511 = .ok (.iconst 1, 1) := by decide +kernel
theorem dL_law_512 : decode cL_law 512 = .ok (.iadd, 1) := by decide +kernel
theorem dL_law_513 : decode cL_law 513 = .ok (.iaload, 1) := by decide +kernel
theorem dL_law_514 : decode cL_law 514 = .ok (.aload_n 0, 1) := by decide +kernel
theorem dL_law_515 : decode cL_law 515 = .ok (.iload_n 3, 1) := by decide +kernel
theorem dL_law_516 : decode cL_law 516 = .ok (.iconst 2, 1) := by decide +kernel
theorem dL_law_517 : decode cL_law 517 = .ok (.iadd, 1) := by decide +kernel
theorem dL_law_518 : decode cL_law 518 = .ok (.iaload, 1) := by decide +kernel
theorem dL_law_519 : decode cL_law 519 = .ok (.invokevirtual 60, 3) := by decide +kernel
theorem dL_law_522 : decode cL_law 522 = .ok (.if_icmp .eq 324, 3) := by decide +kernel
theorem dL_law_525 : decode cL_law 525 = .ok (.iconst 0, 1) := by decide +kernel
theorem dL_law_526 : decode cL_law 526 = .ok (.ireturn, 1) := by decide +kernel
theorem dL_law_527 : decode cL_law 527 = .ok (.aload_n 1, 1) := by decide +kernel
theorem dL_law_528 : decode cL_law 528 = .ok (.aload_n 0, 1) := by decide +kernel
theorem dL_law_529 : decode cL_law 529 = .ok (.iload_n 3, 1) := by decide +kernel
theorem dL_law_530 : decode cL_law 530 = .ok (.iconst 1, 1) := by decide +kernel
theorem dL_law_531 : decode cL_law 531 = .ok (.iadd, 1) := by decide +kernel
theorem dL_law_532 : decode cL_law 532 = .ok (.iaload, 1) := by decide +kernel
theorem dL_law_533 : decode cL_law 533 = .ok (.invokevirtual 61, 3) := by decide +kernel
theorem dL_law_536 : decode cL_law 536 = .ok (.aload_n 2, 1) := by decide +kernel
theorem dL_law_537 : decode cL_law 537 = .ok (.aload_n 0, 1) := by decide +kernel
theorem dL_law_538 : decode cL_law 538 = .ok (.iload_n 3, 1) := by decide +kernel
theorem dL_law_539 : decode cL_law 539 = .ok (.iconst 1, 1) := by decide +kernel
theorem dL_law_540 : decode cL_law 540 = .ok (.iadd, 1) := by decide +kernel
theorem dL_law_541 : decode cL_law 541 = .ok (.iaload, 1) := by decide +kernel
theorem dL_law_542 : decode cL_law 542 = .ok (.invokevirtual 64, 3) := by decide +kernel
theorem dL_law_545 : decode cL_law 545 = .ok (.if_icmp .eq 301, 3) := by decide +kernel
theorem dL_law_548 : decode cL_law 548 = .ok (.iconst 0, 1) := by decide +kernel
theorem dL_law_549 : decode cL_law 549 = .ok (.ireturn, 1) := by decide +kernel
theorem dL_law_550 : decode cL_law 550 = .ok (.aload_n 1, 1) := by decide +kernel
theorem dL_law_551 : decode cL_law 551 = .ok (.aload_n 0, 1) := by decide +kernel
theorem dL_law_552 : decode cL_law 552 = .ok (.iload_n 3, 1) := by decide +kernel
theorem dL_law_553 : decode cL_law 553 = .ok (.iconst 1, 1) := by decide +kernel
theorem dL_law_554 : decode cL_law 554 = .ok (.iadd, 1) := by decide +kernel
theorem dL_law_555 : decode cL_law 555 = .ok (.iaload, 1) := by decide +kernel
theorem dL_law_556 : decode cL_law 556 = .ok (.invokevirtual 65, 3) := by decide +kernel
theorem dL_law_559 : decode cL_law 559 = .ok (.aload_n 2, 1) := by decide +kernel
theorem dL_law_560 : decode cL_law 560 = .ok (.aload_n 0, 1) := by decide +kernel
theorem dL_law_561 : decode cL_law 561 = .ok (.iload_n 3, 1) := by decide +kernel
theorem dL_law_562 : decode cL_law 562 = .ok (.iconst 1, 1) := by decide +kernel
theorem dL_law_563 : decode cL_law 563 = .ok (.iadd, 1) := by decide +kernel
theorem dL_law_564 : decode cL_law 564 = .ok (.iaload, 1) := by decide +kernel
theorem dL_law_565 : decode cL_law 565 = .ok (.invokevirtual 68, 3) := by decide +kernel
theorem dL_law_568 : decode cL_law 568 = .ok (.if_icmp .eq 278, 3) := by decide +kernel
theorem dL_law_571 : decode cL_law 571 = .ok (.iconst 0, 1) := by decide +kernel
theorem dL_law_572 : decode cL_law 572 = .ok (.ireturn, 1) := by decide +kernel
theorem dL_law_573 : decode cL_law 573 = .ok (.aload_n 1, 1) := by decide +kernel
theorem dL_law_574 : decode cL_law 574 = .ok (.aload_n 0, 1) := by decide +kernel
theorem dL_law_575 : decode cL_law 575 = .ok (.iload_n 3, 1) := by decide +kernel
theorem dL_law_576 : decode cL_law 576 = .ok (.iconst 1, 1) := by decide +kernel
theorem dL_law_577 : decode cL_law 577 = .ok (.iadd, 1) := by decide +kernel
theorem dL_law_578 : decode cL_law 578 = .ok (.iaload, 1) := by decide +kernel
theorem dL_law_579 : decode cL_law 579 = .ok (.invokevirtual 69, 3) := by decide +kernel
theorem dL_law_582 : decode cL_law 582 = .ok (.aload_n 2, 1) := by decide +kernel
theorem dL_law_583 : decode cL_law 583 = .ok (.aload_n 0, 1) := by decide +kernel
theorem dL_law_584 : decode cL_law 584 = .ok (.iload_n 3, 1) := by decide +kernel
theorem dL_law_585 : decode cL_law 585 = .ok (.iconst 1, 1) := by decide +kernel
theorem dL_law_586 : decode cL_law 586 = .ok (.iadd, 1) := by decide +kernel
theorem dL_law_587 : decode cL_law 587 = .ok (.iaload, 1) := by decide +kernel
theorem dL_law_588 : decode cL_law 588 = .ok (.invokevirtual 72, 3) := by decide +kernel
theorem dL_law_591 : decode cL_law 591 = .ok (.if_icmp .eq 255, 3) := by decide +kernel
theorem dL_law_594 : decode cL_law 594 = .ok (.iconst 0, 1) := by decide +kernel
theorem dL_law_595 : decode cL_law 595 = .ok (.ireturn, 1) := by decide +kernel
theorem dL_law_596 : decode cL_law 596 = .ok (.aload_n 1, 1) := by decide +kernel
theorem dL_law_597 : decode cL_law 597 = .ok (.invokevirtual 73, 3) := by decide +kernel
theorem dL_law_600 : decode cL_law 600 = .ok (.aload_n 2, 1) := by decide +kernel
theorem dL_law_601 : decode cL_law 601 = .ok (.invokevirtual 77, 3) := by decide +kernel
theorem dL_law_604 : decode cL_law 604 = .ok (.if_icmp .eq 242, 3) := by decide +kernel
theorem dL_law_607 : decode cL_law 607 = .ok (.iconst 0, 1) := by decide +kernel
theorem dL_law_608 : decode cL_law 608 = .ok (.ireturn, 1) := by decide +kernel
theorem dL_law_609 : decode cL_law 609 = .ok (.aload_n 1, 1) := by decide +kernel
theorem dL_law_610 : decode cL_law 610 = .ok (.aload_n 0, 1) := by decide +kernel
theorem dL_law_611 : decode cL_law 611 = .ok (.iload_n 3, 1) := by decide +kernel
theorem dL_law_612 : decode cL_law 612 = .ok (.iconst 1, 1) := by decide +kernel
theorem dL_law_613 : decode cL_law 613 = .ok (.iadd, 1) := by decide +kernel
theorem dL_law_614 : decode cL_law 614 = .ok (.iaload, 1) := by decide +kernel
theorem dL_law_615 : decode cL_law 615 = .ok (.aload_n 0, 1) := by decide +kernel
theorem dL_law_616 : decode cL_law 616 = .ok (.iload_n 3, 1) := by decide +kernel
theorem dL_law_617 : decode cL_law 617 = .ok (.iconst 2, 1) := by decide +kernel
theorem dL_law_618 : decode cL_law 618 = .ok (.iadd, 1) := by decide +kernel
theorem dL_law_619 : decode cL_law 619 = .ok (.iaload, 1) := by decide +kernel
theorem dL_law_620 : decode cL_law 620 = .ok (.aload_n 0, 1) := by decide +kernel
theorem dL_law_621 : decode cL_law 621 = .ok (.iload_n 3, 1) := by decide +kernel
theorem dL_law_622 : decode cL_law 622 = .ok (.iconst 3, 1) := by decide +kernel
theorem dL_law_623 : decode cL_law 623 = .ok (.iadd, 1) := by decide +kernel
theorem dL_law_624 : decode cL_law 624 = .ok (.iaload, 1) := by decide +kernel
theorem dL_law_625 : decode cL_law 625 = .ok (.invokevirtual 78, 3) := by decide +kernel
theorem dL_law_628 : decode cL_law 628 = .ok (.aload_n 2, 1) := by decide +kernel
theorem dL_law_629 : decode cL_law 629 = .ok (.aload_n 0, 1) := by decide +kernel
theorem dL_law_630 : decode cL_law 630 = .ok (.iload_n 3, 1) := by decide +kernel
theorem dL_law_631 : decode cL_law 631 = .ok (.iconst 1, 1) := by decide +kernel
theorem dL_law_632 : decode cL_law 632 = .ok (.iadd, 1) := by decide +kernel
theorem dL_law_633 : decode cL_law 633 = .ok (.iaload, 1) := by decide +kernel
theorem dL_law_634 : decode cL_law 634 = .ok (.aload_n 0, 1) := by decide +kernel
theorem dL_law_635 : decode cL_law 635 = .ok (.iload_n 3, 1) := by decide +kernel
theorem dL_law_636 : decode cL_law 636 = .ok (.iconst 2, 1) := by decide +kernel
theorem dL_law_637 : decode cL_law 637 = .ok (.iadd, 1) := by decide +kernel
theorem dL_law_638 : decode cL_law 638 = .ok (.iaload, 1) := by decide +kernel
theorem dL_law_639 : decode cL_law 639 = .ok (.aload_n 0, 1) := by decide +kernel
theorem dL_law_640 : decode cL_law 640 = .ok (.iload_n 3, 1) := by decide +kernel
theorem dL_law_641 : decode cL_law 641 = .ok (.iconst 3, 1) := by decide +kernel
theorem dL_law_642 : decode cL_law 642 = .ok (.iadd, 1) := by decide +kernel
theorem dL_law_643 : decode cL_law 643 = .ok (.iaload, 1) := by decide +kernel
theorem dL_law_644 : decode cL_law 644 = .ok (.invokevirtual 81, 3) := by decide +kernel
theorem dL_law_647 : decode cL_law 647 = .ok (.if_icmp .eq 199, 3) := by decide +kernel
theorem dL_law_650 : decode cL_law 650 = .ok (.iconst 0, 1) := by decide +kernel
theorem dL_law_651 : decode cL_law 651 = .ok (.ireturn, 1) := by decide +kernel
theorem dL_law_652 : decode cL_law 652 = .ok (.aload_n 1, 1) := by decide +kernel
theorem dL_law_653 : decode cL_law 653 = .ok (.aload_n 0, 1) := by decide +kernel
theorem dL_law_654 : decode cL_law 654 = .ok (.iload_n 3, 1) := by decide +kernel
theorem dL_law_655 : decode cL_law 655 = .ok (.iconst 1, 1) := by decide +kernel
theorem dL_law_656 : decode cL_law 656 = .ok (.iadd, 1) := by decide +kernel
theorem dL_law_657 : decode cL_law 657 = .ok (.iaload, 1) := by decide +kernel
theorem dL_law_658 : decode cL_law 658 = .ok (.invokevirtual 82, 3) := by decide +kernel
theorem dL_law_661 : decode cL_law 661 = .ok (.aload_n 2, 1) := by decide +kernel
theorem dL_law_662 : decode cL_law 662 = .ok (.aload_n 0, 1) := by decide +kernel
theorem dL_law_663 : decode cL_law 663 = .ok (.iload_n 3, 1) := by decide +kernel
theorem dL_law_664 : decode cL_law 664 = .ok (.iconst 1, 1) := by decide +kernel
theorem dL_law_665 : decode cL_law 665 = .ok (.iadd, 1) := by decide +kernel
theorem dL_law_666 : decode cL_law 666 = .ok (.iaload, 1) := by decide +kernel
theorem dL_law_667 : decode cL_law 667 = .ok (.invokevirtual 85, 3) := by decide +kernel
theorem dL_law_670 : decode cL_law 670 = .ok (.if_icmp .eq 176, 3) := by decide +kernel
theorem dL_law_673 : decode cL_law 673 = .ok (.iconst 0, 1) := by decide +kernel
theorem dL_law_674 : decode cL_law 674 = .ok (.ireturn, 1) := by decide +kernel
theorem dL_law_675 : decode cL_law 675 = .ok (.aload_n 1, 1) := by decide +kernel
theorem dL_law_676 : decode cL_law 676 = .ok (.aload_n 0, 1) := by decide +kernel
theorem dL_law_677 : decode cL_law 677 = .ok (.iload_n 3, 1) := by decide +kernel
theorem dL_law_678 : decode cL_law 678 = .ok (.iconst 1, 1) := by decide +kernel
theorem dL_law_679 : decode cL_law 679 = .ok (.iadd, 1) := by decide +kernel
theorem dL_law_680 : decode cL_law 680 = .ok (.iaload, 1) := by decide +kernel
theorem dL_law_681 : decode cL_law 681 = .ok (.invokevirtual 86, 3) := by decide +kernel
theorem dL_law_684 : decode cL_law 684 = .ok (.aload_n 2, 1) := by decide +kernel
theorem dL_law_685 : decode cL_law 685 = .ok (.aload_n 0, 1) := by decide +kernel
theorem dL_law_686 : decode cL_law 686 = .ok (.iload_n 3, 1) := by decide +kernel
theorem dL_law_687 : decode cL_law 687 = .ok (.iconst 1, 1) := by decide +kernel
theorem dL_law_688 : decode cL_law 688 = .ok (.iadd, 1) := by decide +kernel
theorem dL_law_689 : decode cL_law 689 = .ok (.iaload, 1) := by decide +kernel
theorem dL_law_690 : decode cL_law 690 = .ok (.invokevirtual 89, 3) := by decide +kernel
theorem dL_law_693 : decode cL_law 693 = .ok (.if_icmp .eq 153, 3) := by decide +kernel
theorem dL_law_696 : decode cL_law 696 = .ok (.iconst 0, 1) := by decide +kernel
theorem dL_law_697 : decode cL_law 697 = .ok (.ireturn, 1) := by decide +kernel
theorem dL_law_698 : decode cL_law 698 = .ok (.aload_n 1, 1) := by decide +kernel
theorem dL_law_699 : decode cL_law 699 = .ok (.aload_n 0, 1) := by decide +kernel
theorem dL_law_700 : decode cL_law 700 = .ok (.iload_n 3, 1) := by decide +kernel
theorem dL_law_701 : decode cL_law 701 = .ok (.iconst 1, 1) := by decide +kernel
theorem dL_law_702 : decode cL_law 702 = .ok (.iadd, 1) := by decide +kernel
theorem dL_law_703 : decode cL_law 703 = .ok (.iaload, 1) := by decide +kernel
theorem dL_law_704 : decode cL_law 704 = .ok (.invokevirtual 90, 3) := by decide +kernel
theorem dL_law_707 : decode cL_law 707 = .ok (.aload_n 2, 1) := by decide +kernel
theorem dL_law_708 : decode cL_law 708 = .ok (.aload_n 0, 1) := by decide +kernel
theorem dL_law_709 : decode cL_law 709 = .ok (.iload_n 3, 1) := by decide +kernel
theorem dL_law_710 : decode cL_law 710 = .ok (.iconst 1, 1) := by decide +kernel
theorem dL_law_711 : decode cL_law 711 = .ok (.iadd, 1) := by decide +kernel
theorem dL_law_712 : decode cL_law 712 = .ok (.iaload, 1) := by decide +kernel
theorem dL_law_713 : decode cL_law 713 = .ok (.invokevirtual 93, 3) := by decide +kernel
theorem dL_law_716 : decode cL_law 716 = .ok (.if_icmp .eq 130, 3) := by decide +kernel
theorem dL_law_719 : decode cL_law 719 = .ok (.iconst 0, 1) := by decide +kernel
theorem dL_law_720 : decode cL_law 720 = .ok (.ireturn, 1) := by decide +kernel
theorem dL_law_721 : decode cL_law 721 = .ok (.aload_n 1, 1) := by decide +kernel
theorem dL_law_722 : decode cL_law 722 = .ok (.aload_n 0, 1) := by decide +kernel
theorem dL_law_723 : decode cL_law 723 = .ok (.iload_n 3, 1) := by decide +kernel
theorem dL_law_724 : decode cL_law 724 = .ok (.iconst 1, 1) := by decide +kernel
theorem dL_law_725 : decode cL_law 725 = .ok (.iadd, 1) := by decide +kernel
theorem dL_law_726 : decode cL_law 726 = .ok (.iaload, 1) := by decide +kernel
theorem dL_law_727 : decode cL_law 727 = .ok (.aload_n 0, 1) := by decide +kernel
theorem dL_law_728 : decode cL_law 728 = .ok (.iload_n 3, 1) := by decide +kernel
theorem dL_law_729 : decode cL_law 729 = .ok (.iconst 2, 1) := by decide +kernel
theorem dL_law_730 : decode cL_law 730 = .ok (.iadd, 1) := by decide +kernel
theorem dL_law_731 : decode cL_law 731 = .ok (.iaload, 1) := by decide +kernel
theorem dL_law_732 : decode cL_law 732 = .ok (.invokevirtual 94, 3) := by decide +kernel
theorem dL_law_735 : decode cL_law 735 = .ok (.aload_n 2, 1) := by decide +kernel
theorem dL_law_736 : decode cL_law 736 = .ok (.aload_n 0, 1) := by decide +kernel
theorem dL_law_737 : decode cL_law 737 = .ok (.iload_n 3, 1) := by decide +kernel
theorem dL_law_738 : decode cL_law 738 = .ok (.iconst 1, 1) := by decide +kernel
theorem dL_law_739 : decode cL_law 739 = .ok (.iadd, 1) := by decide +kernel
theorem dL_law_740 : decode cL_law 740 = .ok (.iaload, 1) := by decide +kernel
theorem dL_law_741 : decode cL_law 741 = .ok (.aload_n 0, 1) := by decide +kernel
theorem dL_law_742 : decode cL_law 742 = .ok (.iload_n 3, 1) := by decide +kernel
theorem dL_law_743 : decode cL_law 743 = .ok (.iconst 2, 1) := by decide +kernel
theorem dL_law_744 : decode cL_law 744 = .ok (.iadd, 1) := by decide +kernel
theorem dL_law_745 : decode cL_law 745 = .ok (.iaload, 1) := by decide +kernel
theorem dL_law_746 : decode cL_law 746 = .ok (.invokevirtual 97, 3) := by decide +kernel
theorem dL_law_749 : decode cL_law 749 = .ok (.if_icmp .eq 97, 3) := by decide +kernel
theorem dL_law_752 : decode cL_law 752 = .ok (.iconst 0, 1) := by decide +kernel
theorem dL_law_753 : decode cL_law 753 = .ok (.ireturn, 1) := by decide +kernel
theorem dL_law_754 : decode cL_law 754 = .ok (.aload_n 1, 1) := by decide +kernel
theorem dL_law_755 : decode cL_law 755 = .ok (.aload_n 0, 1) := by decide +kernel
theorem dL_law_756 : decode cL_law 756 = .ok (.iload_n 3, 1) := by decide +kernel
theorem dL_law_757 : decode cL_law 757 = .ok (.iconst 1, 1) := by decide +kernel
theorem dL_law_758 : decode cL_law 758 = .ok (.iadd, 1) := by decide +kernel
theorem dL_law_759 : decode cL_law 759 = .ok (.iaload, 1) := by decide +kernel
theorem dL_law_760 : decode cL_law 760 = .ok (.aload_n 0, 1) := by decide +kernel
theorem dL_law_761 : decode cL_law 761 = .ok (.iload_n 3, 1) := by decide +kernel
theorem dL_law_762 : decode cL_law 762 = .ok (.iconst 2, 1) := by decide +kernel
theorem dL_law_763 : decode cL_law 763 = .ok (.iadd, 1) := by decide +kernel
theorem dL_law_764 : decode cL_law 764 = .ok (.iaload, 1) := by decide +kernel
theorem dL_law_765 : decode cL_law 765 = .ok (.invokevirtual 98, 3) := by decide +kernel
theorem dL_law_768 : decode cL_law 768 = .ok (.aload_n 2, 1) := by decide +kernel
theorem dL_law_769 : decode cL_law 769 = .ok (.aload_n 0, 1) := by decide +kernel
theorem dL_law_770 : decode cL_law 770 = .ok (.iload_n 3, 1) := by decide +kernel
theorem dL_law_771 : decode cL_law 771 = .ok (.iconst 1, 1) := by decide +kernel
theorem dL_law_772 : decode cL_law 772 = .ok (.iadd, 1) := by decide +kernel
theorem dL_law_773 : decode cL_law 773 = .ok (.iaload, 1) := by decide +kernel
theorem dL_law_774 : decode cL_law 774 = .ok (.aload_n 0, 1) := by decide +kernel
theorem dL_law_775 : decode cL_law 775 = .ok (.iload_n 3, 1) := by decide +kernel
theorem dL_law_776 : decode cL_law 776 = .ok (.iconst 2, 1) := by decide +kernel
theorem dL_law_777 : decode cL_law 777 = .ok (.iadd, 1) := by decide +kernel
theorem dL_law_778 : decode cL_law 778 = .ok (.iaload, 1) := by decide +kernel
theorem dL_law_779 : decode cL_law 779 = .ok (.invokevirtual 101, 3) := by decide +kernel
theorem dL_law_782 : decode cL_law 782 = .ok (.if_icmp .eq 64, 3) := by decide +kernel
theorem dL_law_785 : decode cL_law 785 = .ok (.iconst 0, 1) := by decide +kernel
theorem dL_law_786 : decode cL_law 786 = .ok (.ireturn, 1) := by decide +kernel
theorem dL_law_787 : decode cL_law 787 = .ok (.aload_n 1, 1) := by decide +kernel
theorem dL_law_788 : decode cL_law 788 = .ok (.aload_n 0, 1) := by decide +kernel
theorem dL_law_789 : decode cL_law 789 = .ok (.iload_n 3, 1) := by decide +kernel
theorem dL_law_790 : decode cL_law 790 = .ok (.iconst 1, 1) := by decide +kernel
theorem dL_law_791 : decode cL_law 791 = .ok (.iadd, 1) := by decide +kernel
theorem dL_law_792 : decode cL_law 792 = .ok (.iaload, 1) := by decide +kernel
theorem dL_law_793 : decode cL_law 793 = .ok (.invokevirtual 102, 3) := by decide +kernel
theorem dL_law_796 : decode cL_law 796 = .ok (.aload_n 2, 1) := by decide +kernel
theorem dL_law_797 : decode cL_law 797 = .ok (.aload_n 0, 1) := by decide +kernel
theorem dL_law_798 : decode cL_law 798 = .ok (.iload_n 3, 1) := by decide +kernel
theorem dL_law_799 : decode cL_law 799 = .ok (.iconst 1, 1) := by decide +kernel
theorem dL_law_800 : decode cL_law 800 = .ok (.iadd, 1) := by decide +kernel
theorem dL_law_801 : decode cL_law 801 = .ok (.iaload, 1) := by decide +kernel
theorem dL_law_802 : decode cL_law 802 = .ok (.invokevirtual 105, 3) := by decide +kernel
theorem dL_law_805 : decode cL_law 805 = .ok (.if_icmp .eq 41, 3) := by decide +kernel
theorem dL_law_808 : decode cL_law 808 = .ok (.iconst 0, 1) := by decide +kernel
theorem dL_law_809 : decode cL_law 809 = .ok (.ireturn, 1) := by decide +kernel
theorem dL_law_810 : decode cL_law 810 = .ok (.aload_n 1, 1) := by decide +kernel
theorem dL_law_811 : decode cL_law 811 = .ok (.aload_n 0, 1) := by decide +kernel
theorem dL_law_812 : decode cL_law 812 = .ok (.iload_n 3, 1) := by decide +kernel
theorem dL_law_813 : decode cL_law 813 = .ok (.iconst 1, 1) := by decide +kernel
theorem dL_law_814 : decode cL_law 814 = .ok (.iadd, 1) := by decide +kernel
theorem dL_law_815 : decode cL_law 815 = .ok (.iaload, 1) := by decide +kernel
theorem dL_law_816 : decode cL_law 816 = .ok (.invokevirtual 106, 3) := by decide +kernel
theorem dL_law_819 : decode cL_law 819 = .ok (.aload_n 2, 1) := by decide +kernel
theorem dL_law_820 : decode cL_law 820 = .ok (.aload_n 0, 1) := by decide +kernel
theorem dL_law_821 : decode cL_law 821 = .ok (.iload_n 3, 1) := by decide +kernel
theorem dL_law_822 : decode cL_law 822 = .ok (.iconst 1, 1) := by decide +kernel
theorem dL_law_823 : decode cL_law 823 = .ok (.iadd, 1) := by decide +kernel
theorem dL_law_824 : decode cL_law 824 = .ok (.iaload, 1) := by decide +kernel
theorem dL_law_825 : decode cL_law 825 = .ok (.invokevirtual 109, 3) := by decide +kernel
theorem dL_law_828 : decode cL_law 828 = .ok (.if_icmp .eq 18, 3) := by decide +kernel
theorem dL_law_831 : decode cL_law 831 = .ok (.iconst 0, 1) := by decide +kernel
theorem dL_law_832 : decode cL_law 832 = .ok (.ireturn, 1) := by decide +kernel
theorem dL_law_833 : decode cL_law 833 = .ok (.aload_n 1, 1) := by decide +kernel
theorem dL_law_834 : decode cL_law 834 = .ok (.invokevirtual 110, 3) := by decide +kernel
theorem dL_law_837 : decode cL_law 837 = .ok (.aload_n 2, 1) := by decide +kernel
theorem dL_law_838 : decode cL_law 838 = .ok (.invokevirtual 113, 3) := by decide +kernel
theorem dL_law_841 : decode cL_law 841 = .ok (.if_icmp .eq 5, 3) := by decide +kernel
theorem dL_law_844 : decode cL_law 844 = .ok (.iconst 0, 1) := by decide +kernel
theorem dL_law_845 : decode cL_law 845 = .ok (.ireturn, 1) := by decide +kernel
theorem dL_law_846 : decode cL_law 846 = .ok (.iinc 3 6, 3) := by decide +kernel
theorem dL_law_849 : decode cL_law 849 = .ok (.goto (-831), 3) := by decide +kernel
theorem dL_law_852 : decode cL_law 852 = .ok (.iconst 1, 1) := by decide +kernel
theorem dL_law_853 : decode cL_law 853 = .ok (.ireturn, 1) := by decide +kernel
end
section
/-! A calculus over the kit's rows: one fixed world (shp: the shape of every cell), a memory of ints, places for addresses. -/
abbrev Mem : Type := Nat → Nat → Int32
def mu (σ : Mem) (p i : Nat) (v : Int32) : Mem := fun q j => if q = p ∧ j = i then v else σ q j
def mf (σ : Mem) (p : Nat) (g : Nat → Int32) : Mem := fun q => if q = p then g else σ q
/-- an object: its class, its fields (none: an int; some q: the place that it holds); an array: its kind (0 int, 1 boolean), its length; a row of rows: the first's place, how many -/
abbrev Sh : Type := (Nat × List (Option Nat)) ⊕ ((Nat × Nat) ⊕ (Nat × Nat))
def fv (ad : Nat → Nat) (σ : Mem) (p i : Nat) : Option Nat → Value
  | none => .int (σ p i)
  | some q => .ref (ad q)
def fl (ad : Nat → Nat) (σ : Mem) (p : Nat) : Nat → List (Option Nat) → List Value
  | _, [] => []
  | i, o :: r => fv ad σ p i o :: fl ad σ p (i + 1) r
theorem fl_get (ad : Nat → Nat) (σ : Mem) (p : Nat) : ∀ (fs : List (Option Nat)) (i k : Nat), (fl ad σ p i fs)[k]? = (fs[k]?).map (fv ad σ p (i + k))
  | [], i, k => by simp [fl]
  | o :: r, i, 0 => by simp [fl]
  | o :: r, i, k + 1 => by
    show (fl ad σ p (i + 1) r)[k]? = _
    rw [fl_get ad σ p r (i + 1) k, List.getElem?_cons_succ, show i + 1 + k = i + (k + 1) by omega]
theorem fl_len (ad : Nat → Nat) (σ : Mem) (p : Nat) : ∀ (fs : List (Option Nat)) (i : Nat), (fl ad σ p i fs).length = fs.length
  | [], _ => rfl
  | _ :: r, i => by simp [fl, fl_len ad σ p r (i + 1)]
def ent (ad : Nat → Nat) (cs : Nat → ClassId) (σ : Mem) (p : Nat) : Sh → va_E
  | .inl o => .inr (o.1, fl ad σ p 0 o.2)
  | .inr (.inl a) => .inl (cs a.1, (a.2, .inl (σ p)))
  | .inr (.inr r) => .inl (cs 2, (r.2, .inr (.inr (.inr (.inr (fun j => some (ad (r.1 + j))))))))
def wl (ad : Nat → Nat) (cs : Nat → ClassId) (σ : Mem) : Nat → List Sh → va_W
  | _, [] => []
  | p, sh :: r => (ad p, ent ad cs σ p sh) :: wl ad cs σ (p + 1) r
theorem wl_get (ad : Nat → Nat) (cs : Nat → ClassId) (σ : Mem) : ∀ (l : List Sh) (p k : Nat), (wl ad cs σ p l)[k]? = (l[k]?).map (fun sh => (ad (p + k), ent ad cs σ (p + k) sh))
  | [], p, k => by simp [wl]
  | sh :: r, p, 0 => by simp [wl]
  | sh :: r, p, k + 1 => by
    show (wl ad cs σ (p + 1) r)[k]? = _
    rw [wl_get ad cs σ r (p + 1) k, List.getElem?_cons_succ, show p + 1 + k = p + (k + 1) by omega]
theorem wl_at {ad : Nat → Nat} {cs : Nat → ClassId} {σ : Mem} {l : List Sh} {k : Nat} {sh : Sh} (h : l[k]? = some sh) : (wl ad cs σ 0 l)[k]? = some (ad k, ent ad cs σ k sh) := by
  rw [wl_get, h, Nat.zero_add]; rfl
theorem fl_congr {ad : Nat → Nat} {σ σ' : Mem} {p : Nat} (h : σ p = σ' p) : ∀ (fs : List (Option Nat)) (i : Nat), fl ad σ p i fs = fl ad σ' p i fs
  | [], _ => rfl
  | o :: r, i => by
    show fv ad σ p i o :: _ = fv ad σ' p i o :: _
    rw [fl_congr h r (i + 1)]
    cases o <;> simp [fv, h]
theorem ent_congr {ad : Nat → Nat} {cs : Nat → ClassId} {σ σ' : Mem} {p : Nat} (h : σ p = σ' p) : ∀ sh : Sh, ent ad cs σ p sh = ent ad cs σ' p sh
  | .inl o => by show Sum.inr (o.1, fl ad σ p 0 o.2) = Sum.inr (o.1, fl ad σ' p 0 o.2); rw [fl_congr h]
  | .inr (.inl a) => by simp only [ent, h]
  | .inr (.inr r) => rfl
theorem wl_set {ad : Nat → Nat} {cs : Nat → ClassId} {σ σ' : Mem} {l : List Sh} {p : Nat} {sh : Sh} (h : l[p]? = some sh) (hq : ∀ q, q ≠ p → σ q = σ' q) {e : va_E} (he : e = ent ad cs σ' p sh) : (wl ad cs σ 0 l).set p (ad p, e) = wl ad cs σ' 0 l := by
  subst he
  apply List.ext_getElem?
  intro i
  have hlen : ∀ (l : List Sh) (n : Nat), (wl ad cs σ n l).length = l.length := by
    intro l
    induction l with
    | nil => intro n; rfl
    | cons a r ih => intro n; simp [wl, ih]
  by_cases hi : i = p
  · subst hi
    rw [List.getElem?_set_self (by rw [hlen]; exact (List.getElem?_eq_some_iff.mp h).1), wl_at h]
  · rw [List.getElem?_set_ne (Ne.symm hi), wl_get, wl_get, Nat.zero_add]
    cases l[i]? with
    | none => rfl
    | some s2 => simp only [Option.map_some, ent_congr (hq i hi) s2]
theorem fl_set {ad : Nat → Nat} {σ : Mem} {p k : Nat} {v : Int32} {fs : List (Option Nat)} (hk : fs[k]? = some none) : (fl ad σ p 0 fs).set k (.int v) = fl ad (mu σ p k v) p 0 fs := by
  apply List.ext_getElem?
  intro i
  by_cases hi : i = k
  · subst hi
    rw [List.getElem?_set_self (by rw [fl_len]; exact (List.getElem?_eq_some_iff.mp hk).1), fl_get, hk]
    simp [fv, mu]
  · rw [List.getElem?_set_ne (Ne.symm hi), fl_get, fl_get, Nat.zero_add]
    cases fs[i]? with
    | none => rfl
    | some o => cases o <;> simp [fv, mu, hi]
theorem mu_row (σ : Mem) (p i : Nat) (v : Int32) : mu σ p i v p = upd (σ p) i v := by
  funext j
  simp [mu, upd]
theorem mu_ne {σ : Mem} {p i q : Nat} {v : Int32} (h : q ≠ p) : σ q = mu σ p i v q := by
  funext j
  simp [mu, h]
theorem mf_row (σ : Mem) (p : Nat) (g : Nat → Int32) : mf σ p g p = g := by simp [mf]
theorem mf_ne {σ : Mem} {p q : Nat} {g : Nat → Int32} (h : q ≠ p) : σ q = mf σ p g q := by simp [mf, h]
/-! the world of this claim -/
def shp : List Sh := [
  .inl (5, [some 1, some 2, some 3, some 4, some 5, none]),
  .inl (3, [some 6, some 15, some 16]),
  .inl (2, [some 17, some 18, some 19, none, none, none, none, none, none]),
  .inl (1, [some 20, some 21, some 22, some 23, some 24, some 25, none, none, none, none, none]),
  .inl (4, [some 26, some 37, some 38, some 39, some 50, none, none, none, none, none, none, none]),
  .inl (0, [some 51, none]),
  .inr (.inr (7, 8)), .inr (.inl (0, 60)), .inr (.inl (0, 60)), .inr (.inl (0, 60)), .inr (.inl (0, 60)), .inr (.inl (0, 60)), .inr (.inl (0, 60)), .inr (.inl (0, 60)), .inr (.inl (0, 60)),
  .inr (.inl (0, 8)), .inr (.inl (0, 8)),
  .inr (.inl (0, 10)), .inr (.inl (0, 10)), .inr (.inl (0, 12)),
  .inr (.inl (0, 4)), .inr (.inl (0, 4)), .inr (.inl (0, 128)), .inr (.inl (1, 128)), .inr (.inl (0, 128)), .inr (.inl (0, 5)),
  .inr (.inr (27, 10)), .inr (.inl (0, 10)), .inr (.inl (0, 10)), .inr (.inl (0, 10)), .inr (.inl (0, 10)), .inr (.inl (0, 10)), .inr (.inl (0, 10)), .inr (.inl (0, 10)), .inr (.inl (0, 10)), .inr (.inl (0, 10)), .inr (.inl (0, 10)),
  .inr (.inl (0, 10)), .inr (.inl (0, 10)),
  .inr (.inr (40, 10)), .inr (.inl (0, 10)), .inr (.inl (0, 10)), .inr (.inl (0, 10)), .inr (.inl (0, 10)), .inr (.inl (0, 10)), .inr (.inl (0, 10)), .inr (.inl (0, 10)), .inr (.inl (0, 10)), .inr (.inl (0, 10)), .inr (.inl (0, 10)),
  .inr (.inl (0, 10)),
  .inr (.inl (0, 16)),
  .inl (6, [none, none, some 53, some 54, some 55, none, some 56, some 57, none, none, some 58, none, none, some 59, some 60, some 61, some 62, some 63, none, none, some 64, none, some 65, some 66, none, none, none, some 67, some 68, none, some 69, none]),
  .inr (.inl (0, 8)), .inr (.inl (0, 8)), .inr (.inl (0, 480)),
  .inr (.inl (0, 10)), .inr (.inl (0, 10)), .inr (.inl (0, 12)),
  .inr (.inl (0, 4)), .inr (.inl (0, 4)), .inr (.inl (1, 128)), .inr (.inl (0, 128)), .inr (.inl (1, 512)), .inr (.inl (0, 128)),
  .inr (.inl (0, 100)), .inr (.inl (1, 100)), .inr (.inl (0, 10)), .inr (.inl (0, 10)), .inr (.inl (0, 16))]
theorem shp_len : shp.length = 70 := by decide +kernel
theorem shp_items {j : Nat} (h : j < 8) : shp[7 + j]? = some (.inr (.inl (0, 60))) := by
  rcases (show j = 0 ∨ j = 1 ∨ j = 2 ∨ j = 3 ∨ j = 4 ∨ j = 5 ∨ j = 6 ∨ j = 7 by omega) with rfl | rfl | rfl | rfl | rfl | rfl | rfl | rfl <;> rfl
theorem shp_ways {j : Nat} (h : j < 10) : shp[27 + j]? = some (.inr (.inl (0, 10))) := by
  rcases (show j = 0 ∨ j = 1 ∨ j = 2 ∨ j = 3 ∨ j = 4 ∨ j = 5 ∨ j = 6 ∨ j = 7 ∨ j = 8 ∨ j = 9 by omega) with rfl | rfl | rfl | rfl | rfl | rfl | rfl | rfl | rfl | rfl <;> rfl
theorem shp_near {j : Nat} (h : j < 10) : shp[40 + j]? = some (.inr (.inl (0, 10))) := by
  rcases (show j = 0 ∨ j = 1 ∨ j = 2 ∨ j = 3 ∨ j = 4 ∨ j = 5 ∨ j = 6 ∨ j = 7 ∨ j = 8 ∨ j = 9 by omega) with rfl | rfl | rfl | rfl | rfl | rfl | rfl | rfl | rfl | rfl <;> rfl
def cvv (ad : Nat → Nat) : Value → Value
  | .ref a => .ref (ad a)
  | v => v
theorem cvv_cat (ad : Nat → Nat) (v : Value) : (cvv ad v).category = v.category := by cases v <;> rfl
/-! locals -/
def nth : List (Option Value) → Nat → Option Value
  | [], _ => none
  | a :: _, 0 => a
  | _ :: l, n + 1 => nth l n
def sett : List (Option Value) → Nat → Value → List (Option Value)
  | [], _, _ => []
  | _ :: l, 0, v => some v :: l
  | a :: l, n + 1, v => a :: sett l n v
def nol : List (Option Value) → Bool
  | [] => true
  | some (.long _) :: _ => false
  | some (.double _) :: _ => false
  | _ :: l => nol l
def lvl (ad : Nat → Nat) : Nat → List (Option Value) → List (Nat × Value)
  | _, [] => []
  | i, none :: r => lvl ad (i + 1) r
  | i, some v :: r => (i, cvv ad v) :: lvl ad (i + 1) r
theorem lvl_mem {ad : Nat → Nat} : ∀ {ls : List (Option Value)} {k : Nat} {q : Nat × Value}, q ∈ lvl ad k ls ↔ ∃ (j : Nat) (v : Value), nth ls j = some v ∧ q = (k + j, cvv ad v)
  | [], k, q => by simp [lvl, nth]
  | none :: r, k, q => by
    show q ∈ lvl ad (k + 1) r ↔ _
    rw [lvl_mem (ls := r)]
    constructor
    · rintro ⟨j, v, h1, h2⟩
      exact ⟨j + 1, v, h1, by rw [h2, show k + 1 + j = k + (j + 1) by omega]⟩
    · rintro ⟨j, v, h1, h2⟩
      cases j with
      | zero => cases h1
      | succ j => exact ⟨j, v, h1, by rw [h2, show k + 1 + j = k + (j + 1) by omega]⟩
  | some w :: r, k, q => by
    show q ∈ (k, cvv ad w) :: lvl ad (k + 1) r ↔ _
    rw [List.mem_cons, lvl_mem (ls := r)]
    constructor
    · rintro (h | ⟨j, v, h1, h2⟩)
      · exact ⟨0, w, rfl, h⟩
      · exact ⟨j + 1, v, h1, by rw [h2, show k + 1 + j = k + (j + 1) by omega]⟩
    · rintro ⟨j, v, h1, h2⟩
      cases j with
      | zero => cases h1; exact Or.inl h2
      | succ j => exact Or.inr ⟨j, v, h1, by rw [h2, show k + 1 + j = k + (j + 1) by omega]⟩
theorem nth_sett : ∀ (ls : List (Option Value)) (i j : Nat) (v : Value), nth (sett ls i v) j = if j = i ∧ i < ls.length then some v else nth ls j
  | [], i, j, v => by simp [sett, nth]
  | a :: l, 0, 0, v => by simp [sett, nth]
  | a :: l, 0, j + 1, v => by simp [sett, nth]
  | a :: l, i + 1, 0, v => by simp [sett, nth]
  | a :: l, i + 1, j + 1, v => by
    show nth (sett l i v) j = _
    rw [nth_sett l i j v]
    simp [nth]
theorem sett_len : ∀ (ls : List (Option Value)) (i : Nat) (v : Value), (sett ls i v).length = ls.length
  | [], _, _ => rfl
  | _ :: _, 0, _ => rfl
  | _ :: l, i + 1, v => by simp [sett, sett_len l i v]
theorem nol_at : ∀ {ls : List (Option Value)} {j : Nat} {v : Value}, nol ls = true → nth ls j = some v → v.category = 1
  | [], j, v, _, h => by cases h
  | o :: l, 0, v, hn, h => by
    cases h
    cases v <;> first | rfl | (simp [nol] at hn)
  | o :: l, j + 1, v, hn, h => by
    have hl : nol l = true := by
      cases o with
      | none => exact hn
      | some w => cases w <;> first | exact hn | (simp [nol] at hn)
    exact nol_at hl h
theorem lv_keep {ls : Array Slot} {nL : Nat} {l l' : List (Nat × Value)} (h : lv_has ls nL l) (hs : ∀ q ∈ l', q ∈ l) : lv_has ls nL l' := ⟨h.1, h.2.1, fun q hq => h.2.2 q (hs q hq)⟩
theorem lvl_sett {ad : Nat → Nat} {ls : List (Option Value)} {i : Nat} {v : Value} (hn : nol ls = true) : ∀ q ∈ lvl ad 0 (sett ls i v), q ∈ (i, cvv ad v) :: (lvl ad 0 ls).filter (fun q => !(q.1 == i) && !(q.1 + 1 == i && q.2.category == 2)) := by
  intro q hq
  obtain ⟨j, w, h1, h2⟩ := lvl_mem.mp hq
  rw [nth_sett] at h1
  rw [Nat.zero_add] at h2
  by_cases hj : j = i ∧ i < ls.length
  · rw [if_pos hj] at h1
    cases h1
    rw [h2, hj.1]
    exact List.mem_cons_self
  · rw [if_neg hj] at h1
    by_cases hji : j = i
    · have : ls.length ≤ j := by
        rcases Nat.lt_or_ge j ls.length with h | h
        · exact absurd ⟨hji, by omega⟩ hj
        · exact h
      have hz : ∀ (l : List (Option Value)) (n : Nat), l.length ≤ n → nth l n = none := by
        intro l
        induction l with
        | nil => intro n _; rfl
        | cons a r ih =>
          intro n hn
          cases n with
          | zero => simp at hn
          | succ n => exact ih n (by simp at hn; omega)
      rw [hz ls j this] at h1
      cases h1
    · refine List.mem_cons_of_mem _ (List.mem_filter.mpr ⟨lvl_mem.mpr ⟨j, w, h1, by rw [h2, Nat.zero_add]⟩, ?_⟩)
      have hc : (cvv ad w).category = 1 := by rw [cvv_cat]; exact nol_at hn h1
      rw [h2]
      simp [hji, hc]
theorem lvl_nth {ad : Nat → Nat} {ls : List (Option Value)} {lsA : Array Slot} {nL i : Nat} {v : Value} (h : lv_has lsA nL (lvl ad 0 ls)) (hi : nth ls i = some v) : lsA[i]? = some (.val (cvv ad v)) :=
  h.2.2 (i, cvv ad v) (lvl_mem.mpr ⟨i, v, hi, by rw [Nat.zero_add]⟩)
def nestWord : Cond → Bool
  | .fieldLinkNest _ _ _ _ _ _ => true
  | .methodLinkNest _ _ _ _ => true
  | _ => false
/-- the words that a callee may take over: such as stay true behind a step -/
def lw_w : List Cond := lw_tbl.filter (fun w => goodWord w || nestWord w)
theorem lw_mem {w : Cond} (i : Nat) (h : lw_tbl[i]? = some w) (hg : (goodWord w || nestWord w) = true) : w ∈ lw_w := List.mem_filter.mpr ⟨List.mem_of_getElem? h, hg⟩
/-! the judgement: from this pc, these locals, this stack, this memory the method comes to its end -/
abbrev XC : Type := Program × Launch × Env × Room × State × MethodId × Array Value × List Frame × Method × Code × Nat × Nat × (State → Prop) × (Nat → Prop) × va_G × (Nat → Nat) × (Nat → ClassId) × Heap
def tys3 (cs : Nat → ClassId) : List (ClassId × FieldType) := [(cs 0, .int), (cs 1, .boolean), (cs 2, .array .int)]
def Vw (X : XC) (pc : Nat) (ls : List (Option Value)) (st : List Value) (σ : Mem) : Prop := match X with
  | (p, l, e, R, s, m, args, below, meth, c, cells, slots, Q, A, D, ad, cs, H0) =>
    ∀ (H : Heap) (locs : List Loc) (lsA : Array Slot), va_P D vwCl (wl ad cs σ 0 shp) H → va_S A H0 H locs → lv_has lsA ls.length (lvl ad 0 ls) → W p l e R s m args below meth c H locs cells slots Q (F0 m pc lsA (st.map (cvv ad)))
def Cok (X : XC) (own : String) (cc : ByteArray) (nL : Nat) : Prop := match X with
  | (p, _, _, R, s, m, args, _, _, c, cells, slots, _, A, D, ad, cs, _) =>
    p.tables.exec = Jvm.exec ∧ c.code = cc ∧ c.maxLocals = nL ∧ s.vm.findClass own = some m.cls ∧ (∀ w ∈ lw_w, w.before args s = true) ∧ va_K D vwCl (tys3 cs) s ∧ (∀ i j : Nat, i < 70 → j < 70 → ad i = ad j → i = j) ∧ (∀ i : Nat, i < 70 → A (ad i)) ∧ cells ≤ R.cells ∧ slots ≤ R.slots
def Rok (X : XC) (d : Nat) : Prop := match X with
  | (_, _, _, R, _, _, _, _, _, _, _, _, _, _, _, _, _, _) => d ≤ R.frames ∧ 40 * d ≤ R.locals
def inW (ad : Nat → Nat) : Nat → Prop := fun q => ∃ i : Nat, i < 70 ∧ ad i = q
def Qg (D : va_G) (ad : Nat → Nat) (cs : Nat → ClassId) (A : Nat → Prop) (P : Option Value → Mem → Prop) : Array Value → State → Outcome → State → Prop := fun _ st oc t =>
  (∃ (r : Option Value) (σ : Mem), oc = .returned (r.map (cvv ad)) ∧ P r σ ∧ va_P D vwCl (wl ad cs σ 0 shp) t.heap ∧ va_K D vwCl (tys3 cs) t) ∧ va_F A st t
def Ret (X : XC) (ret : Option FieldType) (P : Option Value → Mem → Prop) : Prop := match X with
  | (_, _, _, _, s, _, args, below, meth, _, cells, slots, Q, A, D, ad, cs, H0) => meth.sig.returnType = ret ∧ meth.locks = false ∧ H0 = s.heap ∧ cells = 0 ∧ slots = 0 ∧ Q = MQ below (Qg D ad cs A P) args s 0 0 A
def rmd (d : Nat) : Room := { frames := d, cells := 0, slots := 0, locals := 40 * d }
/-- a method's contract: from these arguments and this memory it answers r and leaves the memory σ', with P r σ' -/
def Cc (y : MethodName) (cc : ByteArray) (mx : Nat) (ret : Option FieldType) (d : Nat) (args : List Value) (σ : Mem) (P : Option Value → Mem → Prop) : Prop :=
  ∀ (l : Launch) (D : va_G) (ad : Nat → Nat) (cs : Nat → ClassId), (∀ i j : Nat, i < 70 → j < 70 → ad i = ad j → i = j) →
    Met l y (Cond.code y cc mx ret :: lw_w) (rmd d) (va_Pc (args.map (cvv ad)) (fun U => va_P D vwCl (wl ad cs σ 0 shp) U.heap ∧ va_K D vwCl (tys3 cs) U)) (Qg D ad cs (inW ad) P) 0 0 (inW ad)
theorem wl_D {A : Nat → Prop} {ad : Nat → Nat} {cs : Nat → ClassId} {σ : Mem} (h1 : ∀ i j : Nat, i < 70 → j < 70 → ad i = ad j → i = j) (h2 : ∀ i : Nat, i < 70 → A (ad i)) : va_D A (wl ad cs σ 0 shp) := by
  have key : ∀ (k : Nat) (q : Nat × va_E), (wl ad cs σ 0 shp)[k]? = some q → k < 70 ∧ q.1 = ad k := by
    intro k q hk
    rw [wl_get, Nat.zero_add] at hk
    cases hs : shp[k]? with
    | none => rw [hs] at hk; cases hk
    | some sh =>
      rw [hs] at hk
      cases hk
      exact ⟨by rw [← shp_len]; exact (List.getElem?_eq_some_iff.mp hs).1, rfl⟩
  refine ⟨fun i j p q hi hj hpq => ?_, fun k q hk => ?_⟩
  · obtain ⟨a1, a2⟩ := key i p hi
    obtain ⟨b1, b2⟩ := key j q hj
    exact h1 i j a1 b1 (by rw [← a2, ← b2]; exact hpq)
  · obtain ⟨a1, a2⟩ := key k q hk
    rw [a2]
    exact h2 k a1
theorem inW_A {ad : Nat → Nat} {A : Nat → Prop} (h2 : ∀ i : Nat, i < 70 → A (ad i)) : ∀ q, inW ad q → A q := by
  rintro q ⟨i, h, rfl⟩
  exact h2 i h
/-- a field of a class of the world, as the table has it -/
def Fld (own : String) (index ci k : Nat) : Prop := ∃ (C : String) (T : u_T) (N : Nat), vwCl[ci]? = some (C, T, N) ∧ k < N ∧ (∀ w ∈ u_ws C T N, w ∈ lw_w) ∧ (∃ ty : Nat → FieldType, ∀ k, k < N → parseFieldDescriptor (T k).2.2.1 = some (ty k)) ∧ (∀ a, a < N → ∀ b, b < N → a ≠ b → (T a).2.1 ≠ (T b).2.1) ∧
  (Cond.fieldLink own index (T k).1 (T k).2.1 (T k).2.2.1 ∈ lw_w ∨ ∃ host, Cond.fieldLinkNest own index (T k).1 (T k).2.1 (T k).2.2.1 host ∈ lw_w)
/-- an int field that is written -/
def Fint (ci k : Nat) : Prop := ∀ (C : String) (T : u_T) (N : Nat), vwCl[ci]? = some (C, T, N) → (T k).2.2.2 = false ∧ parseFieldDescriptor (T k).2.2.1 = some .int
def Mth (own : String) (index : Nat) (y : MethodName) (cc : ByteArray) (mx : Nat) (ret : Option FieldType) (n : Nat) : Prop :=
  (y.cls ≠ "java/lang/invoke/MethodHandle" ∧ y.cls ≠ "java/lang/invoke/VarHandle" ∧ (parseMethodDescriptor y.desc).map (fun d => d.parameters.length) = some n) ∧ mx ≤ 21 ∧ Cond.code y cc mx ret ∈ lw_w ∧ Cond.initialized y.cls ∈ lw_w ∧
  (Cond.methodLink own index y ∈ lw_w ∨ ∃ host, Cond.methodLinkNest own index y host ∈ lw_w)
def MthV (own : String) (index : Nat) (y : MethodName) (ci : Nat) (cc : ByteArray) (mx : Nat) (ret : Option FieldType) (n : Nat) : Prop :=
  Mth own index y cc mx ret n ∧ (∃ (T : u_T) (N : Nat), vwCl[ci]? = some (y.cls, T, N)) ∧ Cond.instanceMethod y ∈ lw_w ∧ Cond.selects y.cls y y ∈ lw_w
def MthS (own : String) (index : Nat) (y : MethodName) (cc : ByteArray) (mx : Nat) (ret : Option FieldType) (n : Nat) : Prop := Mth own index y cc mx ret n ∧ Cond.static y ∈ lw_w
theorem lw_good : lw_w.all (fun w => goodWord w || nestWord w) = true := by
  unfold lw_w
  rw [List.all_eq_true]
  intro w hw
  exact (List.mem_filter.mp hw).2
theorem nest_warm {w : Cond} (hn : nestWord w = true) {args : Array Value} {s : State} (h : w.before args s = true) (a' : Array Value) (U : State) (hW : s.WarmedH U.vm) : w.before a' U = true := by
  cases w <;> first
    | exact va_Nw.use rfl (va_Nw.warmF hW (va_Nw.of rfl h))
    | exact va_Nw.use rfl (va_Nw.warmM hW (va_Nw.of rfl h))
    | (cases hn)
theorem lw_warm {args : Array Value} {s : State} (hts : ∀ w ∈ lw_w, w.before args s = true) (w : Cond) (hw : w ∈ lw_w) (a' : Array Value) (U : State) (hW : s.WarmedH U.vm) : w.before a' U = true := by
  have h1 := List.all_eq_true.mp lw_good w hw
  rcases Bool.or_eq_true _ _ ▸ h1 with h2 | h2
  · exact word_at hW (good_of_word h2) (hts w hw)
  · exact nest_warm h2 (hts w hw) a' U hW
theorem lw_max_st : Cond.static Lib.Math.max.name ∈ lw_w := lw_mem 403 (by decide +kernel) (by decide +kernel)
theorem lw_max_in : Cond.initialized "java/lang/Math" ∈ lw_w := lw_mem 57 (by decide +kernel) (by decide +kernel)
theorem lw_max_co : Cond.code Lib.Math.max.name Lib.Math.max.code 2 (some .int) ∈ lw_w := lw_mem 404 (by decide +kernel) (by decide +kernel)
theorem lw_min_st : Cond.static Lib.Math.min.name ∈ lw_w := lw_mem 360 (by decide +kernel) (by decide +kernel)
theorem lw_min_in : Cond.initialized "java/lang/Math" ∈ lw_w := lw_mem 57 (by decide +kernel) (by decide +kernel)
theorem lw_min_co : Cond.code Lib.Math.min.name Lib.Math.min.code 2 (some .int) ∈ lw_w := lw_mem 361 (by decide +kernel) (by decide +kernel)

theorem V_iconst {X : XC} {own : String} {cc : ByteArray} {nL pc : Nat} {ls : List (Option Value)} {st : List Value} {σ : Mem} {n : Int} {v : Int32} (hX : Cok X own cc nL) (hd : decode cc pc = .ok (.iconst n, 1)) (hv : Int32.ofInt n = v) (kk : Vw X (pc + 1) ls (.int v :: st) σ) : Vw X pc ls (st) σ := by
  obtain ⟨p, l, e, R, s, m, args, below, meth, c, cells, slots, Q, A, D, ad, cs, H0⟩ := X
  intro H locs lsA hP hS hl
  exact lv_iconst hX.1 hX.2.1 hd hv (kk H locs lsA hP hS hl)
theorem V_bipush {X : XC} {own : String} {cc : ByteArray} {nL pc : Nat} {ls : List (Option Value)} {st : List Value} {σ : Mem} {n : Int} {v : Int32} (hX : Cok X own cc nL) (hd : decode cc pc = .ok (.bipush n, 2)) (hv : (Int8.ofInt n).toInt32 = v) (kk : Vw X (pc + 2) ls (.int v :: st) σ) : Vw X pc ls (st) σ := by
  obtain ⟨p, l, e, R, s, m, args, below, meth, c, cells, slots, Q, A, D, ad, cs, H0⟩ := X
  intro H locs lsA hP hS hl
  exact lv_bipush hX.1 hX.2.1 hd hv (kk H locs lsA hP hS hl)
theorem V_sipush {X : XC} {own : String} {cc : ByteArray} {nL pc : Nat} {ls : List (Option Value)} {st : List Value} {σ : Mem} {n : Int} {v : Int32} (hX : Cok X own cc nL) (hd : decode cc pc = .ok (.sipush n, 3)) (hv : (Int16.ofInt n).toInt32 = v) (kk : Vw X (pc + 3) ls (.int v :: st) σ) : Vw X pc ls (st) σ := by
  obtain ⟨p, l, e, R, s, m, args, below, meth, c, cells, slots, Q, A, D, ad, cs, H0⟩ := X
  intro H locs lsA hP hS hl
  exact lv_sipush hX.1 hX.2.1 hd hv (kk H locs lsA hP hS hl)
theorem V_lconst {X : XC} {own : String} {cc : ByteArray} {nL pc : Nat} {ls : List (Option Value)} {st : List Value} {σ : Mem} {n : Fin 2} {v : Int64} (hX : Cok X own cc nL) (hd : decode cc pc = .ok (.lconst n, 1)) (hv : Int64.ofNat (n : Nat) = v) (kk : Vw X (pc + 1) ls (.long v :: st) σ) : Vw X pc ls (st) σ := by
  obtain ⟨p, l, e, R, s, m, args, below, meth, c, cells, slots, Q, A, D, ad, cs, H0⟩ := X
  intro H locs lsA hP hS hl
  exact lv_lconst hX.1 hX.2.1 hd hv (kk H locs lsA hP hS hl)
theorem V_iadd {X : XC} {own : String} {cc : ByteArray} {nL pc : Nat} {ls : List (Option Value)} {st : List Value} {σ : Mem} {x y : Int32} (hX : Cok X own cc nL) (hd : decode cc pc = .ok (.iadd, 1)) (kk : Vw X (pc + 1) ls (.int (x + y) :: st) σ) : Vw X pc ls (.int y :: .int x :: st) σ := by
  obtain ⟨p, l, e, R, s, m, args, below, meth, c, cells, slots, Q, A, D, ad, cs, H0⟩ := X
  intro H locs lsA hP hS hl
  exact lv_iadd hX.1 hX.2.1 hd (kk H locs lsA hP hS hl)
theorem V_isub {X : XC} {own : String} {cc : ByteArray} {nL pc : Nat} {ls : List (Option Value)} {st : List Value} {σ : Mem} {x y : Int32} (hX : Cok X own cc nL) (hd : decode cc pc = .ok (.isub, 1)) (kk : Vw X (pc + 1) ls (.int (x - y) :: st) σ) : Vw X pc ls (.int y :: .int x :: st) σ := by
  obtain ⟨p, l, e, R, s, m, args, below, meth, c, cells, slots, Q, A, D, ad, cs, H0⟩ := X
  intro H locs lsA hP hS hl
  exact lv_isub hX.1 hX.2.1 hd (kk H locs lsA hP hS hl)
theorem V_imul {X : XC} {own : String} {cc : ByteArray} {nL pc : Nat} {ls : List (Option Value)} {st : List Value} {σ : Mem} {x y : Int32} (hX : Cok X own cc nL) (hd : decode cc pc = .ok (.imul, 1)) (kk : Vw X (pc + 1) ls (.int (x * y) :: st) σ) : Vw X pc ls (.int y :: .int x :: st) σ := by
  obtain ⟨p, l, e, R, s, m, args, below, meth, c, cells, slots, Q, A, D, ad, cs, H0⟩ := X
  intro H locs lsA hP hS hl
  exact lv_imul hX.1 hX.2.1 hd (kk H locs lsA hP hS hl)
theorem V_iand {X : XC} {own : String} {cc : ByteArray} {nL pc : Nat} {ls : List (Option Value)} {st : List Value} {σ : Mem} {x y : Int32} (hX : Cok X own cc nL) (hd : decode cc pc = .ok (.iand, 1)) (kk : Vw X (pc + 1) ls (.int (x &&& y) :: st) σ) : Vw X pc ls (.int y :: .int x :: st) σ := by
  obtain ⟨p, l, e, R, s, m, args, below, meth, c, cells, slots, Q, A, D, ad, cs, H0⟩ := X
  intro H locs lsA hP hS hl
  exact lv_iand hX.1 hX.2.1 hd (kk H locs lsA hP hS hl)
theorem V_ior {X : XC} {own : String} {cc : ByteArray} {nL pc : Nat} {ls : List (Option Value)} {st : List Value} {σ : Mem} {x y : Int32} (hX : Cok X own cc nL) (hd : decode cc pc = .ok (.ior, 1)) (kk : Vw X (pc + 1) ls (.int (x ||| y) :: st) σ) : Vw X pc ls (.int y :: .int x :: st) σ := by
  obtain ⟨p, l, e, R, s, m, args, below, meth, c, cells, slots, Q, A, D, ad, cs, H0⟩ := X
  intro H locs lsA hP hS hl
  exact lv_ior hX.1 hX.2.1 hd (kk H locs lsA hP hS hl)
theorem V_ixor {X : XC} {own : String} {cc : ByteArray} {nL pc : Nat} {ls : List (Option Value)} {st : List Value} {σ : Mem} {x y : Int32} (hX : Cok X own cc nL) (hd : decode cc pc = .ok (.ixor, 1)) (kk : Vw X (pc + 1) ls (.int (x ^^^ y) :: st) σ) : Vw X pc ls (.int y :: .int x :: st) σ := by
  obtain ⟨p, l, e, R, s, m, args, below, meth, c, cells, slots, Q, A, D, ad, cs, H0⟩ := X
  intro H locs lsA hP hS hl
  exact lv_ixor hX.1 hX.2.1 hd (kk H locs lsA hP hS hl)
theorem V_ishl {X : XC} {own : String} {cc : ByteArray} {nL pc : Nat} {ls : List (Option Value)} {st : List Value} {σ : Mem} {x y : Int32} (hX : Cok X own cc nL) (hd : decode cc pc = .ok (.ishl, 1)) (kk : Vw X (pc + 1) ls (.int (x <<< (y &&& 31)) :: st) σ) : Vw X pc ls (.int y :: .int x :: st) σ := by
  obtain ⟨p, l, e, R, s, m, args, below, meth, c, cells, slots, Q, A, D, ad, cs, H0⟩ := X
  intro H locs lsA hP hS hl
  exact lv_ishl hX.1 hX.2.1 hd (kk H locs lsA hP hS hl)
theorem V_ishr {X : XC} {own : String} {cc : ByteArray} {nL pc : Nat} {ls : List (Option Value)} {st : List Value} {σ : Mem} {x y : Int32} (hX : Cok X own cc nL) (hd : decode cc pc = .ok (.ishr, 1)) (kk : Vw X (pc + 1) ls (.int (x >>> (y &&& 31)) :: st) σ) : Vw X pc ls (.int y :: .int x :: st) σ := by
  obtain ⟨p, l, e, R, s, m, args, below, meth, c, cells, slots, Q, A, D, ad, cs, H0⟩ := X
  intro H locs lsA hP hS hl
  exact lv_ishr hX.1 hX.2.1 hd (kk H locs lsA hP hS hl)
theorem V_idiv {X : XC} {own : String} {cc : ByteArray} {nL pc : Nat} {ls : List (Option Value)} {st : List Value} {σ : Mem} {x y : Int32} (hX : Cok X own cc nL) (hd : decode cc pc = .ok (.idiv, 1)) (hne : ¬ y = 0) (kk : Vw X (pc + 1) ls (.int (x / y) :: st) σ) : Vw X pc ls (.int y :: .int x :: st) σ := by
  obtain ⟨p, l, e, R, s, m, args, below, meth, c, cells, slots, Q, A, D, ad, cs, H0⟩ := X
  intro H locs lsA hP hS hl
  exact lv_idiv hX.1 hX.2.1 hd hne (kk H locs lsA hP hS hl)
theorem V_irem {X : XC} {own : String} {cc : ByteArray} {nL pc : Nat} {ls : List (Option Value)} {st : List Value} {σ : Mem} {x y : Int32} (hX : Cok X own cc nL) (hd : decode cc pc = .ok (.irem, 1)) (hne : ¬ y = 0) (kk : Vw X (pc + 1) ls (.int (x - x / y * y) :: st) σ) : Vw X pc ls (.int y :: .int x :: st) σ := by
  obtain ⟨p, l, e, R, s, m, args, below, meth, c, cells, slots, Q, A, D, ad, cs, H0⟩ := X
  intro H locs lsA hP hS hl
  exact lv_irem hX.1 hX.2.1 hd hne (kk H locs lsA hP hS hl)
theorem V_iushr {X : XC} {own : String} {cc : ByteArray} {nL pc : Nat} {ls : List (Option Value)} {st : List Value} {σ : Mem} {x y : Int32} (hX : Cok X own cc nL) (hd : decode cc pc = .ok (.iushr, 1)) (kk : Vw X (pc + 1) ls (.int ((x.toUInt32 >>> (y.toUInt32 &&& Int32.toUInt32 31)).toInt32) :: st) σ) : Vw X pc ls (.int y :: .int x :: st) σ := by
  obtain ⟨p, l, e, R, s, m, args, below, meth, c, cells, slots, Q, A, D, ad, cs, H0⟩ := X
  intro H locs lsA hP hS hl
  exact lv_iushr hX.1 hX.2.1 hd rfl (kk H locs lsA hP hS hl)
theorem V_i2l {X : XC} {own : String} {cc : ByteArray} {nL pc : Nat} {ls : List (Option Value)} {st : List Value} {σ : Mem} {x : Int32} (hX : Cok X own cc nL) (hd : decode cc pc = .ok (.i2l, 1)) (kk : Vw X (pc + 1) ls (.long x.toInt64 :: st) σ) : Vw X pc ls (.int x :: st) σ := by
  obtain ⟨p, l, e, R, s, m, args, below, meth, c, cells, slots, Q, A, D, ad, cs, H0⟩ := X
  intro H locs lsA hP hS hl
  exact lv_i2l hX.1 hX.2.1 hd rfl (kk H locs lsA hP hS hl)
theorem V_i2b {X : XC} {own : String} {cc : ByteArray} {nL pc : Nat} {ls : List (Option Value)} {st : List Value} {σ : Mem} {x : Int32} (hX : Cok X own cc nL) (hd : decode cc pc = .ok (.i2b, 1)) (kk : Vw X (pc + 1) ls (.int x.toInt8.toInt32 :: st) σ) : Vw X pc ls (.int x :: st) σ := by
  obtain ⟨p, l, e, R, s, m, args, below, meth, c, cells, slots, Q, A, D, ad, cs, H0⟩ := X
  intro H locs lsA hP hS hl
  exact lv_i2b hX.1 hX.2.1 hd rfl (kk H locs lsA hP hS hl)
theorem V_i2s {X : XC} {own : String} {cc : ByteArray} {nL pc : Nat} {ls : List (Option Value)} {st : List Value} {σ : Mem} {x : Int32} (hX : Cok X own cc nL) (hd : decode cc pc = .ok (.i2s, 1)) (kk : Vw X (pc + 1) ls (.int x.toInt16.toInt32 :: st) σ) : Vw X pc ls (.int x :: st) σ := by
  obtain ⟨p, l, e, R, s, m, args, below, meth, c, cells, slots, Q, A, D, ad, cs, H0⟩ := X
  intro H locs lsA hP hS hl
  exact lv_i2s hX.1 hX.2.1 hd rfl (kk H locs lsA hP hS hl)
theorem V_ladd {X : XC} {own : String} {cc : ByteArray} {nL pc : Nat} {ls : List (Option Value)} {st : List Value} {σ : Mem} {x y : Int64} (hX : Cok X own cc nL) (hd : decode cc pc = .ok (.ladd, 1)) (kk : Vw X (pc + 1) ls (.long (x + y) :: st) σ) : Vw X pc ls (.long y :: .long x :: st) σ := by
  obtain ⟨p, l, e, R, s, m, args, below, meth, c, cells, slots, Q, A, D, ad, cs, H0⟩ := X
  intro H locs lsA hP hS hl
  exact lv_ladd hX.1 hX.2.1 hd (kk H locs lsA hP hS hl)
theorem V_lcmp {X : XC} {own : String} {cc : ByteArray} {nL pc : Nat} {ls : List (Option Value)} {st : List Value} {σ : Mem} {x y : Int64} (hX : Cok X own cc nL) (hd : decode cc pc = .ok (.lcmp, 1)) (kk : Vw X (pc + 1) ls (.int (lg_cmp x y) :: st) σ) : Vw X pc ls (.long y :: .long x :: st) σ := by
  obtain ⟨p, l, e, R, s, m, args, below, meth, c, cells, slots, Q, A, D, ad, cs, H0⟩ := X
  intro H locs lsA hP hS hl
  exact W.lcmp hX.1 hX.2.1 hd (kk H locs lsA hP hS hl)
theorem V_dup {X : XC} {own : String} {cc : ByteArray} {nL pc : Nat} {ls : List (Option Value)} {st : List Value} {σ : Mem} {v : Value} (hX : Cok X own cc nL) (hd : decode cc pc = .ok (.dup, 1)) (hc : v.category = 1) (kk : Vw X (pc + 1) ls (v :: v :: st) σ) : Vw X pc ls (v :: st) σ := by
  obtain ⟨p, l, e, R, s, m, args, below, meth, c, cells, slots, Q, A, D, ad, cs, H0⟩ := X
  intro H locs lsA hP hS hl
  exact lv_dup hX.1 hX.2.1 hd (by rw [cvv_cat]; exact hc) (kk H locs lsA hP hS hl)
theorem V_dup2 {X : XC} {own : String} {cc : ByteArray} {nL pc : Nat} {ls : List (Option Value)} {st : List Value} {σ : Mem} {v u : Value} (hX : Cok X own cc nL) (hd : decode cc pc = .ok (.dup2, 1)) (hc : v.category = 1) (hc2 : u.category = 1) (kk : Vw X (pc + 1) ls (v :: u :: v :: u :: st) σ) : Vw X pc ls (v :: u :: st) σ := by
  obtain ⟨p, l, e, R, s, m, args, below, meth, c, cells, slots, Q, A, D, ad, cs, H0⟩ := X
  intro H locs lsA hP hS hl
  exact lv_dup2_11 hX.1 hX.2.1 hd (by rw [cvv_cat]; exact hc) (by rw [cvv_cat]; exact hc2) (kk H locs lsA hP hS hl)
theorem V_iload_n {X : XC} {own : String} {cc : ByteArray} {nL pc : Nat} {ls : List (Option Value)} {st : List Value} {σ : Mem} {k : Fin 4} {i : Nat} {x : Int32} (hX : Cok X own cc nL) (hd : decode cc pc = .ok (.iload_n k, 1)) (hi : (k : Nat) = i) (h : nth ls i = some (.int x)) (kk : Vw X (pc + 1) ls (.int x :: st) σ) : Vw X pc ls st σ := by
  obtain ⟨p, l, e, R, s, m, args, below, meth, c, cells, slots, Q, A, D, ad, cs, H0⟩ := X
  intro H locs lsA hP hS hl
  exact lv_iload_n hX.1 hX.2.1 hd hi (lvl_nth hl h) (kk H locs lsA hP hS hl)
theorem V_iload {X : XC} {own : String} {cc : ByteArray} {nL pc : Nat} {ls : List (Option Value)} {st : List Value} {σ : Mem} {i : Nat} {x : Int32} (hX : Cok X own cc nL) (hd : decode cc pc = .ok (.iload i, 2)) (h : nth ls i = some (.int x)) (kk : Vw X (pc + 2) ls (.int x :: st) σ) : Vw X pc ls st σ := by
  obtain ⟨p, l, e, R, s, m, args, below, meth, c, cells, slots, Q, A, D, ad, cs, H0⟩ := X
  intro H locs lsA hP hS hl
  exact lv_iload hX.1 hX.2.1 hd (lvl_nth hl h) (kk H locs lsA hP hS hl)
theorem V_aload_n {X : XC} {own : String} {cc : ByteArray} {nL pc : Nat} {ls : List (Option Value)} {st : List Value} {σ : Mem} {k : Fin 4} {i : Nat} {x : Nat} (hX : Cok X own cc nL) (hd : decode cc pc = .ok (.aload_n k, 1)) (hi : (k : Nat) = i) (h : nth ls i = some (.ref x)) (kk : Vw X (pc + 1) ls (.ref x :: st) σ) : Vw X pc ls st σ := by
  obtain ⟨p, l, e, R, s, m, args, below, meth, c, cells, slots, Q, A, D, ad, cs, H0⟩ := X
  intro H locs lsA hP hS hl
  exact lv_aload_n hX.1 hX.2.1 hd hi (lvl_nth hl h) (kk H locs lsA hP hS hl)
theorem V_aload {X : XC} {own : String} {cc : ByteArray} {nL pc : Nat} {ls : List (Option Value)} {st : List Value} {σ : Mem} {i : Nat} {x : Nat} (hX : Cok X own cc nL) (hd : decode cc pc = .ok (.aload i, 2)) (h : nth ls i = some (.ref x)) (kk : Vw X (pc + 2) ls (.ref x :: st) σ) : Vw X pc ls st σ := by
  obtain ⟨p, l, e, R, s, m, args, below, meth, c, cells, slots, Q, A, D, ad, cs, H0⟩ := X
  intro H locs lsA hP hS hl
  exact lv_aload hX.1 hX.2.1 hd (lvl_nth hl h) (kk H locs lsA hP hS hl)
theorem V_lload_n {X : XC} {own : String} {cc : ByteArray} {nL pc : Nat} {ls : List (Option Value)} {st : List Value} {σ : Mem} {k : Fin 4} {i : Nat} {x : Int64} (hX : Cok X own cc nL) (hd : decode cc pc = .ok (.lload_n k, 1)) (hi : (k : Nat) = i) (h : nth ls i = some (.long x)) (kk : Vw X (pc + 1) ls (.long x :: st) σ) : Vw X pc ls st σ := by
  obtain ⟨p, l, e, R, s, m, args, below, meth, c, cells, slots, Q, A, D, ad, cs, H0⟩ := X
  intro H locs lsA hP hS hl
  exact lv_lload_n hX.1 hX.2.1 hd hi (lvl_nth hl h) (kk H locs lsA hP hS hl)
theorem V_lload {X : XC} {own : String} {cc : ByteArray} {nL pc : Nat} {ls : List (Option Value)} {st : List Value} {σ : Mem} {i : Nat} {x : Int64} (hX : Cok X own cc nL) (hd : decode cc pc = .ok (.lload i, 2)) (h : nth ls i = some (.long x)) (kk : Vw X (pc + 2) ls (.long x :: st) σ) : Vw X pc ls st σ := by
  obtain ⟨p, l, e, R, s, m, args, below, meth, c, cells, slots, Q, A, D, ad, cs, H0⟩ := X
  intro H locs lsA hP hS hl
  exact lv_lload hX.1 hX.2.1 hd (lvl_nth hl h) (kk H locs lsA hP hS hl)
theorem V_istore_n {X : XC} {own : String} {cc : ByteArray} {nL pc : Nat} {ls : List (Option Value)} {st : List Value} {σ : Mem} {k : Fin 4} {i : Nat} {x : Int32} {ls2 : List (Option Value)} (hX : Cok X own cc nL) (hd : decode cc pc = .ok (.istore_n k, 1)) (hi : (k : Nat) = i) (hn : nol ls = true) (hlt : i < ls.length) (he : sett ls i (.int x) = ls2) (kk : Vw X (pc + 1) ls2 st σ) : Vw X pc ls (.int x :: st) σ := by
  obtain ⟨p, l, e, R, s, m, args, below, meth, c, cells, slots, Q, A, D, ad, cs, H0⟩ := X
  subst he
  intro H locs lsA hP hS hl
  exact lv_istore_n hX.1 hX.2.1 hd hi hl hlt rfl (fun ls9 h9 => kk H locs ls9 hP hS (by rw [sett_len]; exact lv_keep h9 (lvl_sett hn)))
theorem V_istore {X : XC} {own : String} {cc : ByteArray} {nL pc : Nat} {ls : List (Option Value)} {st : List Value} {σ : Mem} {i : Nat} {x : Int32} {ls2 : List (Option Value)} (hX : Cok X own cc nL) (hd : decode cc pc = .ok (.istore i, 2)) (hn : nol ls = true) (hlt : i < ls.length) (he : sett ls i (.int x) = ls2) (kk : Vw X (pc + 2) ls2 st σ) : Vw X pc ls (.int x :: st) σ := by
  obtain ⟨p, l, e, R, s, m, args, below, meth, c, cells, slots, Q, A, D, ad, cs, H0⟩ := X
  subst he
  intro H locs lsA hP hS hl
  exact lv_istore hX.1 hX.2.1 hd hl hlt rfl (fun ls9 h9 => kk H locs ls9 hP hS (by rw [sett_len]; exact lv_keep h9 (lvl_sett hn)))
theorem V_astore_n {X : XC} {own : String} {cc : ByteArray} {nL pc : Nat} {ls : List (Option Value)} {st : List Value} {σ : Mem} {k : Fin 4} {i : Nat} {x : Nat} {ls2 : List (Option Value)} (hX : Cok X own cc nL) (hd : decode cc pc = .ok (.astore_n k, 1)) (hi : (k : Nat) = i) (hn : nol ls = true) (hlt : i < ls.length) (he : sett ls i (.ref x) = ls2) (kk : Vw X (pc + 1) ls2 st σ) : Vw X pc ls (.ref x :: st) σ := by
  obtain ⟨p, l, e, R, s, m, args, below, meth, c, cells, slots, Q, A, D, ad, cs, H0⟩ := X
  subst he
  intro H locs lsA hP hS hl
  exact lv_astore_n hX.1 hX.2.1 hd hi hl hlt rfl (fun ls9 h9 => kk H locs ls9 hP hS (by rw [sett_len]; exact lv_keep h9 (lvl_sett hn)))
theorem V_astore {X : XC} {own : String} {cc : ByteArray} {nL pc : Nat} {ls : List (Option Value)} {st : List Value} {σ : Mem} {i : Nat} {x : Nat} {ls2 : List (Option Value)} (hX : Cok X own cc nL) (hd : decode cc pc = .ok (.astore i, 2)) (hn : nol ls = true) (hlt : i < ls.length) (he : sett ls i (.ref x) = ls2) (kk : Vw X (pc + 2) ls2 st σ) : Vw X pc ls (.ref x :: st) σ := by
  obtain ⟨p, l, e, R, s, m, args, below, meth, c, cells, slots, Q, A, D, ad, cs, H0⟩ := X
  subst he
  intro H locs lsA hP hS hl
  exact lv_astore hX.1 hX.2.1 hd hl hlt rfl (fun ls9 h9 => kk H locs ls9 hP hS (by rw [sett_len]; exact lv_keep h9 (lvl_sett hn)))
theorem V_iinc {X : XC} {own : String} {cc : ByteArray} {nL pc : Nat} {ls : List (Option Value)} {st : List Value} {σ : Mem} {i : Nat} {n : Int} {x v : Int32} {ls2 : List (Option Value)} (hX : Cok X own cc nL) (hd : decode cc pc = .ok (.iinc i n, 3)) (hn : nol ls = true) (h : nth ls i = some (.int x)) (hv : x + Int32.ofInt n = v) (hlt : i < ls.length) (he : sett ls i (.int v) = ls2) (kk : Vw X (pc + 3) ls2 st σ) : Vw X pc ls st σ := by
  obtain ⟨p, l, e, R, s, m, args, below, meth, c, cells, slots, Q, A, D, ad, cs, H0⟩ := X
  subst he
  intro H locs lsA hP hS hl
  obtain ⟨k, hk⟩ := List.getElem?_of_mem (lvl_mem.mpr ⟨i, .int x, h, rfl⟩ : _ ∈ lvl ad 0 ls)
  rw [Nat.zero_add] at hk
  exact lv_iinc hX.1 hX.2.1 hd hl hk hv hlt rfl (fun ls9 h9 => kk H locs ls9 hP hS (by rw [sett_len]; exact lv_keep h9 (lvl_sett hn)))
theorem V_istore0 {X : XC} {own : String} {cc : ByteArray} {nL pc : Nat} {b : Option Value} {r : List (Option Value)} {st : List Value} {σ : Mem} {x : Int32} (hX : Cok X own cc nL) (hd : decode cc pc = .ok (.istore_n 0, 1)) (hn : nol (b :: r) = true) (kk : Vw X (pc + 1) (some (.int x) :: r) st σ) : Vw X pc (b :: r) (.int x :: st) σ := V_istore_n (i := 0) hX hd rfl hn (by simp only [List.length_cons]; omega) rfl kk
theorem V_iinc0 {X : XC} {own : String} {cc : ByteArray} {nL pc : Nat} {r : List (Option Value)} {st : List Value} {σ : Mem} {n : Int} {x v : Int32} (hX : Cok X own cc nL) (hd : decode cc pc = .ok (.iinc 0 n, 3)) (hn : nol (some (.int x) :: r) = true) (hv : x + Int32.ofInt n = v) (kk : Vw X (pc + 3) (some (.int v) :: r) st σ) : Vw X pc (some (.int x) :: r) st σ := V_iinc (i := 0) hX hd hn rfl hv (by simp only [List.length_cons]; omega) rfl kk
theorem V_istore1 {X : XC} {own : String} {cc : ByteArray} {nL pc : Nat} {a0 : Option Value} {b : Option Value} {r : List (Option Value)} {st : List Value} {σ : Mem} {x : Int32} (hX : Cok X own cc nL) (hd : decode cc pc = .ok (.istore_n 1, 1)) (hn : nol (a0 :: b :: r) = true) (kk : Vw X (pc + 1) (a0 :: some (.int x) :: r) st σ) : Vw X pc (a0 :: b :: r) (.int x :: st) σ := V_istore_n (i := 1) hX hd rfl hn (by simp only [List.length_cons]; omega) rfl kk
theorem V_iinc1 {X : XC} {own : String} {cc : ByteArray} {nL pc : Nat} {a0 : Option Value} {r : List (Option Value)} {st : List Value} {σ : Mem} {n : Int} {x v : Int32} (hX : Cok X own cc nL) (hd : decode cc pc = .ok (.iinc 1 n, 3)) (hn : nol (a0 :: some (.int x) :: r) = true) (hv : x + Int32.ofInt n = v) (kk : Vw X (pc + 3) (a0 :: some (.int v) :: r) st σ) : Vw X pc (a0 :: some (.int x) :: r) st σ := V_iinc (i := 1) hX hd hn rfl hv (by simp only [List.length_cons]; omega) rfl kk
theorem V_istore2 {X : XC} {own : String} {cc : ByteArray} {nL pc : Nat} {a0 a1 : Option Value} {b : Option Value} {r : List (Option Value)} {st : List Value} {σ : Mem} {x : Int32} (hX : Cok X own cc nL) (hd : decode cc pc = .ok (.istore_n 2, 1)) (hn : nol (a0 :: a1 :: b :: r) = true) (kk : Vw X (pc + 1) (a0 :: a1 :: some (.int x) :: r) st σ) : Vw X pc (a0 :: a1 :: b :: r) (.int x :: st) σ := V_istore_n (i := 2) hX hd rfl hn (by simp only [List.length_cons]; omega) rfl kk
theorem V_iinc2 {X : XC} {own : String} {cc : ByteArray} {nL pc : Nat} {a0 a1 : Option Value} {r : List (Option Value)} {st : List Value} {σ : Mem} {n : Int} {x v : Int32} (hX : Cok X own cc nL) (hd : decode cc pc = .ok (.iinc 2 n, 3)) (hn : nol (a0 :: a1 :: some (.int x) :: r) = true) (hv : x + Int32.ofInt n = v) (kk : Vw X (pc + 3) (a0 :: a1 :: some (.int v) :: r) st σ) : Vw X pc (a0 :: a1 :: some (.int x) :: r) st σ := V_iinc (i := 2) hX hd hn rfl hv (by simp only [List.length_cons]; omega) rfl kk
theorem V_istore3 {X : XC} {own : String} {cc : ByteArray} {nL pc : Nat} {a0 a1 a2 : Option Value} {b : Option Value} {r : List (Option Value)} {st : List Value} {σ : Mem} {x : Int32} (hX : Cok X own cc nL) (hd : decode cc pc = .ok (.istore_n 3, 1)) (hn : nol (a0 :: a1 :: a2 :: b :: r) = true) (kk : Vw X (pc + 1) (a0 :: a1 :: a2 :: some (.int x) :: r) st σ) : Vw X pc (a0 :: a1 :: a2 :: b :: r) (.int x :: st) σ := V_istore_n (i := 3) hX hd rfl hn (by simp only [List.length_cons]; omega) rfl kk
theorem V_iinc3 {X : XC} {own : String} {cc : ByteArray} {nL pc : Nat} {a0 a1 a2 : Option Value} {r : List (Option Value)} {st : List Value} {σ : Mem} {n : Int} {x v : Int32} (hX : Cok X own cc nL) (hd : decode cc pc = .ok (.iinc 3 n, 3)) (hn : nol (a0 :: a1 :: a2 :: some (.int x) :: r) = true) (hv : x + Int32.ofInt n = v) (kk : Vw X (pc + 3) (a0 :: a1 :: a2 :: some (.int v) :: r) st σ) : Vw X pc (a0 :: a1 :: a2 :: some (.int x) :: r) st σ := V_iinc (i := 3) hX hd hn rfl hv (by simp only [List.length_cons]; omega) rfl kk
theorem V_istore4 {X : XC} {own : String} {cc : ByteArray} {nL pc : Nat} {a0 a1 a2 a3 : Option Value} {b : Option Value} {r : List (Option Value)} {st : List Value} {σ : Mem} {x : Int32} (hX : Cok X own cc nL) (hd : decode cc pc = .ok (.istore 4, 2)) (hn : nol (a0 :: a1 :: a2 :: a3 :: b :: r) = true) (kk : Vw X (pc + 2) (a0 :: a1 :: a2 :: a3 :: some (.int x) :: r) st σ) : Vw X pc (a0 :: a1 :: a2 :: a3 :: b :: r) (.int x :: st) σ := V_istore (i := 4) hX hd hn (by simp only [List.length_cons]; omega) rfl kk
theorem V_iinc4 {X : XC} {own : String} {cc : ByteArray} {nL pc : Nat} {a0 a1 a2 a3 : Option Value} {r : List (Option Value)} {st : List Value} {σ : Mem} {n : Int} {x v : Int32} (hX : Cok X own cc nL) (hd : decode cc pc = .ok (.iinc 4 n, 3)) (hn : nol (a0 :: a1 :: a2 :: a3 :: some (.int x) :: r) = true) (hv : x + Int32.ofInt n = v) (kk : Vw X (pc + 3) (a0 :: a1 :: a2 :: a3 :: some (.int v) :: r) st σ) : Vw X pc (a0 :: a1 :: a2 :: a3 :: some (.int x) :: r) st σ := V_iinc (i := 4) hX hd hn rfl hv (by simp only [List.length_cons]; omega) rfl kk
theorem V_istore5 {X : XC} {own : String} {cc : ByteArray} {nL pc : Nat} {a0 a1 a2 a3 a4 : Option Value} {b : Option Value} {r : List (Option Value)} {st : List Value} {σ : Mem} {x : Int32} (hX : Cok X own cc nL) (hd : decode cc pc = .ok (.istore 5, 2)) (hn : nol (a0 :: a1 :: a2 :: a3 :: a4 :: b :: r) = true) (kk : Vw X (pc + 2) (a0 :: a1 :: a2 :: a3 :: a4 :: some (.int x) :: r) st σ) : Vw X pc (a0 :: a1 :: a2 :: a3 :: a4 :: b :: r) (.int x :: st) σ := V_istore (i := 5) hX hd hn (by simp only [List.length_cons]; omega) rfl kk
theorem V_iinc5 {X : XC} {own : String} {cc : ByteArray} {nL pc : Nat} {a0 a1 a2 a3 a4 : Option Value} {r : List (Option Value)} {st : List Value} {σ : Mem} {n : Int} {x v : Int32} (hX : Cok X own cc nL) (hd : decode cc pc = .ok (.iinc 5 n, 3)) (hn : nol (a0 :: a1 :: a2 :: a3 :: a4 :: some (.int x) :: r) = true) (hv : x + Int32.ofInt n = v) (kk : Vw X (pc + 3) (a0 :: a1 :: a2 :: a3 :: a4 :: some (.int v) :: r) st σ) : Vw X pc (a0 :: a1 :: a2 :: a3 :: a4 :: some (.int x) :: r) st σ := V_iinc (i := 5) hX hd hn rfl hv (by simp only [List.length_cons]; omega) rfl kk
theorem V_istore6 {X : XC} {own : String} {cc : ByteArray} {nL pc : Nat} {a0 a1 a2 a3 a4 a5 : Option Value} {b : Option Value} {r : List (Option Value)} {st : List Value} {σ : Mem} {x : Int32} (hX : Cok X own cc nL) (hd : decode cc pc = .ok (.istore 6, 2)) (hn : nol (a0 :: a1 :: a2 :: a3 :: a4 :: a5 :: b :: r) = true) (kk : Vw X (pc + 2) (a0 :: a1 :: a2 :: a3 :: a4 :: a5 :: some (.int x) :: r) st σ) : Vw X pc (a0 :: a1 :: a2 :: a3 :: a4 :: a5 :: b :: r) (.int x :: st) σ := V_istore (i := 6) hX hd hn (by simp only [List.length_cons]; omega) rfl kk
theorem V_iinc6 {X : XC} {own : String} {cc : ByteArray} {nL pc : Nat} {a0 a1 a2 a3 a4 a5 : Option Value} {r : List (Option Value)} {st : List Value} {σ : Mem} {n : Int} {x v : Int32} (hX : Cok X own cc nL) (hd : decode cc pc = .ok (.iinc 6 n, 3)) (hn : nol (a0 :: a1 :: a2 :: a3 :: a4 :: a5 :: some (.int x) :: r) = true) (hv : x + Int32.ofInt n = v) (kk : Vw X (pc + 3) (a0 :: a1 :: a2 :: a3 :: a4 :: a5 :: some (.int v) :: r) st σ) : Vw X pc (a0 :: a1 :: a2 :: a3 :: a4 :: a5 :: some (.int x) :: r) st σ := V_iinc (i := 6) hX hd hn rfl hv (by simp only [List.length_cons]; omega) rfl kk
theorem V_istore7 {X : XC} {own : String} {cc : ByteArray} {nL pc : Nat} {a0 a1 a2 a3 a4 a5 a6 : Option Value} {b : Option Value} {r : List (Option Value)} {st : List Value} {σ : Mem} {x : Int32} (hX : Cok X own cc nL) (hd : decode cc pc = .ok (.istore 7, 2)) (hn : nol (a0 :: a1 :: a2 :: a3 :: a4 :: a5 :: a6 :: b :: r) = true) (kk : Vw X (pc + 2) (a0 :: a1 :: a2 :: a3 :: a4 :: a5 :: a6 :: some (.int x) :: r) st σ) : Vw X pc (a0 :: a1 :: a2 :: a3 :: a4 :: a5 :: a6 :: b :: r) (.int x :: st) σ := V_istore (i := 7) hX hd hn (by simp only [List.length_cons]; omega) rfl kk
theorem V_iinc7 {X : XC} {own : String} {cc : ByteArray} {nL pc : Nat} {a0 a1 a2 a3 a4 a5 a6 : Option Value} {r : List (Option Value)} {st : List Value} {σ : Mem} {n : Int} {x v : Int32} (hX : Cok X own cc nL) (hd : decode cc pc = .ok (.iinc 7 n, 3)) (hn : nol (a0 :: a1 :: a2 :: a3 :: a4 :: a5 :: a6 :: some (.int x) :: r) = true) (hv : x + Int32.ofInt n = v) (kk : Vw X (pc + 3) (a0 :: a1 :: a2 :: a3 :: a4 :: a5 :: a6 :: some (.int v) :: r) st σ) : Vw X pc (a0 :: a1 :: a2 :: a3 :: a4 :: a5 :: a6 :: some (.int x) :: r) st σ := V_iinc (i := 7) hX hd hn rfl hv (by simp only [List.length_cons]; omega) rfl kk
theorem V_istore8 {X : XC} {own : String} {cc : ByteArray} {nL pc : Nat} {a0 a1 a2 a3 a4 a5 a6 a7 : Option Value} {b : Option Value} {r : List (Option Value)} {st : List Value} {σ : Mem} {x : Int32} (hX : Cok X own cc nL) (hd : decode cc pc = .ok (.istore 8, 2)) (hn : nol (a0 :: a1 :: a2 :: a3 :: a4 :: a5 :: a6 :: a7 :: b :: r) = true) (kk : Vw X (pc + 2) (a0 :: a1 :: a2 :: a3 :: a4 :: a5 :: a6 :: a7 :: some (.int x) :: r) st σ) : Vw X pc (a0 :: a1 :: a2 :: a3 :: a4 :: a5 :: a6 :: a7 :: b :: r) (.int x :: st) σ := V_istore (i := 8) hX hd hn (by simp only [List.length_cons]; omega) rfl kk
theorem V_iinc8 {X : XC} {own : String} {cc : ByteArray} {nL pc : Nat} {a0 a1 a2 a3 a4 a5 a6 a7 : Option Value} {r : List (Option Value)} {st : List Value} {σ : Mem} {n : Int} {x v : Int32} (hX : Cok X own cc nL) (hd : decode cc pc = .ok (.iinc 8 n, 3)) (hn : nol (a0 :: a1 :: a2 :: a3 :: a4 :: a5 :: a6 :: a7 :: some (.int x) :: r) = true) (hv : x + Int32.ofInt n = v) (kk : Vw X (pc + 3) (a0 :: a1 :: a2 :: a3 :: a4 :: a5 :: a6 :: a7 :: some (.int v) :: r) st σ) : Vw X pc (a0 :: a1 :: a2 :: a3 :: a4 :: a5 :: a6 :: a7 :: some (.int x) :: r) st σ := V_iinc (i := 8) hX hd hn rfl hv (by simp only [List.length_cons]; omega) rfl kk
theorem V_istore9 {X : XC} {own : String} {cc : ByteArray} {nL pc : Nat} {a0 a1 a2 a3 a4 a5 a6 a7 a8 : Option Value} {b : Option Value} {r : List (Option Value)} {st : List Value} {σ : Mem} {x : Int32} (hX : Cok X own cc nL) (hd : decode cc pc = .ok (.istore 9, 2)) (hn : nol (a0 :: a1 :: a2 :: a3 :: a4 :: a5 :: a6 :: a7 :: a8 :: b :: r) = true) (kk : Vw X (pc + 2) (a0 :: a1 :: a2 :: a3 :: a4 :: a5 :: a6 :: a7 :: a8 :: some (.int x) :: r) st σ) : Vw X pc (a0 :: a1 :: a2 :: a3 :: a4 :: a5 :: a6 :: a7 :: a8 :: b :: r) (.int x :: st) σ := V_istore (i := 9) hX hd hn (by simp only [List.length_cons]; omega) rfl kk
theorem V_iinc9 {X : XC} {own : String} {cc : ByteArray} {nL pc : Nat} {a0 a1 a2 a3 a4 a5 a6 a7 a8 : Option Value} {r : List (Option Value)} {st : List Value} {σ : Mem} {n : Int} {x v : Int32} (hX : Cok X own cc nL) (hd : decode cc pc = .ok (.iinc 9 n, 3)) (hn : nol (a0 :: a1 :: a2 :: a3 :: a4 :: a5 :: a6 :: a7 :: a8 :: some (.int x) :: r) = true) (hv : x + Int32.ofInt n = v) (kk : Vw X (pc + 3) (a0 :: a1 :: a2 :: a3 :: a4 :: a5 :: a6 :: a7 :: a8 :: some (.int v) :: r) st σ) : Vw X pc (a0 :: a1 :: a2 :: a3 :: a4 :: a5 :: a6 :: a7 :: a8 :: some (.int x) :: r) st σ := V_iinc (i := 9) hX hd hn rfl hv (by simp only [List.length_cons]; omega) rfl kk
theorem V_istore10 {X : XC} {own : String} {cc : ByteArray} {nL pc : Nat} {a0 a1 a2 a3 a4 a5 a6 a7 a8 a9 : Option Value} {b : Option Value} {r : List (Option Value)} {st : List Value} {σ : Mem} {x : Int32} (hX : Cok X own cc nL) (hd : decode cc pc = .ok (.istore 10, 2)) (hn : nol (a0 :: a1 :: a2 :: a3 :: a4 :: a5 :: a6 :: a7 :: a8 :: a9 :: b :: r) = true) (kk : Vw X (pc + 2) (a0 :: a1 :: a2 :: a3 :: a4 :: a5 :: a6 :: a7 :: a8 :: a9 :: some (.int x) :: r) st σ) : Vw X pc (a0 :: a1 :: a2 :: a3 :: a4 :: a5 :: a6 :: a7 :: a8 :: a9 :: b :: r) (.int x :: st) σ := V_istore (i := 10) hX hd hn (by simp only [List.length_cons]; omega) rfl kk
theorem V_iinc10 {X : XC} {own : String} {cc : ByteArray} {nL pc : Nat} {a0 a1 a2 a3 a4 a5 a6 a7 a8 a9 : Option Value} {r : List (Option Value)} {st : List Value} {σ : Mem} {n : Int} {x v : Int32} (hX : Cok X own cc nL) (hd : decode cc pc = .ok (.iinc 10 n, 3)) (hn : nol (a0 :: a1 :: a2 :: a3 :: a4 :: a5 :: a6 :: a7 :: a8 :: a9 :: some (.int x) :: r) = true) (hv : x + Int32.ofInt n = v) (kk : Vw X (pc + 3) (a0 :: a1 :: a2 :: a3 :: a4 :: a5 :: a6 :: a7 :: a8 :: a9 :: some (.int v) :: r) st σ) : Vw X pc (a0 :: a1 :: a2 :: a3 :: a4 :: a5 :: a6 :: a7 :: a8 :: a9 :: some (.int x) :: r) st σ := V_iinc (i := 10) hX hd hn rfl hv (by simp only [List.length_cons]; omega) rfl kk
theorem V_istore11 {X : XC} {own : String} {cc : ByteArray} {nL pc : Nat} {a0 a1 a2 a3 a4 a5 a6 a7 a8 a9 a10 : Option Value} {b : Option Value} {r : List (Option Value)} {st : List Value} {σ : Mem} {x : Int32} (hX : Cok X own cc nL) (hd : decode cc pc = .ok (.istore 11, 2)) (hn : nol (a0 :: a1 :: a2 :: a3 :: a4 :: a5 :: a6 :: a7 :: a8 :: a9 :: a10 :: b :: r) = true) (kk : Vw X (pc + 2) (a0 :: a1 :: a2 :: a3 :: a4 :: a5 :: a6 :: a7 :: a8 :: a9 :: a10 :: some (.int x) :: r) st σ) : Vw X pc (a0 :: a1 :: a2 :: a3 :: a4 :: a5 :: a6 :: a7 :: a8 :: a9 :: a10 :: b :: r) (.int x :: st) σ := V_istore (i := 11) hX hd hn (by simp only [List.length_cons]; omega) rfl kk
theorem V_iinc11 {X : XC} {own : String} {cc : ByteArray} {nL pc : Nat} {a0 a1 a2 a3 a4 a5 a6 a7 a8 a9 a10 : Option Value} {r : List (Option Value)} {st : List Value} {σ : Mem} {n : Int} {x v : Int32} (hX : Cok X own cc nL) (hd : decode cc pc = .ok (.iinc 11 n, 3)) (hn : nol (a0 :: a1 :: a2 :: a3 :: a4 :: a5 :: a6 :: a7 :: a8 :: a9 :: a10 :: some (.int x) :: r) = true) (hv : x + Int32.ofInt n = v) (kk : Vw X (pc + 3) (a0 :: a1 :: a2 :: a3 :: a4 :: a5 :: a6 :: a7 :: a8 :: a9 :: a10 :: some (.int v) :: r) st σ) : Vw X pc (a0 :: a1 :: a2 :: a3 :: a4 :: a5 :: a6 :: a7 :: a8 :: a9 :: a10 :: some (.int x) :: r) st σ := V_iinc (i := 11) hX hd hn rfl hv (by simp only [List.length_cons]; omega) rfl kk
theorem V_istore12 {X : XC} {own : String} {cc : ByteArray} {nL pc : Nat} {a0 a1 a2 a3 a4 a5 a6 a7 a8 a9 a10 a11 : Option Value} {b : Option Value} {r : List (Option Value)} {st : List Value} {σ : Mem} {x : Int32} (hX : Cok X own cc nL) (hd : decode cc pc = .ok (.istore 12, 2)) (hn : nol (a0 :: a1 :: a2 :: a3 :: a4 :: a5 :: a6 :: a7 :: a8 :: a9 :: a10 :: a11 :: b :: r) = true) (kk : Vw X (pc + 2) (a0 :: a1 :: a2 :: a3 :: a4 :: a5 :: a6 :: a7 :: a8 :: a9 :: a10 :: a11 :: some (.int x) :: r) st σ) : Vw X pc (a0 :: a1 :: a2 :: a3 :: a4 :: a5 :: a6 :: a7 :: a8 :: a9 :: a10 :: a11 :: b :: r) (.int x :: st) σ := V_istore (i := 12) hX hd hn (by simp only [List.length_cons]; omega) rfl kk
theorem V_iinc12 {X : XC} {own : String} {cc : ByteArray} {nL pc : Nat} {a0 a1 a2 a3 a4 a5 a6 a7 a8 a9 a10 a11 : Option Value} {r : List (Option Value)} {st : List Value} {σ : Mem} {n : Int} {x v : Int32} (hX : Cok X own cc nL) (hd : decode cc pc = .ok (.iinc 12 n, 3)) (hn : nol (a0 :: a1 :: a2 :: a3 :: a4 :: a5 :: a6 :: a7 :: a8 :: a9 :: a10 :: a11 :: some (.int x) :: r) = true) (hv : x + Int32.ofInt n = v) (kk : Vw X (pc + 3) (a0 :: a1 :: a2 :: a3 :: a4 :: a5 :: a6 :: a7 :: a8 :: a9 :: a10 :: a11 :: some (.int v) :: r) st σ) : Vw X pc (a0 :: a1 :: a2 :: a3 :: a4 :: a5 :: a6 :: a7 :: a8 :: a9 :: a10 :: a11 :: some (.int x) :: r) st σ := V_iinc (i := 12) hX hd hn rfl hv (by simp only [List.length_cons]; omega) rfl kk
theorem V_goto {X : XC} {own : String} {cc : ByteArray} {nL pc : Nat} {ls : List (Option Value)} {st : List Value} {σ : Mem} {off : Int} {tgt : Nat} (hX : Cok X own cc nL) (hd : decode cc pc = .ok (.goto off, 3)) (ht : (pc : Int) + off = (tgt : Int)) (kk : Vw X tgt ls st σ) : Vw X pc ls st σ := by
  obtain ⟨p, l, e, R, s, m, args, below, meth, c, cells, slots, Q, A, D, ad, cs, H0⟩ := X
  intro H locs lsA hP hS hl
  exact lv_goto hX.1 hX.2.1 hd ht (kk H locs lsA hP hS hl)
theorem V_icmp_eq {X : XC} {own : String} {cc : ByteArray} {nL pc : Nat} {ls : List (Option Value)} {st : List Value} {σ : Mem} {x y : Int32} {off : Int} {tgt : Nat} (hX : Cok X own cc nL) (hd : decode cc pc = .ok (.if_icmp .eq off, 3)) (ht : (pc : Int) + off = (tgt : Int)) (kt : x = y → Vw X tgt ls st σ) (kf : ¬ x = y → Vw X (pc + 3) ls st σ) : Vw X pc ls (.int y :: .int x :: st) σ := by
  obtain ⟨p, l, e, R, s, m, args, below, meth, c, cells, slots, Q, A, D, ad, cs, H0⟩ := X
  intro H locs lsA hP hS hl
  exact lv_icmp_eq hX.1 hX.2.1 hd ht (fun h => kt h H locs lsA hP hS hl) (fun h => kf h H locs lsA hP hS hl)
theorem V_if_eq {X : XC} {own : String} {cc : ByteArray} {nL pc : Nat} {ls : List (Option Value)} {st : List Value} {σ : Mem} {x : Int32} {off : Int} {tgt : Nat} (hX : Cok X own cc nL) (hd : decode cc pc = .ok (.ifCond .eq off, 3)) (ht : (pc : Int) + off = (tgt : Int)) (kt : x = 0 → Vw X tgt ls st σ) (kf : ¬ x = 0 → Vw X (pc + 3) ls st σ) : Vw X pc ls (.int x :: st) σ := by
  obtain ⟨p, l, e, R, s, m, args, below, meth, c, cells, slots, Q, A, D, ad, cs, H0⟩ := X
  intro H locs lsA hP hS hl
  exact lv_if_eq hX.1 hX.2.1 hd ht (fun h => kt h H locs lsA hP hS hl) (fun h => kf h H locs lsA hP hS hl)
theorem V_icmp_ne {X : XC} {own : String} {cc : ByteArray} {nL pc : Nat} {ls : List (Option Value)} {st : List Value} {σ : Mem} {x y : Int32} {off : Int} {tgt : Nat} (hX : Cok X own cc nL) (hd : decode cc pc = .ok (.if_icmp .ne off, 3)) (ht : (pc : Int) + off = (tgt : Int)) (kt : ¬ x = y → Vw X tgt ls st σ) (kf : x = y → Vw X (pc + 3) ls st σ) : Vw X pc ls (.int y :: .int x :: st) σ := by
  obtain ⟨p, l, e, R, s, m, args, below, meth, c, cells, slots, Q, A, D, ad, cs, H0⟩ := X
  intro H locs lsA hP hS hl
  exact lv_icmp_ne hX.1 hX.2.1 hd ht (fun h => kt h H locs lsA hP hS hl) (fun h => kf h H locs lsA hP hS hl)
theorem V_if_ne {X : XC} {own : String} {cc : ByteArray} {nL pc : Nat} {ls : List (Option Value)} {st : List Value} {σ : Mem} {x : Int32} {off : Int} {tgt : Nat} (hX : Cok X own cc nL) (hd : decode cc pc = .ok (.ifCond .ne off, 3)) (ht : (pc : Int) + off = (tgt : Int)) (kt : ¬ x = 0 → Vw X tgt ls st σ) (kf : x = 0 → Vw X (pc + 3) ls st σ) : Vw X pc ls (.int x :: st) σ := by
  obtain ⟨p, l, e, R, s, m, args, below, meth, c, cells, slots, Q, A, D, ad, cs, H0⟩ := X
  intro H locs lsA hP hS hl
  exact lv_if_ne hX.1 hX.2.1 hd ht (fun h => kt h H locs lsA hP hS hl) (fun h => kf h H locs lsA hP hS hl)
theorem V_icmp_lt {X : XC} {own : String} {cc : ByteArray} {nL pc : Nat} {ls : List (Option Value)} {st : List Value} {σ : Mem} {x y : Int32} {off : Int} {tgt : Nat} (hX : Cok X own cc nL) (hd : decode cc pc = .ok (.if_icmp .lt off, 3)) (ht : (pc : Int) + off = (tgt : Int)) (kt : x < y → Vw X tgt ls st σ) (kf : ¬ x < y → Vw X (pc + 3) ls st σ) : Vw X pc ls (.int y :: .int x :: st) σ := by
  obtain ⟨p, l, e, R, s, m, args, below, meth, c, cells, slots, Q, A, D, ad, cs, H0⟩ := X
  intro H locs lsA hP hS hl
  exact lv_icmp_lt hX.1 hX.2.1 hd ht (fun h => kt h H locs lsA hP hS hl) (fun h => kf h H locs lsA hP hS hl)
theorem V_if_lt {X : XC} {own : String} {cc : ByteArray} {nL pc : Nat} {ls : List (Option Value)} {st : List Value} {σ : Mem} {x : Int32} {off : Int} {tgt : Nat} (hX : Cok X own cc nL) (hd : decode cc pc = .ok (.ifCond .lt off, 3)) (ht : (pc : Int) + off = (tgt : Int)) (kt : x < 0 → Vw X tgt ls st σ) (kf : ¬ x < 0 → Vw X (pc + 3) ls st σ) : Vw X pc ls (.int x :: st) σ := by
  obtain ⟨p, l, e, R, s, m, args, below, meth, c, cells, slots, Q, A, D, ad, cs, H0⟩ := X
  intro H locs lsA hP hS hl
  exact lv_if_lt hX.1 hX.2.1 hd ht (fun h => kt h H locs lsA hP hS hl) (fun h => kf h H locs lsA hP hS hl)
theorem V_icmp_ge {X : XC} {own : String} {cc : ByteArray} {nL pc : Nat} {ls : List (Option Value)} {st : List Value} {σ : Mem} {x y : Int32} {off : Int} {tgt : Nat} (hX : Cok X own cc nL) (hd : decode cc pc = .ok (.if_icmp .ge off, 3)) (ht : (pc : Int) + off = (tgt : Int)) (kt : y ≤ x → Vw X tgt ls st σ) (kf : ¬ y ≤ x → Vw X (pc + 3) ls st σ) : Vw X pc ls (.int y :: .int x :: st) σ := by
  obtain ⟨p, l, e, R, s, m, args, below, meth, c, cells, slots, Q, A, D, ad, cs, H0⟩ := X
  intro H locs lsA hP hS hl
  exact lv_icmp_ge hX.1 hX.2.1 hd ht (fun h => kt h H locs lsA hP hS hl) (fun h => kf h H locs lsA hP hS hl)
theorem V_if_ge {X : XC} {own : String} {cc : ByteArray} {nL pc : Nat} {ls : List (Option Value)} {st : List Value} {σ : Mem} {x : Int32} {off : Int} {tgt : Nat} (hX : Cok X own cc nL) (hd : decode cc pc = .ok (.ifCond .ge off, 3)) (ht : (pc : Int) + off = (tgt : Int)) (kt : 0 ≤ x → Vw X tgt ls st σ) (kf : ¬ 0 ≤ x → Vw X (pc + 3) ls st σ) : Vw X pc ls (.int x :: st) σ := by
  obtain ⟨p, l, e, R, s, m, args, below, meth, c, cells, slots, Q, A, D, ad, cs, H0⟩ := X
  intro H locs lsA hP hS hl
  exact lv_if_ge hX.1 hX.2.1 hd ht (fun h => kt h H locs lsA hP hS hl) (fun h => kf h H locs lsA hP hS hl)
theorem V_icmp_gt {X : XC} {own : String} {cc : ByteArray} {nL pc : Nat} {ls : List (Option Value)} {st : List Value} {σ : Mem} {x y : Int32} {off : Int} {tgt : Nat} (hX : Cok X own cc nL) (hd : decode cc pc = .ok (.if_icmp .gt off, 3)) (ht : (pc : Int) + off = (tgt : Int)) (kt : y < x → Vw X tgt ls st σ) (kf : ¬ y < x → Vw X (pc + 3) ls st σ) : Vw X pc ls (.int y :: .int x :: st) σ := by
  obtain ⟨p, l, e, R, s, m, args, below, meth, c, cells, slots, Q, A, D, ad, cs, H0⟩ := X
  intro H locs lsA hP hS hl
  exact lv_icmp_gt hX.1 hX.2.1 hd ht (fun h => kt h H locs lsA hP hS hl) (fun h => kf h H locs lsA hP hS hl)
theorem V_if_gt {X : XC} {own : String} {cc : ByteArray} {nL pc : Nat} {ls : List (Option Value)} {st : List Value} {σ : Mem} {x : Int32} {off : Int} {tgt : Nat} (hX : Cok X own cc nL) (hd : decode cc pc = .ok (.ifCond .gt off, 3)) (ht : (pc : Int) + off = (tgt : Int)) (kt : 0 < x → Vw X tgt ls st σ) (kf : ¬ 0 < x → Vw X (pc + 3) ls st σ) : Vw X pc ls (.int x :: st) σ := by
  obtain ⟨p, l, e, R, s, m, args, below, meth, c, cells, slots, Q, A, D, ad, cs, H0⟩ := X
  intro H locs lsA hP hS hl
  exact lv_if_gt hX.1 hX.2.1 hd ht (fun h => kt h H locs lsA hP hS hl) (fun h => kf h H locs lsA hP hS hl)
theorem V_icmp_le {X : XC} {own : String} {cc : ByteArray} {nL pc : Nat} {ls : List (Option Value)} {st : List Value} {σ : Mem} {x y : Int32} {off : Int} {tgt : Nat} (hX : Cok X own cc nL) (hd : decode cc pc = .ok (.if_icmp .le off, 3)) (ht : (pc : Int) + off = (tgt : Int)) (kt : x ≤ y → Vw X tgt ls st σ) (kf : ¬ x ≤ y → Vw X (pc + 3) ls st σ) : Vw X pc ls (.int y :: .int x :: st) σ := by
  obtain ⟨p, l, e, R, s, m, args, below, meth, c, cells, slots, Q, A, D, ad, cs, H0⟩ := X
  intro H locs lsA hP hS hl
  exact lv_icmp_le hX.1 hX.2.1 hd ht (fun h => kt h H locs lsA hP hS hl) (fun h => kf h H locs lsA hP hS hl)
theorem V_if_le {X : XC} {own : String} {cc : ByteArray} {nL pc : Nat} {ls : List (Option Value)} {st : List Value} {σ : Mem} {x : Int32} {off : Int} {tgt : Nat} (hX : Cok X own cc nL) (hd : decode cc pc = .ok (.ifCond .le off, 3)) (ht : (pc : Int) + off = (tgt : Int)) (kt : x ≤ 0 → Vw X tgt ls st σ) (kf : ¬ x ≤ 0 → Vw X (pc + 3) ls st σ) : Vw X pc ls (.int x :: st) σ := by
  obtain ⟨p, l, e, R, s, m, args, below, meth, c, cells, slots, Q, A, D, ad, cs, H0⟩ := X
  intro H locs lsA hP hS hl
  exact lv_if_le hX.1 hX.2.1 hd ht (fun h => kt h H locs lsA hP hS hl) (fun h => kf h H locs lsA hP hS hl)
theorem V_tableOut {X : XC} {own : String} {cc : ByteArray} {nL pc : Nat} {ls : List (Option Value)} {st : List Value} {σ : Mem} {dflt lo hi : Int} {offs : Array Int} {len : Nat} {x : Int32} {tgt : Nat} (hX : Cok X own cc nL) (hd : decode cc pc = .ok (.tableswitch dflt lo hi offs, len)) (h : x.toInt < lo ∨ hi < x.toInt) (ht : (pc : Int) + dflt = (tgt : Int)) (kk : Vw X tgt ls st σ) : Vw X pc ls (.int x :: st) σ := by
  obtain ⟨p, l, e, R, s, m, args, below, meth, c, cells, slots, Q, A, D, ad, cs, H0⟩ := X
  intro H locs lsA hP hS hl
  exact lv_tableOut hX.1 hX.2.1 hd h ht (kk H locs lsA hP hS hl)
theorem V_tableIn {X : XC} {own : String} {cc : ByteArray} {nL pc : Nat} {ls : List (Option Value)} {st : List Value} {σ : Mem} {dflt lo hi : Int} {offs : Array Int} {len : Nat} {x : Int32} {off : Int} {tgt : Nat} (hX : Cok X own cc nL) (hd : decode cc pc = .ok (.tableswitch dflt lo hi offs, len)) (h1 : ¬ x.toInt < lo) (h2 : ¬ hi < x.toInt) (ho : offs[(x.toInt - lo).toNat]? = some off) (ht : (pc : Int) + off = (tgt : Int)) (kk : Vw X tgt ls st σ) : Vw X pc ls (.int x :: st) σ := by
  obtain ⟨p, l, e, R, s, m, args, below, meth, c, cells, slots, Q, A, D, ad, cs, H0⟩ := X
  intro H locs lsA hP hS hl
  exact lv_tableIn hX.1 hX.2.1 hd h1 h2 ho ht (kk H locs lsA hP hS hl)
theorem V_lookup {X : XC} {own : String} {cc : ByteArray} {nL pc : Nat} {ls : List (Option Value)} {st : List Value} {σ : Mem} {dflt : Int} {ps : Array (Int × Int)} {len : Nat} {x : Int32} {off : Int} {tgt : Nat} (hX : Cok X own cc nL) (hd : decode cc pc = .ok (.lookupswitch dflt ps, len)) (hp : (ps.toList.zip (ps.toList.drop 1)).all (fun (a, next) => a.1 < next.1) = true) (ho : Op.lookupswitch.offset ps.toList dflt x.toInt = off) (ht : (pc : Int) + off = (tgt : Int)) (kk : Vw X tgt ls st σ) : Vw X pc ls (.int x :: st) σ := by
  obtain ⟨p, l, e, R, s, m, args, below, meth, c, cells, slots, Q, A, D, ad, cs, H0⟩ := X
  intro H locs lsA hP hS hl
  exact lv_lookup hX.1 hX.2.1 hd hp ho ht (kk H locs lsA hP hS hl)
theorem V_ldc {X : XC} {own : String} {cc : ByteArray} {nL pc : Nat} {ls : List (Option Value)} {st : List Value} {σ : Mem} {index : Nat} {v : Int32} (hX : Cok X own cc nL) (hw : Cond.constant own index v ∈ lw_w) (hd : decode cc pc = .ok (.ldc index, 2)) (kk : Vw X (pc + 2) ls (.int v :: st) σ) : Vw X pc ls st σ := by
  obtain ⟨p, l, e, R, s, m, args, below, meth, c, cells, slots, Q, A, D, ad, cs, H0⟩ := X
  intro H locs lsA hP hS hl
  exact lv_ldc hX.1 hX.2.1 hX.2.2.2.1 (hX.2.2.2.2.1 _ hw) hd (kk H locs lsA hP hS hl)
theorem V_ldc2 {X : XC} {own : String} {cc : ByteArray} {nL pc : Nat} {ls : List (Option Value)} {st : List Value} {σ : Mem} {index : Nat} {v : Int64} (hX : Cok X own cc nL) (hw : Cond.constantLong own index v ∈ lw_w) (hd : decode cc pc = .ok (.ldc2_w index, 3)) (kk : Vw X (pc + 3) ls (.long v :: st) σ) : Vw X pc ls st σ := by
  obtain ⟨p, l, e, R, s, m, args, below, meth, c, cells, slots, Q, A, D, ad, cs, H0⟩ := X
  intro H locs lsA hP hS hl
  exact lv_ldc2 hX.1 hX.2.1 hX.2.2.2.1 (hX.2.2.2.2.1 _ hw) hd (kk H locs lsA hP hS hl)
theorem V_getf {X : XC} {own : String} {cc : ByteArray} {nL pc : Nat} {ls : List (Option Value)} {st : List Value} {σ : Mem} {index ci k a : Nat} {fs : List (Option Nat)} (hX : Cok X own cc nL) (hf : Fld own index ci k) (hd : decode cc pc = .ok (.getfield index, 3)) (hs : shp[a]? = some (.inl (ci, fs))) (hv : fs[k]? = some none) (kk : Vw X (pc + 3) ls (.int (σ a k) :: st) σ) : Vw X pc ls (.ref a :: st) σ := by
  obtain ⟨p, l, e, R, s, m, args, below, meth, c, cells, slots, Q, A, D, ad, cs, H0⟩ := X
  intro H locs lsA hP hS hl
  obtain ⟨C, T, N, hc, hk, hin, -, -, hlink⟩ := hf
  obtain ⟨hx, hb, hml, hown, hts, hK, hinj, hA, hcl, hsl⟩ := hX
  have he := wl_at (ad := ad) (cs := cs) (σ := σ) hs
  have hv2 : (fl ad σ a 0 fs)[k]? = some (cvv ad (.int (σ a k))) := by rw [fl_get, hv, Nat.zero_add]; rfl
  rcases hlink with hlink | ⟨host, hlink⟩
  · exact va_get hx hb hts hin hown hK hP a he hc k hk (hts _ hlink) (fun _ h => h) hv2 hd (kk H locs lsA hP hS hl)
  · exact va_getN hx hb hts hin hown hK hP a he hc k hk (hts _ hlink) (fun _ h => h) hv2 hd (kk H locs lsA hP hS hl)
theorem V_getr {X : XC} {own : String} {cc : ByteArray} {nL pc : Nat} {ls : List (Option Value)} {st : List Value} {σ : Mem} {index ci k a : Nat} {fs : List (Option Nat)} {q : Nat} (hX : Cok X own cc nL) (hf : Fld own index ci k) (hd : decode cc pc = .ok (.getfield index, 3)) (hs : shp[a]? = some (.inl (ci, fs))) (hv : fs[k]? = some (some q)) (kk : Vw X (pc + 3) ls (.ref q :: st) σ) : Vw X pc ls (.ref a :: st) σ := by
  obtain ⟨p, l, e, R, s, m, args, below, meth, c, cells, slots, Q, A, D, ad, cs, H0⟩ := X
  intro H locs lsA hP hS hl
  obtain ⟨C, T, N, hc, hk, hin, -, -, hlink⟩ := hf
  obtain ⟨hx, hb, hml, hown, hts, hK, hinj, hA, hcl, hsl⟩ := hX
  have he := wl_at (ad := ad) (cs := cs) (σ := σ) hs
  have hv2 : (fl ad σ a 0 fs)[k]? = some (cvv ad (.ref q)) := by rw [fl_get, hv, Nat.zero_add]; rfl
  rcases hlink with hlink | ⟨host, hlink⟩
  · exact va_get hx hb hts hin hown hK hP a he hc k hk (hts _ hlink) (fun _ h => h) hv2 hd (kk H locs lsA hP hS hl)
  · exact va_getN hx hb hts hin hown hK hP a he hc k hk (hts _ hlink) (fun _ h => h) hv2 hd (kk H locs lsA hP hS hl)
theorem V_putf {X : XC} {own : String} {cc : ByteArray} {nL pc : Nat} {ls : List (Option Value)} {st : List Value} {σ : Mem} {index ci k a : Nat} {fs : List (Option Nat)} {x : Int32} (hX : Cok X own cc nL) (hf : Fld own index ci k) (hi : Fint ci k) (hd : decode cc pc = .ok (.putfield index, 3)) (hs : shp[a]? = some (.inl (ci, fs))) (hv : fs[k]? = some none) (kk : Vw X (pc + 3) ls st (mu σ a k x)) : Vw X pc ls (.int x :: .ref a :: st) σ := by
  obtain ⟨p, l, e, R, s, m, args, below, meth, c, cells, slots, Q, A, D, ad, cs, H0⟩ := X
  intro H locs lsA hP hS hl
  obtain ⟨C, T, N, hc, hk, hin, ⟨ty, hty⟩, hnm, hlink⟩ := hf
  obtain ⟨hx, hb, hml, hown, hts, hK, hinj, hA, hcl, hsl⟩ := hX
  have he := wl_at (ad := ad) (cs := cs) (σ := σ) hs
  have hD : va_D A (wl ad cs σ 0 shp) := wl_D hinj hA
  have hset : (wl ad cs σ 0 shp).set a (ad a, .inr (ci, (fl ad σ a 0 fs).set k (.int x))) = wl ad cs (mu σ a k x) 0 shp := wl_set hs (fun q hq => mu_ne hq) (by rw [fl_set hv]; rfl)
  have hlen : k < (fl ad σ a 0 fs).length := by rw [fl_len]; exact (List.getElem?_eq_some_iff.mp hv).1
  rcases hlink with hlink | ⟨host, hlink⟩
  · exact va_put hx hb hts hin ty hty hnm hown hK hP hD hS a he hc k hk (hts _ hlink) (fun _ h => h) (hi C T N hc).1 (hi C T N hc).2 (show narrow .int (.int x) = .int x from rfl) (show fits .int (.int x) = true from rfl) hlen hd (fun H1 locs1 hP1 _ hS1 => kk H1 locs1 lsA (by rw [← hset]; exact hP1) hS1 hl)
  · exact va_putN hx hb hts hin ty hty hnm hown hK hP hD hS a he hc k hk (hts _ hlink) (fun _ h => h) (hi C T N hc).1 (hi C T N hc).2 (show narrow .int (.int x) = .int x from rfl) (show fits .int (.int x) = true from rfl) hlen hd (fun H1 locs1 hP1 _ hS1 => kk H1 locs1 lsA (by rw [← hset]; exact hP1) hS1 hl)
theorem V_iald {X : XC} {own : String} {cc : ByteArray} {nL pc : Nat} {ls : List (Option Value)} {st : List Value} {σ : Mem} {a n j : Nat} {i : Int32} (hX : Cok X own cc nL) (hd : decode cc pc = .ok (.iaload, 1)) (hs : shp[a]? = some (.inr (.inl (0, n)))) (hi : i = nI j) (hj : j < n) (hn : n < 2 ^ 31) (kk : Vw X (pc + 1) ls (.int (σ a j) :: st) σ) : Vw X pc ls (.int i :: .ref a :: st) σ := by
  obtain ⟨p, l, e, R, s, m, args, below, meth, c, cells, slots, Q, A, D, ad, cs, H0⟩ := X
  intro H locs lsA hP hS hl
  subst hi
  have he := wl_at (ad := ad) (cs := cs) (σ := σ) hs
  refine va_iald hX.1 hX.2.1 hX.2.2.2.2.2.1 hP a 0 he rfl (vp_in_nI hj hn) hd ?_
  rw [nI_clamp (by omega)]
  exact kk H locs lsA hP hS hl
theorem V_zald {X : XC} {own : String} {cc : ByteArray} {nL pc : Nat} {ls : List (Option Value)} {st : List Value} {σ : Mem} {a n j : Nat} {i : Int32} (hX : Cok X own cc nL) (hd : decode cc pc = .ok (.baload, 1)) (hs : shp[a]? = some (.inr (.inl (1, n)))) (hi : i = nI j) (hj : j < n) (hn : n < 2 ^ 31) (kk : Vw X (pc + 1) ls (.int (σ a j) :: st) σ) : Vw X pc ls (.int i :: .ref a :: st) σ := by
  obtain ⟨p, l, e, R, s, m, args, below, meth, c, cells, slots, Q, A, D, ad, cs, H0⟩ := X
  intro H locs lsA hP hS hl
  subst hi
  have he := wl_at (ad := ad) (cs := cs) (σ := σ) hs
  refine va_zald hX.1 hX.2.1 hX.2.2.2.2.2.1 hP a 1 he rfl (vp_in_nI hj hn) hd ?_
  rw [nI_clamp (by omega)]
  exact kk H locs lsA hP hS hl
theorem V_aald {X : XC} {own : String} {cc : ByteArray} {nL pc : Nat} {ls : List (Option Value)} {st : List Value} {σ : Mem} {a r n j : Nat} {i : Int32} (hX : Cok X own cc nL) (hd : decode cc pc = .ok (.aaload, 1)) (hs : shp[a]? = some (.inr (.inr (r, n)))) (hi : i = nI j) (hj : j < n) (hn : n < 2 ^ 31) (kk : Vw X (pc + 1) ls (.ref (r + j) :: st) σ) : Vw X pc ls (.int i :: .ref a :: st) σ := by
  obtain ⟨p, l, e, R, s, m, args, below, meth, c, cells, slots, Q, A, D, ad, cs, H0⟩ := X
  intro H locs lsA hP hS hl
  subst hi
  have he := wl_at (ad := ad) (cs := cs) (σ := σ) hs
  have hc : (nI j).toNatClampNeg = j := nI_clamp (by omega)
  exact W.aald (v := .ref (ad (r + j))) (ty := .array .int) hX.1 hX.2.1 (hP a _ he) ((hX.2.2.2.2.2.1.2 2 _ rfl).1 n (fun j => va_rf (some (ad (r + j))))) rfl (fun q => by cases q) (by show ¬ (nI j < 0 ∨ (arrV _ _ _).slots.size ≤ _); rw [arrV_size]; exact nI_in hj hn) (by show (arrV _ _ _).slots[_]? = _; rw [hc, arrV_read _ _ hj]; rfl) rfl rfl hd (kk H locs lsA hP hS hl)
theorem V_iast {X : XC} {own : String} {cc : ByteArray} {nL pc : Nat} {ls : List (Option Value)} {st : List Value} {σ : Mem} {a n j : Nat} {i x : Int32} (hX : Cok X own cc nL) (hd : decode cc pc = .ok (.iastore, 1)) (hs : shp[a]? = some (.inr (.inl (0, n)))) (hi : i = nI j) (hj : j < n) (hn : n < 2 ^ 31) (kk : Vw X (pc + 1) ls st (mu σ a j x)) : Vw X pc ls (.int x :: .int i :: .ref a :: st) σ := by
  obtain ⟨p, l, e, R, s, m, args, below, meth, c, cells, slots, Q, A, D, ad, cs, H0⟩ := X
  intro H locs lsA hP hS hl
  subst hi
  have he := wl_at (ad := ad) (cs := cs) (σ := σ) hs
  have hset : (wl ad cs σ 0 shp).set a (ad a, .inl (cs 0, n, .inl (upd (σ a) (nI j).toNatClampNeg x))) = wl ad cs (mu σ a j x) 0 shp := wl_set hs (fun q hq => mu_ne hq) (by rw [nI_clamp (by omega)]; simp only [ent, mu_row])
  exact va_iast hX.1 hX.2.1 hX.2.2.2.2.2.1 hP (wl_D hX.2.2.2.2.2.2.1 hX.2.2.2.2.2.2.2.1) hS a 0 he rfl (vp_in_nI hj hn) hd (fun H1 locs1 hP1 _ hS1 => kk H1 locs1 lsA (by rw [← hset]; exact hP1) hS1 hl)
theorem V_zast {X : XC} {own : String} {cc : ByteArray} {nL pc : Nat} {ls : List (Option Value)} {st : List Value} {σ : Mem} {a n j : Nat} {i x : Int32} (hX : Cok X own cc nL) (hd : decode cc pc = .ok (.bastore, 1)) (hs : shp[a]? = some (.inr (.inl (1, n)))) (hi : i = nI j) (hj : j < n) (hn : n < 2 ^ 31) (hx : vp_nar .boolean x = x) (kk : Vw X (pc + 1) ls st (mu σ a j x)) : Vw X pc ls (.int x :: .int i :: .ref a :: st) σ := by
  obtain ⟨p, l, e, R, s, m, args, below, meth, c, cells, slots, Q, A, D, ad, cs, H0⟩ := X
  intro H locs lsA hP hS hl
  subst hi
  have he := wl_at (ad := ad) (cs := cs) (σ := σ) hs
  have hset : (wl ad cs σ 0 shp).set a (ad a, .inl (cs 1, n, .inl (upd (σ a) (nI j).toNatClampNeg (vp_nar .boolean x)))) = wl ad cs (mu σ a j x) 0 shp := wl_set hs (fun q hq => mu_ne hq) (by rw [nI_clamp (by omega), hx]; simp only [ent, mu_row])
  exact va_zast hX.1 hX.2.1 hX.2.2.2.2.2.1 hP (wl_D hX.2.2.2.2.2.2.1 hX.2.2.2.2.2.2.2.1) hS a 1 he rfl (vp_in_nI hj hn) hd (fun H1 locs1 hP1 _ hS1 => kk H1 locs1 lsA (by rw [← hset]; exact hP1) hS1 hl)
def csum (l : List Value) : Nat := (l.map fun v => v.category).sum
theorem csum_map (ad : Nat → Nat) (l : List Value) : ((l.map (cvv ad)).map fun v => v.category).sum = csum l := by
  unfold csum
  rw [List.map_map]
  congr 1
  exact List.map_congr_left (fun v _ => cvv_cat ad v)
theorem V_mmax {X : XC} {own : String} {cc : ByteArray} {nL pc : Nat} {ls : List (Option Value)} {st : List Value} {σ : Mem} {index : Nat} {x y : Int32} (hX : Cok X own cc nL) (hR : Rok X 1) (hw : Cond.methodLink own index Lib.Math.max.name ∈ lw_w) (hd : decode cc pc = .ok (.invokestatic index, 3)) (hnl : ls.length = nL) (hcat : csum st ≤ 8) (kk : Vw X (pc + 3) ls (.int (if x < y then y else x) :: st) σ) : Vw X pc ls (.int y :: .int x :: st) σ := by
  obtain ⟨p, l, e, R, s, m, args, below, meth, c, cells, slots, Q, A, D, ad, cs, H0⟩ := X
  intro H locs lsA hP hS hl
  obtain ⟨hx, hb, hml, hown, hts, hK, hinj, hA, hcl, hsl⟩ := hX
  exact va_mmax hx hb (by rw [hml, ← hnl]; exact hl.1.symm) hown (hts _ hw) (hts _ lw_max_st) (hts _ lw_max_in) (hts _ lw_max_co) hR.1 (by rw [csum_map]; have := hR.2; omega) hcl hsl hd (kk H locs lsA hP hS hl)
theorem V_mmin {X : XC} {own : String} {cc : ByteArray} {nL pc : Nat} {ls : List (Option Value)} {st : List Value} {σ : Mem} {index : Nat} {x y : Int32} (hX : Cok X own cc nL) (hR : Rok X 1) (hw : Cond.methodLink own index Lib.Math.min.name ∈ lw_w) (hd : decode cc pc = .ok (.invokestatic index, 3)) (hnl : ls.length = nL) (hcat : csum st ≤ 8) (kk : Vw X (pc + 3) ls (.int (if y < x then y else x) :: st) σ) : Vw X pc ls (.int y :: .int x :: st) σ := by
  obtain ⟨p, l, e, R, s, m, args, below, meth, c, cells, slots, Q, A, D, ad, cs, H0⟩ := X
  intro H locs lsA hP hS hl
  obtain ⟨hx, hb, hml, hown, hts, hK, hinj, hA, hcl, hsl⟩ := hX
  exact va_mmin hx hb (by rw [hml, ← hnl]; exact hl.1.symm) hown (hts _ hw) (hts _ lw_min_st) (hts _ lw_min_in) (hts _ lw_min_co) hR.1 (by rw [csum_map]; have := hR.2; omega) hcl hsl hd (kk H locs lsA hP hS hl)
theorem V_iret {X : XC} {own : String} {cc : ByteArray} {nL pc : Nat} {ls : List (Option Value)} {st : List Value} {σ : Mem} {v : Int32} {ty : FieldType} {P : Option Value → Mem → Prop} (hX : Cok X own cc nL) (hr : Ret X (some ty) P) (hn : narrow ty (.int v) = .int v) (hd : decode cc pc = .ok (.ireturn, 1)) (hp : P (some (.int v)) σ) : Vw X pc ls [.int v] σ := by
  obtain ⟨p, l, e, R, s, m, args, below, meth, c, cells, slots, Q, A, D, ad, cs, H0⟩ := X
  intro H locs lsA hP hS hl
  obtain ⟨h1, h2, h3, h4, h5, h6⟩ := hr
  subst h3; subst h4; subst h5; subst h6
  exact W.zret hX.1 hX.2.1 h1 hn (fun t ht hW => ⟨⟨(some (.int v)), σ, rfl, hp, by rw [ht]; exact hP, va_K.moved hW.alike hX.2.2.2.2.2.1⟩, hS.F ht⟩) hS.2.2 hd (hlocks := h2)
theorem V_vret {X : XC} {own : String} {cc : ByteArray} {nL pc : Nat} {ls : List (Option Value)} {st : List Value} {σ : Mem} {P : Option Value → Mem → Prop} (hX : Cok X own cc nL) (hr : Ret X none P) (hd : decode cc pc = .ok (.return_, 1)) (hp : P none σ) : Vw X pc ls [] σ := by
  obtain ⟨p, l, e, R, s, m, args, below, meth, c, cells, slots, Q, A, D, ad, cs, H0⟩ := X
  intro H locs lsA hP hS hl
  obtain ⟨h1, h2, h3, h4, h5, h6⟩ := hr
  subst h3; subst h4; subst h5; subst h6
  exact W.vret hX.1 hX.2.1 h1 (fun t ht hW => ⟨⟨none, σ, rfl, hp, by rw [ht]; exact hP, va_K.moved hW.alike hX.2.2.2.2.2.1⟩, hS.F ht⟩) hS.2.2 hd (hlocks := h2)
theorem Cc.intro {y : MethodName} {cc : ByteArray} {mx : Nat} {ret : Option FieldType} {d : Nat} {args : List Value} {σ : Mem} {P : Option Value → Mem → Prop} (hy : plainName y.cls = true) (ls0 : List (Option Value)) (he : ∀ ad : Nat → Nat, lvl ad 0 ls0 = lv_args 0 (args.map (cvv ad))) (hlen : ls0.length = mx) (hle : ∀ ad : Nat → Nat, (lg_sl (args.map (cvv ad))).length ≤ mx)
    (h : ∀ X : XC, Cok X y.cls cc mx → Rok X d → Ret X ret P → Vw X 0 ls0 [] σ) : Cc y cc mx ret d args σ P := by
  intro l D ad cs hinj
  refine Met.ofW (cc := cc) (maxL := mx) (ret := ret) hy rfl ?_
  intro p e s m args' below meth c s₁ B hml hv
  obtain ⟨rfl, hP, hK⟩ := hv
  have hts := atoms_spec (ws := Cond.code y cc mx ret :: lw_w) B.pre
  have hown : s.vm.findClass y.cls = some m.cls := findClass_of_methodNamed B.named
  have hl := lv_entry (args.map (cvv ad)) (n := mx) (hle ad)
  rw [lg_entry_eq]
  generalize (lg_sl (args.map (cvv ad)) ++ List.replicate (mx - (lg_sl (args.map (cvv ad))).length) Slot.unset).toArray = ls at hl ⊢
  rw [← he ad] at hl
  exact h (p, l, e, (headSpec (Cond.code y cc mx ret :: lw_w) (rmd d)).room, s, m, (args.map (cvv ad)).toArray, below, meth, c, 0, 0, MQ below (Qg D ad cs (inW ad) P) (args.map (cvv ad)).toArray s 0 0 (inW ad), inW ad, D, ad, cs, s.heap)
    ⟨B.exec, B.bytes, hml, hown, fun w hw => hts w (List.mem_cons_of_mem _ hw), hK, hinj, fun i hi => ⟨i, hi, rfl⟩, Nat.zero_le _, Nat.zero_le _⟩ ⟨Nat.le_refl _, Nat.le_refl _⟩ ⟨B.returns, B.notSynchronized, rfl, rfl, rfl, rfl⟩ s.heap [] ls hP va_S.rf (by rw [hlen]; exact hl)
theorem Cc.mono {y : MethodName} {cc : ByteArray} {mx : Nat} {ret : Option FieldType} {d : Nat} {args : List Value} {σ : Mem} {P P' : Option Value → Mem → Prop} (h : Cc y cc mx ret d args σ P) (hPP : ∀ r σ', P r σ' → P' r σ') : Cc y cc mx ret d args σ P' := by
  intro l D ad cs hinj
  intro p e ha hc hk s m args' below hf hfit happ hq
  obtain ⟨k, o, h1, h2, h3, h4⟩ := h l D ad cs hinj p e ha hc hk s m args' below hf hfit happ hq
  obtain ⟨⟨⟨r, σ', a1, a2, a3⟩, a4⟩, a5⟩ := h4
  exact ⟨k, o, h1, h2, h3, ⟨⟨r, σ', a1, hPP r σ' a2, a3⟩, a4⟩, a5⟩
theorem Pc_blind {D : va_G} {ad : Nat → Nat} {cs : Nat → ClassId} {σ : Mem} {av : List Value} : FrameBlind (va_Pc av (fun U => va_P D vwCl (wl ad cs σ 0 shp) U.heap ∧ va_K D vwCl (tys3 cs) U)) := fun a U g mk q => by
  obtain ⟨q0, qP, qK⟩ := q
  exact ⟨q0, qP, va_K.moved (u := U) (U := U.calling g mk a) (Vm.Alike.refl U.vm) qK⟩
theorem V_callV {X : XC} {own : String} {cc : ByteArray} {nL pc : Nat} {ls : List (Option Value)} {st : List Value} {σ : Mem} {index n d mx : Nat} {y : MethodName} {bytes : ByteArray} {ret : Option FieldType} {As rest : List Value} {P : Option Value → Mem → Prop} {ci b : Nat} {fs : List (Option Nat)} (hX : Cok X own cc nL) (hR : Rok X (d + 1)) (hm : MthV own index y ci bytes mx ret n) (hC : Cc y bytes mx ret d (.ref b :: As) σ P) (hd : decode cc pc = .ok (.invokevirtual index, 3)) (hs : shp[b]? = some (.inl (ci, fs))) (hn : As.length = n) (hnl : ls.length = nL) (hst : st = As.reverse ++ .ref b :: rest) (hcat : csum rest ≤ 8) (kk : ∀ (r : Option Value) (σ2 : Mem), P r σ2 → Vw X (pc + 3) ls (r.toList ++ rest) σ2) : Vw X pc ls st σ := by
  obtain ⟨p, l, e, R, s, m, args, below, meth, c, cells, slots, Q, A, D, ad, cs, H0⟩ := X
  intro H locs lsA hP hS hl
  obtain ⟨hx, hb, hml, hown, hts, hK, hinj, hA, hcl, hsl⟩ := hX
  have hM := hC l D ad cs hinj
  have hroom : (rmd d).frames + 1 ≤ R.frames ∧ 8 + (mx + 11) + (rmd d).locals ≤ R.locals := ⟨hR.1, by have h9 := hR.2; have h8 := hm.1.2.1; show 8 + (mx + 11) + 40 * d ≤ R.locals; omega⟩
  have hGw : ∀ w ∈ Cond.code y bytes mx ret :: lw_w, w ∈ lw_w := fun w hw => (List.mem_cons.mp hw).elim (fun e => by rw [e]; exact hm.1.2.2.1) id
  have hstk : st.map (cvv ad) = (As.map (cvv ad)).reverse ++ .ref (ad b) :: rest.map (cvv ad) := by rw [hst]; simp [List.map_append, List.map_reverse, cvv]
  have hcat2 : 2 * (F0 m pc lsA (rest.map (cvv ad))).monitorRoom + ((rest.map (cvv ad)).map fun v => v.category).sum ≤ 8 := by
    show 2 * 0 + _ ≤ 8
    rw [csum_map]
    omega
  have hws : ∀ w ∈ Cond.code y bytes mx ret :: lw_w, ∀ (a' : Array Value) (U : State), s.WarmedH U.vm → w.before a' U = true := fun w hw a' U hW => lw_warm hts w (hGw w hw) a' U hW
  have hlen9 : ∀ sig, parseMethodDescriptor y.desc = some sig → n = sig.parameters.length := fun sig h => by
    have h2 := hm.1.1.2.2
    rw [h] at h2
    exact (Option.some.inj h2).symm
  have hfix : CallFix p m c cc nL s args lw_w own := ⟨hx, hb, hml, hown, hts⟩
  have run : va_Run p l e R s m args below meth c H locs cells slots 0 0 (F0 m pc lsA (st.map (cvv ad))) (rest.map (cvv ad)) (Qg D ad cs (inW ad) P (Value.ref (ad b) :: As.map (cvv ad)).toArray) (inW ad) := by
    obtain ⟨⟨hd1, hmx, hco, hini, hlk⟩, ⟨T9, N9, hcl9⟩, hins, hsel⟩ := hm
    have he := wl_at (ad := ad) (cs := cs) (σ := σ) hs
    have hrecv : ∃ cellB : Cell, H[ad b]? = some cellB ∧ cellB.vm.isStatics = false ∧ s.vm.findClass y.cls = some cellB.cls := va_recv hK hP hcl9 he
    have hpre : PreV s H y.cls (ad b) (va_Pc (.ref (ad b) :: As.map (cvv ad)) (fun U => va_P D vwCl (wl ad cs σ 0 shp) U.heap ∧ va_K D vwCl (tys3 cs) U)) (As.map (cvv ad)) := ⟨Pc_blind, hrecv, fun U hU hW => ⟨rfl, by rw [hU]; exact hP, va_K.moved hW.alike hK⟩⟩
    rcases hlk with hlk | ⟨host, hlk⟩
    · exact va_runV hfix hM (C := y.cls) ⟨⟨rfl, rfl, hroom.1, hroom.2, hws, List.mem_cons_self, hts _ hco, hts _ hini, ⟨hd1.1, hd1.2.1⟩, hlen9, hts _ hlk⟩, hts _ hins, hts _ hsel⟩ hpre rfl (by rw [List.length_map]; exact hn) (by rw [← hnl]; exact hl.1) hstk hcat2 hd ⟨hcl, hsl⟩
    · exact va_runVN hfix hM (C := y.cls) ⟨⟨⟨rfl, rfl, hroom.1, hroom.2, hws, List.mem_cons_self⟩, hts _ hco, hts _ hini, ⟨hd1.1, hd1.2.1⟩, hlen9, hts _ hlk⟩, hts _ hins, hts _ hsel⟩ hpre rfl (by rw [List.length_map]; exact hn) (by rw [← hnl]; exact hl.1) hstk hcat2 hd ⟨hcl, hsl⟩
  intro T hT XS
  obtain ⟨v, st₀, t, T', L, h0, X', hL, e1, e2, ⟨⟨r, σ', hoc, hPr, hP', hK'⟩, hz, hk⟩, stp⟩ := run T hT XS
  have hv : v = r.map (cvv ad) := Outcome.returned.inj hoc
  rw [h0] at hz hk
  obtain ⟨t2, a1, b1⟩ := kk r σ' hPr T'.heap (locs ++ L) lsA (by rw [e1]; exact hP')
    ⟨Nat.le_trans hS.1 (by rw [e1]; exact hz), fun q h1 h2 => by rw [e1, hk q (Nat.lt_of_lt_of_le h1 hS.1) (fun z => h2 (inW_A hA q z))]; exact hS.2.1 q h1 h2, fun q hq => by
      rcases List.mem_append.mp hq with h | h
      · exact hS.2.2 q h
      · exact inW_A hA _ (hL q h)⟩ hl T' rfl X'
  refine ⟨t2, stp t2 ?_, b1⟩
  have hst2 : v.toList ++ rest.map (cvv ad) = (r.toList ++ rest).map (cvv ad) := by
    rw [hv]
    cases r <;> rfl
  rw [hst2]
  exact a1
theorem V_callS {X : XC} {own : String} {cc : ByteArray} {nL pc : Nat} {ls : List (Option Value)} {st : List Value} {σ : Mem} {index n d mx : Nat} {y : MethodName} {bytes : ByteArray} {ret : Option FieldType} {As rest : List Value} {P : Option Value → Mem → Prop} (hX : Cok X own cc nL) (hR : Rok X (d + 1)) (hm : MthS own index y bytes mx ret n) (hC : Cc y bytes mx ret d (As) σ P) (hd : decode cc pc = .ok (.invokestatic index, 3)) (hn : As.length = n) (hnl : ls.length = nL) (hst : st = As.reverse ++ rest) (hcat : csum rest ≤ 8) (kk : ∀ (r : Option Value) (σ2 : Mem), P r σ2 → Vw X (pc + 3) ls (r.toList ++ rest) σ2) : Vw X pc ls st σ := by
  obtain ⟨p, l, e, R, s, m, args, below, meth, c, cells, slots, Q, A, D, ad, cs, H0⟩ := X
  intro H locs lsA hP hS hl
  obtain ⟨hx, hb, hml, hown, hts, hK, hinj, hA, hcl, hsl⟩ := hX
  have hM := hC l D ad cs hinj
  have hroom : (rmd d).frames + 1 ≤ R.frames ∧ 8 + (mx + 11) + (rmd d).locals ≤ R.locals := ⟨hR.1, by have h9 := hR.2; have h8 := hm.1.2.1; show 8 + (mx + 11) + 40 * d ≤ R.locals; omega⟩
  have hGw : ∀ w ∈ Cond.code y bytes mx ret :: lw_w, w ∈ lw_w := fun w hw => (List.mem_cons.mp hw).elim (fun e => by rw [e]; exact hm.1.2.2.1) id
  have hstk : st.map (cvv ad) = (As.map (cvv ad)).reverse ++ rest.map (cvv ad) := by rw [hst]; simp [List.map_append, List.map_reverse, cvv]
  have hcat2 : 2 * (F0 m pc lsA (rest.map (cvv ad))).monitorRoom + ((rest.map (cvv ad)).map fun v => v.category).sum ≤ 8 := by
    show 2 * 0 + _ ≤ 8
    rw [csum_map]
    omega
  have hws : ∀ w ∈ Cond.code y bytes mx ret :: lw_w, ∀ (a' : Array Value) (U : State), s.WarmedH U.vm → w.before a' U = true := fun w hw a' U hW => lw_warm hts w (hGw w hw) a' U hW
  have hlen9 : ∀ sig, parseMethodDescriptor y.desc = some sig → n = sig.parameters.length := fun sig h => by
    have h2 := hm.1.1.2.2
    rw [h] at h2
    exact (Option.some.inj h2).symm
  have hfix : CallFix p m c cc nL s args lw_w own := ⟨hx, hb, hml, hown, hts⟩
  have run : va_Run p l e R s m args below meth c H locs cells slots 0 0 (F0 m pc lsA (st.map (cvv ad))) (rest.map (cvv ad)) (Qg D ad cs (inW ad) P (As.map (cvv ad)).toArray) (inW ad) := by
    obtain ⟨⟨hd1, hmx, hco, hini, hlk⟩, hstat⟩ := hm
    have hpre : PreS s H (va_Pc (As.map (cvv ad)) (fun U => va_P D vwCl (wl ad cs σ 0 shp) U.heap ∧ va_K D vwCl (tys3 cs) U)) (As.map (cvv ad)) := ⟨Pc_blind, fun U hU hW => ⟨rfl, by rw [hU]; exact hP, va_K.moved hW.alike hK⟩⟩
    rcases hlk with hlk | ⟨host, hlk⟩
    · exact va_runS hfix hM ⟨⟨rfl, rfl, hroom.1, hroom.2, hws, List.mem_cons_self, hts _ hco, hts _ hini, ⟨hd1.1, hd1.2.1⟩, hlen9, hts _ hlk⟩, hts _ hstat⟩ hpre rfl (by rw [List.length_map]; exact hn) (by rw [← hnl]; exact hl.1) hstk hcat2 hd ⟨hcl, hsl⟩
    · exact va_runSN hfix hM ⟨⟨⟨rfl, rfl, hroom.1, hroom.2, hws, List.mem_cons_self⟩, hts _ hco, hts _ hini, ⟨hd1.1, hd1.2.1⟩, hlen9, hts _ hlk⟩, hts _ hstat, trivial⟩ hpre rfl (by rw [List.length_map]; exact hn) (by rw [← hnl]; exact hl.1) hstk hcat2 hd ⟨hcl, hsl⟩
  intro T hT XS
  obtain ⟨v, st₀, t, T', L, h0, X', hL, e1, e2, ⟨⟨r, σ', hoc, hPr, hP', hK'⟩, hz, hk⟩, stp⟩ := run T hT XS
  have hv : v = r.map (cvv ad) := Outcome.returned.inj hoc
  rw [h0] at hz hk
  obtain ⟨t2, a1, b1⟩ := kk r σ' hPr T'.heap (locs ++ L) lsA (by rw [e1]; exact hP')
    ⟨Nat.le_trans hS.1 (by rw [e1]; exact hz), fun q h1 h2 => by rw [e1, hk q (Nat.lt_of_lt_of_le h1 hS.1) (fun z => h2 (inW_A hA q z))]; exact hS.2.1 q h1 h2, fun q hq => by
      rcases List.mem_append.mp hq with h | h
      · exact hS.2.2 q h
      · exact inW_A hA _ (hL q h)⟩ hl T' rfl X'
  refine ⟨t2, stp t2 ?_, b1⟩
  have hst2 : v.toList ++ rest.map (cvv ad) = (r.toList ++ rest).map (cvv ad) := by
    rw [hv]
    cases r <;> rfl
  rw [hst2]
  exact a1
end
section
theorem iuX0 : ∀ w ∈ u_ws RX0 TX0 2, w ∈ lw_w := by decide +kernel
theorem iuX1 : ∀ w ∈ u_ws RX1 TX1 11, w ∈ lw_w := by decide +kernel
theorem iuX2 : ∀ w ∈ u_ws RX2 TX2 9, w ∈ lw_w := by decide +kernel
theorem iuX3 : ∀ w ∈ u_ws RX3 TX3 3, w ∈ lw_w := by decide +kernel
theorem iuX4 : ∀ w ∈ u_ws RX4 TX4 12, w ∈ lw_w := by decide +kernel
theorem iuX5 : ∀ w ∈ u_ws RX5 TX5 6, w ∈ lw_w := by decide +kernel
theorem iuX6 : ∀ w ∈ u_ws RX6 TX6 32, w ∈ lw_w := by decide +kernel
theorem fX3_11 : Fld RX3 11 3 0 := ⟨RX3, TX3, 3, rfl, Nat.le_of_ble_eq_true rfl, iuX3, ⟨tyX3, tyX3_ok⟩, nmX3, Or.inl (lw_mem 75 (by decide +kernel) (by decide +kernel))⟩
theorem fX3_16 : Fld RX3 16 3 1 := ⟨RX3, TX3, 3, rfl, Nat.le_of_ble_eq_true rfl, iuX3, ⟨tyX3, tyX3_ok⟩, nmX3, Or.inl (lw_mem 76 (by decide +kernel) (by decide +kernel))⟩
theorem fX3_20 : Fld RX3 20 3 2 := ⟨RX3, TX3, 3, rfl, Nat.le_of_ble_eq_true rfl, iuX3, ⟨tyX3, tyX3_ok⟩, nmX3, Or.inl (lw_mem 77 (by decide +kernel) (by decide +kernel))⟩
theorem fX2_9 : Fld RX2 9 2 0 := ⟨RX2, TX2, 9, rfl, Nat.le_of_ble_eq_true rfl, iuX2, ⟨tyX2, tyX2_ok⟩, nmX2, Or.inl (lw_mem 92 (by decide +kernel) (by decide +kernel))⟩
theorem fX0_48 : Fld RX0 48 2 0 := ⟨RX2, TX2, 9, rfl, Nat.le_of_ble_eq_true rfl, iuX2, ⟨tyX2, tyX2_ok⟩, nmX2, Or.inr ⟨"BuyAsAsked", lw_mem 93 (by decide +kernel) (by decide +kernel)⟩⟩
theorem fX5_126 : Fld RX5 126 2 0 := ⟨RX2, TX2, 9, rfl, Nat.le_of_ble_eq_true rfl, iuX2, ⟨tyX2, tyX2_ok⟩, nmX2, Or.inr ⟨"BuyAsAsked", lw_mem 94 (by decide +kernel) (by decide +kernel)⟩⟩
theorem fX2_15 : Fld RX2 15 2 1 := ⟨RX2, TX2, 9, rfl, Nat.le_of_ble_eq_true rfl, iuX2, ⟨tyX2, tyX2_ok⟩, nmX2, Or.inl (lw_mem 95 (by decide +kernel) (by decide +kernel))⟩
theorem fX0_57 : Fld RX0 57 2 1 := ⟨RX2, TX2, 9, rfl, Nat.le_of_ble_eq_true rfl, iuX2, ⟨tyX2, tyX2_ok⟩, nmX2, Or.inr ⟨"BuyAsAsked", lw_mem 96 (by decide +kernel) (by decide +kernel)⟩⟩
theorem fX5_130 : Fld RX5 130 2 1 := ⟨RX2, TX2, 9, rfl, Nat.le_of_ble_eq_true rfl, iuX2, ⟨tyX2, tyX2_ok⟩, nmX2, Or.inr ⟨"BuyAsAsked", lw_mem 97 (by decide +kernel) (by decide +kernel)⟩⟩
theorem fX2_18 : Fld RX2 18 2 2 := ⟨RX2, TX2, 9, rfl, Nat.le_of_ble_eq_true rfl, iuX2, ⟨tyX2, tyX2_ok⟩, nmX2, Or.inl (lw_mem 98 (by decide +kernel) (by decide +kernel))⟩
theorem fX5_139 : Fld RX5 139 2 2 := ⟨RX2, TX2, 9, rfl, Nat.le_of_ble_eq_true rfl, iuX2, ⟨tyX2, tyX2_ok⟩, nmX2, Or.inr ⟨"BuyAsAsked", lw_mem 99 (by decide +kernel) (by decide +kernel)⟩⟩
theorem fX2_21 : Fld RX2 21 2 3 := ⟨RX2, TX2, 9, rfl, Nat.le_of_ble_eq_true rfl, iuX2, ⟨tyX2, tyX2_ok⟩, nmX2, Or.inl (lw_mem 100 (by decide +kernel) (by decide +kernel))⟩
theorem gi2_3 : Fint 2 3 := fun C T N h => by
  have h2 : (RX2, TX2, 9) = (C, T, N) := Option.some.inj h
  cases h2
  exact ⟨rfl, by decide +kernel⟩
theorem fX5_87 : Fld RX5 87 2 3 := ⟨RX2, TX2, 9, rfl, Nat.le_of_ble_eq_true rfl, iuX2, ⟨tyX2, tyX2_ok⟩, nmX2, Or.inr ⟨"BuyAsAsked", lw_mem 101 (by decide +kernel) (by decide +kernel)⟩⟩
theorem fX2_29 : Fld RX2 29 2 4 := ⟨RX2, TX2, 9, rfl, Nat.le_of_ble_eq_true rfl, iuX2, ⟨tyX2, tyX2_ok⟩, nmX2, Or.inl (lw_mem 102 (by decide +kernel) (by decide +kernel))⟩
theorem gi2_4 : Fint 2 4 := fun C T N h => by
  have h2 : (RX2, TX2, 9) = (C, T, N) := Option.some.inj h
  cases h2
  exact ⟨rfl, by decide +kernel⟩
theorem fX2_38 : Fld RX2 38 2 5 := ⟨RX2, TX2, 9, rfl, Nat.le_of_ble_eq_true rfl, iuX2, ⟨tyX2, tyX2_ok⟩, nmX2, Or.inl (lw_mem 103 (by decide +kernel) (by decide +kernel))⟩
theorem gi2_5 : Fint 2 5 := fun C T N h => by
  have h2 : (RX2, TX2, 9) = (C, T, N) := Option.some.inj h
  cases h2
  exact ⟨rfl, by decide +kernel⟩
theorem fX5_83 : Fld RX5 83 2 5 := ⟨RX2, TX2, 9, rfl, Nat.le_of_ble_eq_true rfl, iuX2, ⟨tyX2, tyX2_ok⟩, nmX2, Or.inr ⟨"BuyAsAsked", lw_mem 104 (by decide +kernel) (by decide +kernel)⟩⟩
theorem fX2_35 : Fld RX2 35 2 6 := ⟨RX2, TX2, 9, rfl, Nat.le_of_ble_eq_true rfl, iuX2, ⟨tyX2, tyX2_ok⟩, nmX2, Or.inl (lw_mem 105 (by decide +kernel) (by decide +kernel))⟩
theorem gi2_6 : Fint 2 6 := fun C T N h => by
  have h2 : (RX2, TX2, 9) = (C, T, N) := Option.some.inj h
  cases h2
  exact ⟨rfl, by decide +kernel⟩
theorem fX5_120 : Fld RX5 120 2 6 := ⟨RX2, TX2, 9, rfl, Nat.le_of_ble_eq_true rfl, iuX2, ⟨tyX2, tyX2_ok⟩, nmX2, Or.inr ⟨"BuyAsAsked", lw_mem 106 (by decide +kernel) (by decide +kernel)⟩⟩
theorem fX2_41 : Fld RX2 41 2 7 := ⟨RX2, TX2, 9, rfl, Nat.le_of_ble_eq_true rfl, iuX2, ⟨tyX2, tyX2_ok⟩, nmX2, Or.inl (lw_mem 107 (by decide +kernel) (by decide +kernel))⟩
theorem gi2_7 : Fint 2 7 := fun C T N h => by
  have h2 : (RX2, TX2, 9) = (C, T, N) := Option.some.inj h
  cases h2
  exact ⟨rfl, by decide +kernel⟩
theorem fX2_51 : Fld RX2 51 2 8 := ⟨RX2, TX2, 9, rfl, Nat.le_of_ble_eq_true rfl, iuX2, ⟨tyX2, tyX2_ok⟩, nmX2, Or.inl (lw_mem 108 (by decide +kernel) (by decide +kernel))⟩
theorem gi2_8 : Fint 2 8 := fun C T N h => by
  have h2 : (RX2, TX2, 9) = (C, T, N) := Option.some.inj h
  cases h2
  exact ⟨rfl, by decide +kernel⟩
theorem fX5_107 : Fld RX5 107 2 8 := ⟨RX2, TX2, 9, rfl, Nat.le_of_ble_eq_true rfl, iuX2, ⟨tyX2, tyX2_ok⟩, nmX2, Or.inr ⟨"BuyAsAsked", lw_mem 109 (by decide +kernel) (by decide +kernel)⟩⟩
theorem fX1_9 : Fld RX1 9 1 0 := ⟨RX1, TX1, 11, rfl, Nat.le_of_ble_eq_true rfl, iuX1, ⟨tyX1, tyX1_ok⟩, nmX1, Or.inl (lw_mem 135 (by decide +kernel) (by decide +kernel))⟩
theorem fX1_15 : Fld RX1 15 1 1 := ⟨RX1, TX1, 11, rfl, Nat.le_of_ble_eq_true rfl, iuX1, ⟨tyX1, tyX1_ok⟩, nmX1, Or.inl (lw_mem 136 (by decide +kernel) (by decide +kernel))⟩
theorem fX1_18 : Fld RX1 18 1 2 := ⟨RX1, TX1, 11, rfl, Nat.le_of_ble_eq_true rfl, iuX1, ⟨tyX1, tyX1_ok⟩, nmX1, Or.inl (lw_mem 137 (by decide +kernel) (by decide +kernel))⟩
theorem fX1_21 : Fld RX1 21 1 3 := ⟨RX1, TX1, 11, rfl, Nat.le_of_ble_eq_true rfl, iuX1, ⟨tyX1, tyX1_ok⟩, nmX1, Or.inl (lw_mem 138 (by decide +kernel) (by decide +kernel))⟩
theorem fX1_25 : Fld RX1 25 1 4 := ⟨RX1, TX1, 11, rfl, Nat.le_of_ble_eq_true rfl, iuX1, ⟨tyX1, tyX1_ok⟩, nmX1, Or.inl (lw_mem 139 (by decide +kernel) (by decide +kernel))⟩
theorem fX1_28 : Fld RX1 28 1 5 := ⟨RX1, TX1, 11, rfl, Nat.le_of_ble_eq_true rfl, iuX1, ⟨tyX1, tyX1_ok⟩, nmX1, Or.inl (lw_mem 140 (by decide +kernel) (by decide +kernel))⟩
theorem fX1_35 : Fld RX1 35 1 6 := ⟨RX1, TX1, 11, rfl, Nat.le_of_ble_eq_true rfl, iuX1, ⟨tyX1, tyX1_ok⟩, nmX1, Or.inl (lw_mem 141 (by decide +kernel) (by decide +kernel))⟩
theorem gi1_6 : Fint 1 6 := fun C T N h => by
  have h2 : (RX1, TX1, 11) = (C, T, N) := Option.some.inj h
  cases h2
  exact ⟨rfl, by decide +kernel⟩
theorem fX5_148 : Fld RX5 148 1 6 := ⟨RX1, TX1, 11, rfl, Nat.le_of_ble_eq_true rfl, iuX1, ⟨tyX1, tyX1_ok⟩, nmX1, Or.inr ⟨"BuyAsAsked", lw_mem 142 (by decide +kernel) (by decide +kernel)⟩⟩
theorem fX1_31 : Fld RX1 31 1 7 := ⟨RX1, TX1, 11, rfl, Nat.le_of_ble_eq_true rfl, iuX1, ⟨tyX1, tyX1_ok⟩, nmX1, Or.inl (lw_mem 143 (by decide +kernel) (by decide +kernel))⟩
theorem gi1_7 : Fint 1 7 := fun C T N h => by
  have h2 : (RX1, TX1, 11) = (C, T, N) := Option.some.inj h
  cases h2
  exact ⟨rfl, by decide +kernel⟩
theorem fX5_150 : Fld RX5 150 1 7 := ⟨RX1, TX1, 11, rfl, Nat.le_of_ble_eq_true rfl, iuX1, ⟨tyX1, tyX1_ok⟩, nmX1, Or.inr ⟨"BuyAsAsked", lw_mem 144 (by decide +kernel) (by decide +kernel)⟩⟩
theorem fX1_42 : Fld RX1 42 1 8 := ⟨RX1, TX1, 11, rfl, Nat.le_of_ble_eq_true rfl, iuX1, ⟨tyX1, tyX1_ok⟩, nmX1, Or.inl (lw_mem 145 (by decide +kernel) (by decide +kernel))⟩
theorem gi1_8 : Fint 1 8 := fun C T N h => by
  have h2 : (RX1, TX1, 11) = (C, T, N) := Option.some.inj h
  cases h2
  exact ⟨rfl, by decide +kernel⟩
theorem fX5_142 : Fld RX5 142 1 8 := ⟨RX1, TX1, 11, rfl, Nat.le_of_ble_eq_true rfl, iuX1, ⟨tyX1, tyX1_ok⟩, nmX1, Or.inr ⟨"BuyAsAsked", lw_mem 146 (by decide +kernel) (by decide +kernel)⟩⟩
theorem fX1_74 : Fld RX1 74 1 9 := ⟨RX1, TX1, 11, rfl, Nat.le_of_ble_eq_true rfl, iuX1, ⟨tyX1, tyX1_ok⟩, nmX1, Or.inl (lw_mem 147 (by decide +kernel) (by decide +kernel))⟩
theorem gi1_9 : Fint 1 9 := fun C T N h => by
  have h2 : (RX1, TX1, 11) = (C, T, N) := Option.some.inj h
  cases h2
  exact ⟨rfl, by decide +kernel⟩
theorem fX5_159 : Fld RX5 159 1 9 := ⟨RX1, TX1, 11, rfl, Nat.le_of_ble_eq_true rfl, iuX1, ⟨tyX1, tyX1_ok⟩, nmX1, Or.inr ⟨"BuyAsAsked", lw_mem 148 (by decide +kernel) (by decide +kernel)⟩⟩
theorem fX1_56 : Fld RX1 56 1 10 := ⟨RX1, TX1, 11, rfl, Nat.le_of_ble_eq_true rfl, iuX1, ⟨tyX1, tyX1_ok⟩, nmX1, Or.inl (lw_mem 149 (by decide +kernel) (by decide +kernel))⟩
theorem gi1_10 : Fint 1 10 := fun C T N h => by
  have h2 : (RX1, TX1, 11) = (C, T, N) := Option.some.inj h
  cases h2
  exact ⟨rfl, by decide +kernel⟩
theorem fX5_154 : Fld RX5 154 1 10 := ⟨RX1, TX1, 11, rfl, Nat.le_of_ble_eq_true rfl, iuX1, ⟨tyX1, tyX1_ok⟩, nmX1, Or.inr ⟨"BuyAsAsked", lw_mem 150 (by decide +kernel) (by decide +kernel)⟩⟩
theorem fX4_11 : Fld RX4 11 4 0 := ⟨RX4, TX4, 12, rfl, Nat.le_of_ble_eq_true rfl, iuX4, ⟨tyX4, tyX4_ok⟩, nmX4, Or.inl (lw_mem 182 (by decide +kernel) (by decide +kernel))⟩
theorem fX4_16 : Fld RX4 16 4 1 := ⟨RX4, TX4, 12, rfl, Nat.le_of_ble_eq_true rfl, iuX4, ⟨tyX4, tyX4_ok⟩, nmX4, Or.inl (lw_mem 183 (by decide +kernel) (by decide +kernel))⟩
theorem fX4_20 : Fld RX4 20 4 2 := ⟨RX4, TX4, 12, rfl, Nat.le_of_ble_eq_true rfl, iuX4, ⟨tyX4, tyX4_ok⟩, nmX4, Or.inl (lw_mem 184 (by decide +kernel) (by decide +kernel))⟩
theorem fX4_23 : Fld RX4 23 4 3 := ⟨RX4, TX4, 12, rfl, Nat.le_of_ble_eq_true rfl, iuX4, ⟨tyX4, tyX4_ok⟩, nmX4, Or.inl (lw_mem 185 (by decide +kernel) (by decide +kernel))⟩
theorem fX4_26 : Fld RX4 26 4 4 := ⟨RX4, TX4, 12, rfl, Nat.le_of_ble_eq_true rfl, iuX4, ⟨tyX4, tyX4_ok⟩, nmX4, Or.inl (lw_mem 186 (by decide +kernel) (by decide +kernel))⟩
theorem fX4_29 : Fld RX4 29 4 5 := ⟨RX4, TX4, 12, rfl, Nat.le_of_ble_eq_true rfl, iuX4, ⟨tyX4, tyX4_ok⟩, nmX4, Or.inl (lw_mem 187 (by decide +kernel) (by decide +kernel))⟩
theorem gi4_5 : Fint 4 5 := fun C T N h => by
  have h2 : (RX4, TX4, 12) = (C, T, N) := Option.some.inj h
  cases h2
  exact ⟨rfl, by decide +kernel⟩
theorem fX5_165 : Fld RX5 165 4 5 := ⟨RX4, TX4, 12, rfl, Nat.le_of_ble_eq_true rfl, iuX4, ⟨tyX4, tyX4_ok⟩, nmX4, Or.inr ⟨"BuyAsAsked", lw_mem 188 (by decide +kernel) (by decide +kernel)⟩⟩
theorem fX4_40 : Fld RX4 40 4 6 := ⟨RX4, TX4, 12, rfl, Nat.le_of_ble_eq_true rfl, iuX4, ⟨tyX4, tyX4_ok⟩, nmX4, Or.inl (lw_mem 189 (by decide +kernel) (by decide +kernel))⟩
theorem gi4_6 : Fint 4 6 := fun C T N h => by
  have h2 : (RX4, TX4, 12) = (C, T, N) := Option.some.inj h
  cases h2
  exact ⟨rfl, by decide +kernel⟩
theorem fX5_223 : Fld RX5 223 4 6 := ⟨RX4, TX4, 12, rfl, Nat.le_of_ble_eq_true rfl, iuX4, ⟨tyX4, tyX4_ok⟩, nmX4, Or.inr ⟨"BuyAsAsked", lw_mem 190 (by decide +kernel) (by decide +kernel)⟩⟩
theorem fX4_46 : Fld RX4 46 4 7 := ⟨RX4, TX4, 12, rfl, Nat.le_of_ble_eq_true rfl, iuX4, ⟨tyX4, tyX4_ok⟩, nmX4, Or.inl (lw_mem 191 (by decide +kernel) (by decide +kernel))⟩
theorem gi4_7 : Fint 4 7 := fun C T N h => by
  have h2 : (RX4, TX4, 12) = (C, T, N) := Option.some.inj h
  cases h2
  exact ⟨rfl, by decide +kernel⟩
theorem fX4_43 : Fld RX4 43 4 8 := ⟨RX4, TX4, 12, rfl, Nat.le_of_ble_eq_true rfl, iuX4, ⟨tyX4, tyX4_ok⟩, nmX4, Or.inl (lw_mem 192 (by decide +kernel) (by decide +kernel))⟩
theorem gi4_8 : Fint 4 8 := fun C T N h => by
  have h2 : (RX4, TX4, 12) = (C, T, N) := Option.some.inj h
  cases h2
  exact ⟨rfl, by decide +kernel⟩
theorem fX5_175 : Fld RX5 175 4 8 := ⟨RX4, TX4, 12, rfl, Nat.le_of_ble_eq_true rfl, iuX4, ⟨tyX4, tyX4_ok⟩, nmX4, Or.inr ⟨"BuyAsAsked", lw_mem 193 (by decide +kernel) (by decide +kernel)⟩⟩
theorem fX4_49 : Fld RX4 49 4 9 := ⟨RX4, TX4, 12, rfl, Nat.le_of_ble_eq_true rfl, iuX4, ⟨tyX4, tyX4_ok⟩, nmX4, Or.inl (lw_mem 194 (by decide +kernel) (by decide +kernel))⟩
theorem gi4_9 : Fint 4 9 := fun C T N h => by
  have h2 : (RX4, TX4, 12) = (C, T, N) := Option.some.inj h
  cases h2
  exact ⟨rfl, by decide +kernel⟩
theorem fX5_186 : Fld RX5 186 4 9 := ⟨RX4, TX4, 12, rfl, Nat.le_of_ble_eq_true rfl, iuX4, ⟨tyX4, tyX4_ok⟩, nmX4, Or.inr ⟨"BuyAsAsked", lw_mem 195 (by decide +kernel) (by decide +kernel)⟩⟩
theorem fX4_83 : Fld RX4 83 4 10 := ⟨RX4, TX4, 12, rfl, Nat.le_of_ble_eq_true rfl, iuX4, ⟨tyX4, tyX4_ok⟩, nmX4, Or.inl (lw_mem 196 (by decide +kernel) (by decide +kernel))⟩
theorem gi4_10 : Fint 4 10 := fun C T N h => by
  have h2 : (RX4, TX4, 12) = (C, T, N) := Option.some.inj h
  cases h2
  exact ⟨rfl, by decide +kernel⟩
theorem fX5_189 : Fld RX5 189 4 10 := ⟨RX4, TX4, 12, rfl, Nat.le_of_ble_eq_true rfl, iuX4, ⟨tyX4, tyX4_ok⟩, nmX4, Or.inr ⟨"BuyAsAsked", lw_mem 197 (by decide +kernel) (by decide +kernel)⟩⟩
theorem fX4_61 : Fld RX4 61 4 11 := ⟨RX4, TX4, 12, rfl, Nat.le_of_ble_eq_true rfl, iuX4, ⟨tyX4, tyX4_ok⟩, nmX4, Or.inl (lw_mem 198 (by decide +kernel) (by decide +kernel))⟩
theorem gi4_11 : Fint 4 11 := fun C T N h => by
  have h2 : (RX4, TX4, 12) = (C, T, N) := Option.some.inj h
  cases h2
  exact ⟨rfl, by decide +kernel⟩
theorem fX5_184 : Fld RX5 184 4 11 := ⟨RX4, TX4, 12, rfl, Nat.le_of_ble_eq_true rfl, iuX4, ⟨tyX4, tyX4_ok⟩, nmX4, Or.inr ⟨"BuyAsAsked", lw_mem 199 (by decide +kernel) (by decide +kernel)⟩⟩
theorem fX0_9 : Fld RX0 9 0 0 := ⟨RX0, TX0, 2, rfl, Nat.le_of_ble_eq_true rfl, iuX0, ⟨tyX0, tyX0_ok⟩, nmX0, Or.inl (lw_mem 231 (by decide +kernel) (by decide +kernel))⟩
theorem fX5_208 : Fld RX5 208 0 0 := ⟨RX0, TX0, 2, rfl, Nat.le_of_ble_eq_true rfl, iuX0, ⟨tyX0, tyX0_ok⟩, nmX0, Or.inr ⟨"BuyAsAsked", lw_mem 232 (by decide +kernel) (by decide +kernel)⟩⟩
theorem fX0_15 : Fld RX0 15 0 1 := ⟨RX0, TX0, 2, rfl, Nat.le_of_ble_eq_true rfl, iuX0, ⟨tyX0, tyX0_ok⟩, nmX0, Or.inl (lw_mem 233 (by decide +kernel) (by decide +kernel))⟩
theorem gi0_1 : Fint 0 1 := fun C T N h => by
  have h2 : (RX0, TX0, 2) = (C, T, N) := Option.some.inj h
  cases h2
  exact ⟨rfl, by decide +kernel⟩
theorem fX5_205 : Fld RX5 205 0 1 := ⟨RX0, TX0, 2, rfl, Nat.le_of_ble_eq_true rfl, iuX0, ⟨tyX0, tyX0_ok⟩, nmX0, Or.inr ⟨"BuyAsAsked", lw_mem 234 (by decide +kernel) (by decide +kernel)⟩⟩
theorem fX5_10 : Fld RX5 10 5 0 := ⟨RX5, TX5, 6, rfl, Nat.le_of_ble_eq_true rfl, iuX5, ⟨tyX5, tyX5_ok⟩, nmX5, Or.inl (lw_mem 240 (by decide +kernel) (by decide +kernel))⟩
theorem fX5_19 : Fld RX5 19 5 1 := ⟨RX5, TX5, 6, rfl, Nat.le_of_ble_eq_true rfl, iuX5, ⟨tyX5, tyX5_ok⟩, nmX5, Or.inl (lw_mem 241 (by decide +kernel) (by decide +kernel))⟩
theorem fX5_26 : Fld RX5 26 5 2 := ⟨RX5, TX5, 6, rfl, Nat.le_of_ble_eq_true rfl, iuX5, ⟨tyX5, tyX5_ok⟩, nmX5, Or.inl (lw_mem 242 (by decide +kernel) (by decide +kernel))⟩
theorem fX5_33 : Fld RX5 33 5 3 := ⟨RX5, TX5, 6, rfl, Nat.le_of_ble_eq_true rfl, iuX5, ⟨tyX5, tyX5_ok⟩, nmX5, Or.inl (lw_mem 243 (by decide +kernel) (by decide +kernel))⟩
theorem fX5_40 : Fld RX5 40 5 4 := ⟨RX5, TX5, 6, rfl, Nat.le_of_ble_eq_true rfl, iuX5, ⟨tyX5, tyX5_ok⟩, nmX5, Or.inl (lw_mem 244 (by decide +kernel) (by decide +kernel))⟩
theorem fX5_44 : Fld RX5 44 5 5 := ⟨RX5, TX5, 6, rfl, Nat.le_of_ble_eq_true rfl, iuX5, ⟨tyX5, tyX5_ok⟩, nmX5, Or.inl (lw_mem 245 (by decide +kernel) (by decide +kernel))⟩
theorem gi5_5 : Fint 5 5 := fun C T N h => by
  have h2 : (RX5, TX5, 6) = (C, T, N) := Option.some.inj h
  cases h2
  exact ⟨rfl, by decide +kernel⟩
theorem mL_13 : MthV RL 13 yX5_sheet 5 cX5_sheet 4 (some .int) 3 := ⟨⟨⟨by decide +kernel, by decide +kernel, by decide +kernel⟩, Nat.le_of_ble_eq_true rfl, lw_mem 262 (by decide +kernel) (by decide +kernel), lw_mem 49 (by decide +kernel) (by decide +kernel), Or.inl (lw_mem 259 (by decide +kernel) (by decide +kernel))⟩, ⟨TX5, 6, rfl⟩, lw_mem 260 (by decide +kernel) (by decide +kernel), lw_mem 261 (by decide +kernel) (by decide +kernel)⟩
theorem mX5_48 : MthS RX5 48 yX5_isUnder cX5_isUnder 2 (some .boolean) 2 := ⟨⟨⟨by decide +kernel, by decide +kernel, by decide +kernel⟩, Nat.le_of_ble_eq_true rfl, lw_mem 265 (by decide +kernel) (by decide +kernel), lw_mem 49 (by decide +kernel) (by decide +kernel), Or.inl (lw_mem 263 (by decide +kernel) (by decide +kernel))⟩, lw_mem 264 (by decide +kernel) (by decide +kernel)⟩
theorem kX5_52 : Cond.constant RX5 52 (-1000001) ∈ lw_w := lw_mem 266 (by decide +kernel) (by decide +kernel)
theorem mX5_53 : MthV RX5 53 yX3_lay 3 cX3_lay 5 (some .int) 3 := ⟨⟨⟨by decide +kernel, by decide +kernel, by decide +kernel⟩, Nat.le_of_ble_eq_true rfl, lw_mem 270 (by decide +kernel) (by decide +kernel), lw_mem 50 (by decide +kernel) (by decide +kernel), Or.inl (lw_mem 267 (by decide +kernel) (by decide +kernel))⟩, ⟨TX3, 3, rfl⟩, lw_mem 268 (by decide +kernel) (by decide +kernel), lw_mem 269 (by decide +kernel) (by decide +kernel)⟩
theorem kX5_57 : Cond.constant RX5 57 (-1000010) ∈ lw_w := lw_mem 271 (by decide +kernel) (by decide +kernel)
theorem mL_18 : MthV RL 18 yX5_set 5 cX5_set 4 (some .int) 3 := ⟨⟨⟨by decide +kernel, by decide +kernel, by decide +kernel⟩, Nat.le_of_ble_eq_true rfl, lw_mem 275 (by decide +kernel) (by decide +kernel), lw_mem 49 (by decide +kernel) (by decide +kernel), Or.inl (lw_mem 272 (by decide +kernel) (by decide +kernel))⟩, ⟨TX5, 6, rfl⟩, lw_mem 273 (by decide +kernel) (by decide +kernel), lw_mem 274 (by decide +kernel) (by decide +kernel)⟩
theorem mX5_58 : MthV RX5 58 yX3_findItems 3 cX3_findItems 4 (some .int) 3 := ⟨⟨⟨by decide +kernel, by decide +kernel, by decide +kernel⟩, Nat.le_of_ble_eq_true rfl, lw_mem 279 (by decide +kernel) (by decide +kernel), lw_mem 50 (by decide +kernel) (by decide +kernel), Or.inl (lw_mem 276 (by decide +kernel) (by decide +kernel))⟩, ⟨TX3, 3, rfl⟩, lw_mem 277 (by decide +kernel) (by decide +kernel), lw_mem 278 (by decide +kernel) (by decide +kernel)⟩
theorem mX3_23 : MthV RX3 23 yX3_isMissing 3 cX3_isMissing 2 (some .boolean) 1 := ⟨⟨⟨by decide +kernel, by decide +kernel, by decide +kernel⟩, Nat.le_of_ble_eq_true rfl, lw_mem 283 (by decide +kernel) (by decide +kernel), lw_mem 50 (by decide +kernel) (by decide +kernel), Or.inl (lw_mem 280 (by decide +kernel) (by decide +kernel))⟩, ⟨TX3, 3, rfl⟩, lw_mem 281 (by decide +kernel) (by decide +kernel), lw_mem 282 (by decide +kernel) (by decide +kernel)⟩
theorem mX3_27 : MthV RX3 27 yX3_isRow 3 cX3_isRow 4 (some .boolean) 3 := ⟨⟨⟨by decide +kernel, by decide +kernel, by decide +kernel⟩, Nat.le_of_ble_eq_true rfl, lw_mem 287 (by decide +kernel) (by decide +kernel), lw_mem 50 (by decide +kernel) (by decide +kernel), Or.inl (lw_mem 284 (by decide +kernel) (by decide +kernel))⟩, ⟨TX3, 3, rfl⟩, lw_mem 286 (by decide +kernel) (by decide +kernel), lw_mem 0 (by decide +kernel) (by decide +kernel)⟩
theorem mX5_61 : MthV RX5 61 yX3_put 3 cX3_put 4 (some .int) 3 := ⟨⟨⟨by decide +kernel, by decide +kernel, by decide +kernel⟩, Nat.le_of_ble_eq_true rfl, lw_mem 291 (by decide +kernel) (by decide +kernel), lw_mem 50 (by decide +kernel) (by decide +kernel), Or.inl (lw_mem 288 (by decide +kernel) (by decide +kernel))⟩, ⟨TX3, 3, rfl⟩, lw_mem 289 (by decide +kernel) (by decide +kernel), lw_mem 290 (by decide +kernel) (by decide +kernel)⟩
theorem mX3_31 : MthS RX3 31 yX3_fit cX3_fit 2 (some .int) 2 := ⟨⟨⟨by decide +kernel, by decide +kernel, by decide +kernel⟩, Nat.le_of_ble_eq_true rfl, lw_mem 294 (by decide +kernel) (by decide +kernel), lw_mem 50 (by decide +kernel) (by decide +kernel), Or.inl (lw_mem 292 (by decide +kernel) (by decide +kernel))⟩, lw_mem 293 (by decide +kernel) (by decide +kernel)⟩
theorem mL_22 : MthV RL 22 yX5_copy 5 cX5_copy 6 (some .int) 5 := ⟨⟨⟨by decide +kernel, by decide +kernel, by decide +kernel⟩, Nat.le_of_ble_eq_true rfl, lw_mem 298 (by decide +kernel) (by decide +kernel), lw_mem 49 (by decide +kernel) (by decide +kernel), Or.inl (lw_mem 295 (by decide +kernel) (by decide +kernel))⟩, ⟨TX5, 6, rfl⟩, lw_mem 296 (by decide +kernel) (by decide +kernel), lw_mem 297 (by decide +kernel) (by decide +kernel)⟩
theorem mX5_64 : MthV RX5 64 yX3_findPair 3 cX3_findPair 6 (some .int) 5 := ⟨⟨⟨by decide +kernel, by decide +kernel, by decide +kernel⟩, Nat.le_of_ble_eq_true rfl, lw_mem 302 (by decide +kernel) (by decide +kernel), lw_mem 50 (by decide +kernel) (by decide +kernel), Or.inl (lw_mem 299 (by decide +kernel) (by decide +kernel))⟩, ⟨TX3, 3, rfl⟩, lw_mem 300 (by decide +kernel) (by decide +kernel), lw_mem 301 (by decide +kernel) (by decide +kernel)⟩
theorem mX5_68 : MthV RX5 68 yX3_move 3 cX3_move 6 (some .int) 5 := ⟨⟨⟨by decide +kernel, by decide +kernel, by decide +kernel⟩, Nat.le_of_ble_eq_true rfl, lw_mem 306 (by decide +kernel) (by decide +kernel), lw_mem 50 (by decide +kernel) (by decide +kernel), Or.inl (lw_mem 303 (by decide +kernel) (by decide +kernel))⟩, ⟨TX3, 3, rfl⟩, lw_mem 304 (by decide +kernel) (by decide +kernel), lw_mem 305 (by decide +kernel) (by decide +kernel)⟩
theorem mL_27 : MthV RL 27 yX5_drop 5 cX5_drop 2 (some .int) 1 := ⟨⟨⟨by decide +kernel, by decide +kernel, by decide +kernel⟩, Nat.le_of_ble_eq_true rfl, lw_mem 313 (by decide +kernel) (by decide +kernel), lw_mem 49 (by decide +kernel) (by decide +kernel), Or.inl (lw_mem 310 (by decide +kernel) (by decide +kernel))⟩, ⟨TX5, 6, rfl⟩, lw_mem 311 (by decide +kernel) (by decide +kernel), lw_mem 312 (by decide +kernel) (by decide +kernel)⟩
theorem mX5_71 : MthV RX5 71 yX3_isMissing 3 cX3_isMissing 2 (some .boolean) 1 := ⟨⟨⟨by decide +kernel, by decide +kernel, by decide +kernel⟩, Nat.le_of_ble_eq_true rfl, lw_mem 283 (by decide +kernel) (by decide +kernel), lw_mem 50 (by decide +kernel) (by decide +kernel), Or.inl (lw_mem 314 (by decide +kernel) (by decide +kernel))⟩, ⟨TX3, 3, rfl⟩, lw_mem 281 (by decide +kernel) (by decide +kernel), lw_mem 282 (by decide +kernel) (by decide +kernel)⟩
theorem mX5_75 : MthV RX5 75 yX3_remove 3 cX3_remove 3 (some .int) 1 := ⟨⟨⟨by decide +kernel, by decide +kernel, by decide +kernel⟩, Nat.le_of_ble_eq_true rfl, lw_mem 318 (by decide +kernel) (by decide +kernel), lw_mem 50 (by decide +kernel) (by decide +kernel), Or.inl (lw_mem 315 (by decide +kernel) (by decide +kernel))⟩, ⟨TX3, 3, rfl⟩, lw_mem 316 (by decide +kernel) (by decide +kernel), lw_mem 317 (by decide +kernel) (by decide +kernel)⟩
theorem mL_32 : MthV RL 32 yX5_offer 5 cX5_offer 3 (some .int) 2 := ⟨⟨⟨by decide +kernel, by decide +kernel, by decide +kernel⟩, Nat.le_of_ble_eq_true rfl, lw_mem 322 (by decide +kernel) (by decide +kernel), lw_mem 49 (by decide +kernel) (by decide +kernel), Or.inl (lw_mem 319 (by decide +kernel) (by decide +kernel))⟩, ⟨TX5, 6, rfl⟩, lw_mem 320 (by decide +kernel) (by decide +kernel), lw_mem 321 (by decide +kernel) (by decide +kernel)⟩
theorem mX5_79 : MthS RX5 79 yX5_isWithin cX5_isWithin 3 (some .boolean) 3 := ⟨⟨⟨by decide +kernel, by decide +kernel, by decide +kernel⟩, Nat.le_of_ble_eq_true rfl, lw_mem 325 (by decide +kernel) (by decide +kernel), lw_mem 49 (by decide +kernel) (by decide +kernel), Or.inl (lw_mem 323 (by decide +kernel) (by decide +kernel))⟩, lw_mem 324 (by decide +kernel) (by decide +kernel)⟩
theorem kX5_86 : Cond.constant RX5 86 (-1000002) ∈ lw_w := lw_mem 326 (by decide +kernel) (by decide +kernel)
theorem mX5_90 : MthV RX5 90 yX2_add 2 cX2_add 3 (some .int) 2 := ⟨⟨⟨by decide +kernel, by decide +kernel, by decide +kernel⟩, Nat.le_of_ble_eq_true rfl, lw_mem 330 (by decide +kernel) (by decide +kernel), lw_mem 51 (by decide +kernel) (by decide +kernel), Or.inl (lw_mem 327 (by decide +kernel) (by decide +kernel))⟩, ⟨TX2, 9, rfl⟩, lw_mem 328 (by decide +kernel) (by decide +kernel), lw_mem 329 (by decide +kernel) (by decide +kernel)⟩
theorem kX5_94 : Cond.constant RX5 94 (-1000003) ∈ lw_w := lw_mem 331 (by decide +kernel) (by decide +kernel)
theorem mL_37 : MthV RL 37 yX5_demand 5 cX5_demand 2 (some .int) 1 := ⟨⟨⟨by decide +kernel, by decide +kernel, by decide +kernel⟩, Nat.le_of_ble_eq_true rfl, lw_mem 335 (by decide +kernel) (by decide +kernel), lw_mem 49 (by decide +kernel) (by decide +kernel), Or.inl (lw_mem 332 (by decide +kernel) (by decide +kernel))⟩, ⟨TX5, 6, rfl⟩, lw_mem 333 (by decide +kernel) (by decide +kernel), lw_mem 334 (by decide +kernel) (by decide +kernel)⟩
theorem mX5_95 : MthV RX5 95 yX2_isOffered 2 cX2_isOffered 2 (some .boolean) 1 := ⟨⟨⟨by decide +kernel, by decide +kernel, by decide +kernel⟩, Nat.le_of_ble_eq_true rfl, lw_mem 339 (by decide +kernel) (by decide +kernel), lw_mem 51 (by decide +kernel) (by decide +kernel), Or.inl (lw_mem 336 (by decide +kernel) (by decide +kernel))⟩, ⟨TX2, 9, rfl⟩, lw_mem 337 (by decide +kernel) (by decide +kernel), lw_mem 338 (by decide +kernel) (by decide +kernel)⟩
theorem mX2_32 : MthS RX2 32 yX5_holds cX5_holds 2 (some .boolean) 2 := ⟨⟨⟨by decide +kernel, by decide +kernel, by decide +kernel⟩, Nat.le_of_ble_eq_true rfl, lw_mem 342 (by decide +kernel) (by decide +kernel), lw_mem 49 (by decide +kernel) (by decide +kernel), Or.inr ⟨"BuyAsAsked", lw_mem 340 (by decide +kernel) (by decide +kernel)⟩⟩, lw_mem 341 (by decide +kernel) (by decide +kernel)⟩
theorem mX5_98 : MthV RX5 98 yX2_meet 2 cX2_meet 3 (some .int) 1 := ⟨⟨⟨by decide +kernel, by decide +kernel, by decide +kernel⟩, Nat.le_of_ble_eq_true rfl, lw_mem 346 (by decide +kernel) (by decide +kernel), lw_mem 51 (by decide +kernel) (by decide +kernel), Or.inl (lw_mem 343 (by decide +kernel) (by decide +kernel))⟩, ⟨TX2, 9, rfl⟩, lw_mem 344 (by decide +kernel) (by decide +kernel), lw_mem 345 (by decide +kernel) (by decide +kernel)⟩
theorem mX2_44 : MthV RX2 44 yX2_leastGap 2 cX2_leastGap 4 (some .int) 1 := ⟨⟨⟨by decide +kernel, by decide +kernel, by decide +kernel⟩, Nat.le_of_ble_eq_true rfl, lw_mem 350 (by decide +kernel) (by decide +kernel), lw_mem 51 (by decide +kernel) (by decide +kernel), Or.inl (lw_mem 347 (by decide +kernel) (by decide +kernel))⟩, ⟨TX2, 9, rfl⟩, lw_mem 349 (by decide +kernel) (by decide +kernel), lw_mem 1 (by decide +kernel) (by decide +kernel)⟩
theorem mX2_54 : MthV RX2 54 yX2_filled 2 cX2_filled 2 (some .int) 1 := ⟨⟨⟨by decide +kernel, by decide +kernel, by decide +kernel⟩, Nat.le_of_ble_eq_true rfl, lw_mem 354 (by decide +kernel) (by decide +kernel), lw_mem 51 (by decide +kernel) (by decide +kernel), Or.inl (lw_mem 351 (by decide +kernel) (by decide +kernel))⟩, ⟨TX2, 9, rfl⟩, lw_mem 352 (by decide +kernel) (by decide +kernel), lw_mem 353 (by decide +kernel) (by decide +kernel)⟩
theorem mX2_63 : MthV RX2 63 yX2_pricesOf 2 cX2_pricesOf 4 (some .int) 1 := ⟨⟨⟨by decide +kernel, by decide +kernel, by decide +kernel⟩, Nat.le_of_ble_eq_true rfl, lw_mem 358 (by decide +kernel) (by decide +kernel), lw_mem 51 (by decide +kernel) (by decide +kernel), Or.inl (lw_mem 355 (by decide +kernel) (by decide +kernel))⟩, ⟨TX2, 9, rfl⟩, lw_mem 357 (by decide +kernel) (by decide +kernel), lw_mem 2 (by decide +kernel) (by decide +kernel)⟩
theorem mX2_48 : MthV RX2 48 yX2_buyTight 2 cX2_buyTight 4 (some .int) 1 := ⟨⟨⟨by decide +kernel, by decide +kernel, by decide +kernel⟩, Nat.le_of_ble_eq_true rfl, lw_mem 365 (by decide +kernel) (by decide +kernel), lw_mem 51 (by decide +kernel) (by decide +kernel), Or.inl (lw_mem 362 (by decide +kernel) (by decide +kernel))⟩, ⟨TX2, 9, rfl⟩, lw_mem 364 (by decide +kernel) (by decide +kernel), lw_mem 3 (by decide +kernel) (by decide +kernel)⟩
theorem mL_41 : MthV RL 41 yX5_demands 5 cX5_demands 4 (some .int) 3 := ⟨⟨⟨by decide +kernel, by decide +kernel, by decide +kernel⟩, Nat.le_of_ble_eq_true rfl, lw_mem 369 (by decide +kernel) (by decide +kernel), lw_mem 49 (by decide +kernel) (by decide +kernel), Or.inl (lw_mem 366 (by decide +kernel) (by decide +kernel))⟩, ⟨TX5, 6, rfl⟩, lw_mem 367 (by decide +kernel) (by decide +kernel), lw_mem 368 (by decide +kernel) (by decide +kernel)⟩
theorem mX5_101 : MthV RX5 101 yX5_meetItems 5 cX5_meetItems 7 (some .int) 3 := ⟨⟨⟨by decide +kernel, by decide +kernel, by decide +kernel⟩, Nat.le_of_ble_eq_true rfl, lw_mem 373 (by decide +kernel) (by decide +kernel), lw_mem 49 (by decide +kernel) (by decide +kernel), Or.inl (lw_mem 370 (by decide +kernel) (by decide +kernel))⟩, ⟨TX5, 6, rfl⟩, lw_mem 372 (by decide +kernel) (by decide +kernel), lw_mem 4 (by decide +kernel) (by decide +kernel)⟩
theorem mX5_104 : MthV RX5 104 yX3_item 3 cX3_item 3 (some .int) 2 := ⟨⟨⟨by decide +kernel, by decide +kernel, by decide +kernel⟩, Nat.le_of_ble_eq_true rfl, lw_mem 377 (by decide +kernel) (by decide +kernel), lw_mem 50 (by decide +kernel) (by decide +kernel), Or.inl (lw_mem 374 (by decide +kernel) (by decide +kernel))⟩, ⟨TX3, 3, rfl⟩, lw_mem 375 (by decide +kernel) (by decide +kernel), lw_mem 376 (by decide +kernel) (by decide +kernel)⟩
theorem mL_45 : MthV RL 45 yX5_covers 5 cX5_covers 2 (some .int) 1 := ⟨⟨⟨by decide +kernel, by decide +kernel, by decide +kernel⟩, Nat.le_of_ble_eq_true rfl, lw_mem 381 (by decide +kernel) (by decide +kernel), lw_mem 49 (by decide +kernel) (by decide +kernel), Or.inl (lw_mem 378 (by decide +kernel) (by decide +kernel))⟩, ⟨TX5, 6, rfl⟩, lw_mem 379 (by decide +kernel) (by decide +kernel), lw_mem 380 (by decide +kernel) (by decide +kernel)⟩
theorem mX5_110 : MthV RX5 110 yX2_pricesAdded 2 cX2_pricesAdded 1 (some .int) 0 := ⟨⟨⟨by decide +kernel, by decide +kernel, by decide +kernel⟩, Nat.le_of_ble_eq_true rfl, lw_mem 385 (by decide +kernel) (by decide +kernel), lw_mem 51 (by decide +kernel) (by decide +kernel), Or.inl (lw_mem 382 (by decide +kernel) (by decide +kernel))⟩, ⟨TX2, 9, rfl⟩, lw_mem 383 (by decide +kernel) (by decide +kernel), lw_mem 384 (by decide +kernel) (by decide +kernel)⟩
theorem mX5_114 : MthV RX5 114 yX2_least 2 cX2_least 1 (some .int) 0 := ⟨⟨⟨by decide +kernel, by decide +kernel, by decide +kernel⟩, Nat.le_of_ble_eq_true rfl, lw_mem 389 (by decide +kernel) (by decide +kernel), lw_mem 51 (by decide +kernel) (by decide +kernel), Or.inl (lw_mem 386 (by decide +kernel) (by decide +kernel))⟩, ⟨TX2, 9, rfl⟩, lw_mem 387 (by decide +kernel) (by decide +kernel), lw_mem 388 (by decide +kernel) (by decide +kernel)⟩
theorem mX2_66 : MthS RX2 66 yX2_leastFrom cX2_leastFrom 4 (some .int) 3 := ⟨⟨⟨by decide +kernel, by decide +kernel, by decide +kernel⟩, Nat.le_of_ble_eq_true rfl, lw_mem 392 (by decide +kernel) (by decide +kernel), lw_mem 51 (by decide +kernel) (by decide +kernel), Or.inl (lw_mem 390 (by decide +kernel) (by decide +kernel))⟩, lw_mem 391 (by decide +kernel) (by decide +kernel)⟩
theorem kX2_70 : Cond.constant RX2 70 (nI 1000000) ∈ lw_w := lw_mem 393 (by decide +kernel) (by decide +kernel)
theorem mX5_117 : MthV RX5 117 yX2_share 2 cX2_share 3 (some .int) 0 := ⟨⟨⟨by decide +kernel, by decide +kernel, by decide +kernel⟩, Nat.le_of_ble_eq_true rfl, lw_mem 397 (by decide +kernel) (by decide +kernel), lw_mem 51 (by decide +kernel) (by decide +kernel), Or.inl (lw_mem 394 (by decide +kernel) (by decide +kernel))⟩, ⟨TX2, 9, rfl⟩, lw_mem 395 (by decide +kernel) (by decide +kernel), lw_mem 396 (by decide +kernel) (by decide +kernel)⟩
theorem mX2_71 : MthV RX2 71 yX2_havers 2 cX2_havers 4 (some .int) 1 := ⟨⟨⟨by decide +kernel, by decide +kernel, by decide +kernel⟩, Nat.le_of_ble_eq_true rfl, lw_mem 401 (by decide +kernel) (by decide +kernel), lw_mem 51 (by decide +kernel) (by decide +kernel), Or.inl (lw_mem 398 (by decide +kernel) (by decide +kernel))⟩, ⟨TX2, 9, rfl⟩, lw_mem 400 (by decide +kernel) (by decide +kernel), lw_mem 5 (by decide +kernel) (by decide +kernel)⟩
theorem mL_49 : MthV RL 49 yX5_told 5 cX5_told 3 (some .int) 2 := ⟨⟨⟨by decide +kernel, by decide +kernel, by decide +kernel⟩, Nat.le_of_ble_eq_true rfl, lw_mem 408 (by decide +kernel) (by decide +kernel), lw_mem 49 (by decide +kernel) (by decide +kernel), Or.inl (lw_mem 405 (by decide +kernel) (by decide +kernel))⟩, ⟨TX5, 6, rfl⟩, lw_mem 406 (by decide +kernel) (by decide +kernel), lw_mem 407 (by decide +kernel) (by decide +kernel)⟩
theorem mX5_123 : MthV RX5 123 yX2_isSet 2 cX2_isSet 2 (some .boolean) 1 := ⟨⟨⟨by decide +kernel, by decide +kernel, by decide +kernel⟩, Nat.le_of_ble_eq_true rfl, lw_mem 412 (by decide +kernel) (by decide +kernel), lw_mem 51 (by decide +kernel) (by decide +kernel), Or.inl (lw_mem 409 (by decide +kernel) (by decide +kernel))⟩, ⟨TX2, 9, rfl⟩, lw_mem 410 (by decide +kernel) (by decide +kernel), lw_mem 411 (by decide +kernel) (by decide +kernel)⟩
theorem mX2_25 : MthS RX2 25 yX5_isUnder cX5_isUnder 2 (some .boolean) 2 := ⟨⟨⟨by decide +kernel, by decide +kernel, by decide +kernel⟩, Nat.le_of_ble_eq_true rfl, lw_mem 265 (by decide +kernel) (by decide +kernel), lw_mem 49 (by decide +kernel) (by decide +kernel), Or.inr ⟨"BuyAsAsked", lw_mem 413 (by decide +kernel) (by decide +kernel)⟩⟩, lw_mem 264 (by decide +kernel) (by decide +kernel)⟩
theorem mX5_133 : MthV RX5 133 yX2_filled 2 cX2_filled 2 (some .int) 1 := ⟨⟨⟨by decide +kernel, by decide +kernel, by decide +kernel⟩, Nat.le_of_ble_eq_true rfl, lw_mem 354 (by decide +kernel) (by decide +kernel), lw_mem 51 (by decide +kernel) (by decide +kernel), Or.inl (lw_mem 414 (by decide +kernel) (by decide +kernel))⟩, ⟨TX2, 9, rfl⟩, lw_mem 352 (by decide +kernel) (by decide +kernel), lw_mem 353 (by decide +kernel) (by decide +kernel)⟩
theorem mX5_136 : MthV RX5 136 yX2_isBought 2 cX2_isBought 2 (some .boolean) 1 := ⟨⟨⟨by decide +kernel, by decide +kernel, by decide +kernel⟩, Nat.le_of_ble_eq_true rfl, lw_mem 418 (by decide +kernel) (by decide +kernel), lw_mem 51 (by decide +kernel) (by decide +kernel), Or.inl (lw_mem 415 (by decide +kernel) (by decide +kernel))⟩, ⟨TX2, 9, rfl⟩, lw_mem 416 (by decide +kernel) (by decide +kernel), lw_mem 417 (by decide +kernel) (by decide +kernel)⟩
theorem mL_53 : MthV RL 53 yX5_price 5 cX5_price 2 (some .int) 1 := ⟨⟨⟨by decide +kernel, by decide +kernel, by decide +kernel⟩, Nat.le_of_ble_eq_true rfl, lw_mem 422 (by decide +kernel) (by decide +kernel), lw_mem 49 (by decide +kernel) (by decide +kernel), Or.inl (lw_mem 419 (by decide +kernel) (by decide +kernel))⟩, ⟨TX5, 6, rfl⟩, lw_mem 420 (by decide +kernel) (by decide +kernel), lw_mem 421 (by decide +kernel) (by decide +kernel)⟩
theorem mL_57 : MthV RL 57 yX5_lease 5 cX5_lease 3 (some .int) 2 := ⟨⟨⟨by decide +kernel, by decide +kernel, by decide +kernel⟩, Nat.le_of_ble_eq_true rfl, lw_mem 426 (by decide +kernel) (by decide +kernel), lw_mem 49 (by decide +kernel) (by decide +kernel), Or.inl (lw_mem 423 (by decide +kernel) (by decide +kernel))⟩, ⟨TX5, 6, rfl⟩, lw_mem 424 (by decide +kernel) (by decide +kernel), lw_mem 425 (by decide +kernel) (by decide +kernel)⟩
theorem mX5_145 : MthV RX5 145 yX1_isNextLength 1 cX1_isNextLength 3 (some .boolean) 1 := ⟨⟨⟨by decide +kernel, by decide +kernel, by decide +kernel⟩, Nat.le_of_ble_eq_true rfl, lw_mem 430 (by decide +kernel) (by decide +kernel), lw_mem 52 (by decide +kernel) (by decide +kernel), Or.inl (lw_mem 427 (by decide +kernel) (by decide +kernel))⟩, ⟨TX1, 11, rfl⟩, lw_mem 428 (by decide +kernel) (by decide +kernel), lw_mem 429 (by decide +kernel) (by decide +kernel)⟩
theorem mX1_38 : MthS RX1 38 yX1_isMultiple cX1_isMultiple 2 (some .boolean) 2 := ⟨⟨⟨by decide +kernel, by decide +kernel, by decide +kernel⟩, Nat.le_of_ble_eq_true rfl, lw_mem 433 (by decide +kernel) (by decide +kernel), lw_mem 52 (by decide +kernel) (by decide +kernel), Or.inl (lw_mem 431 (by decide +kernel) (by decide +kernel))⟩, lw_mem 432 (by decide +kernel) (by decide +kernel)⟩
theorem mX5_149 : MthV RX5 149 yX1_add 1 cX1_add 3 (some .int) 2 := ⟨⟨⟨by decide +kernel, by decide +kernel, by decide +kernel⟩, Nat.le_of_ble_eq_true rfl, lw_mem 437 (by decide +kernel) (by decide +kernel), lw_mem 52 (by decide +kernel) (by decide +kernel), Or.inl (lw_mem 434 (by decide +kernel) (by decide +kernel))⟩, ⟨TX1, 11, rfl⟩, lw_mem 435 (by decide +kernel) (by decide +kernel), lw_mem 436 (by decide +kernel) (by decide +kernel)⟩
theorem mL_61 : MthV RL 61 yX5_day 5 cX5_day 2 (some .int) 1 := ⟨⟨⟨by decide +kernel, by decide +kernel, by decide +kernel⟩, Nat.le_of_ble_eq_true rfl, lw_mem 441 (by decide +kernel) (by decide +kernel), lw_mem 49 (by decide +kernel) (by decide +kernel), Or.inl (lw_mem 438 (by decide +kernel) (by decide +kernel))⟩, ⟨TX5, 6, rfl⟩, lw_mem 439 (by decide +kernel) (by decide +kernel), lw_mem 440 (by decide +kernel) (by decide +kernel)⟩
theorem mX5_153 : MthV RX5 153 yX1_meet 1 cX1_meet 3 (some .int) 1 := ⟨⟨⟨by decide +kernel, by decide +kernel, by decide +kernel⟩, Nat.le_of_ble_eq_true rfl, lw_mem 445 (by decide +kernel) (by decide +kernel), lw_mem 52 (by decide +kernel) (by decide +kernel), Or.inl (lw_mem 442 (by decide +kernel) (by decide +kernel))⟩, ⟨TX1, 11, rfl⟩, lw_mem 443 (by decide +kernel) (by decide +kernel), lw_mem 444 (by decide +kernel) (by decide +kernel)⟩
theorem mX1_45 : MthV RX1 45 yX1_isMet 1 cX1_isMet 3 (some .boolean) 1 := ⟨⟨⟨by decide +kernel, by decide +kernel, by decide +kernel⟩, Nat.le_of_ble_eq_true rfl, lw_mem 449 (by decide +kernel) (by decide +kernel), lw_mem 52 (by decide +kernel) (by decide +kernel), Or.inl (lw_mem 446 (by decide +kernel) (by decide +kernel))⟩, ⟨TX1, 11, rfl⟩, lw_mem 447 (by decide +kernel) (by decide +kernel), lw_mem 448 (by decide +kernel) (by decide +kernel)⟩
theorem mX1_59 : MthV RX1 59 yX1_start 1 cX1_start 4 (some .int) 2 := ⟨⟨⟨by decide +kernel, by decide +kernel, by decide +kernel⟩, Nat.le_of_ble_eq_true rfl, lw_mem 453 (by decide +kernel) (by decide +kernel), lw_mem 52 (by decide +kernel) (by decide +kernel), Or.inl (lw_mem 450 (by decide +kernel) (by decide +kernel))⟩, ⟨TX1, 11, rfl⟩, lw_mem 452 (by decide +kernel) (by decide +kernel), lw_mem 6 (by decide +kernel) (by decide +kernel)⟩
theorem mX1_63 : MthS RX1 63 yX5_holds cX5_holds 2 (some .boolean) 2 := ⟨⟨⟨by decide +kernel, by decide +kernel, by decide +kernel⟩, Nat.le_of_ble_eq_true rfl, lw_mem 342 (by decide +kernel) (by decide +kernel), lw_mem 49 (by decide +kernel) (by decide +kernel), Or.inr ⟨"BuyAsAsked", lw_mem 454 (by decide +kernel) (by decide +kernel)⟩⟩, lw_mem 341 (by decide +kernel) (by decide +kernel)⟩
theorem mX1_49 : MthV RX1 49 yX1_leastGap 1 cX1_leastGap 4 (some .int) 1 := ⟨⟨⟨by decide +kernel, by decide +kernel, by decide +kernel⟩, Nat.le_of_ble_eq_true rfl, lw_mem 458 (by decide +kernel) (by decide +kernel), lw_mem 52 (by decide +kernel) (by decide +kernel), Or.inl (lw_mem 455 (by decide +kernel) (by decide +kernel))⟩, ⟨TX1, 11, rfl⟩, lw_mem 457 (by decide +kernel) (by decide +kernel), lw_mem 7 (by decide +kernel) (by decide +kernel)⟩
theorem mX1_66 : MthV RX1 66 yX1_filled 1 cX1_filled 4 (some .int) 2 := ⟨⟨⟨by decide +kernel, by decide +kernel, by decide +kernel⟩, Nat.le_of_ble_eq_true rfl, lw_mem 462 (by decide +kernel) (by decide +kernel), lw_mem 52 (by decide +kernel) (by decide +kernel), Or.inl (lw_mem 459 (by decide +kernel) (by decide +kernel))⟩, ⟨TX1, 11, rfl⟩, lw_mem 461 (by decide +kernel) (by decide +kernel), lw_mem 8 (by decide +kernel) (by decide +kernel)⟩
theorem mX1_77 : MthV RX1 77 yX1_pricesOf 1 cX1_pricesOf 5 (some .int) 2 := ⟨⟨⟨by decide +kernel, by decide +kernel, by decide +kernel⟩, Nat.le_of_ble_eq_true rfl, lw_mem 466 (by decide +kernel) (by decide +kernel), lw_mem 52 (by decide +kernel) (by decide +kernel), Or.inl (lw_mem 463 (by decide +kernel) (by decide +kernel))⟩, ⟨TX1, 11, rfl⟩, lw_mem 464 (by decide +kernel) (by decide +kernel), lw_mem 465 (by decide +kernel) (by decide +kernel)⟩
theorem mX1_53 : MthV RX1 53 yX1_buyTight 1 cX1_buyTight 4 (some .int) 1 := ⟨⟨⟨by decide +kernel, by decide +kernel, by decide +kernel⟩, Nat.le_of_ble_eq_true rfl, lw_mem 471 (by decide +kernel) (by decide +kernel), lw_mem 52 (by decide +kernel) (by decide +kernel), Or.inl (lw_mem 468 (by decide +kernel) (by decide +kernel))⟩, ⟨TX1, 11, rfl⟩, lw_mem 470 (by decide +kernel) (by decide +kernel), lw_mem 9 (by decide +kernel) (by decide +kernel)⟩
theorem mL_65 : MthV RL 65 yX5_leases 5 cX5_leases 2 (some .int) 1 := ⟨⟨⟨by decide +kernel, by decide +kernel, by decide +kernel⟩, Nat.le_of_ble_eq_true rfl, lw_mem 475 (by decide +kernel) (by decide +kernel), lw_mem 49 (by decide +kernel) (by decide +kernel), Or.inl (lw_mem 472 (by decide +kernel) (by decide +kernel))⟩, ⟨TX5, 6, rfl⟩, lw_mem 473 (by decide +kernel) (by decide +kernel), lw_mem 474 (by decide +kernel) (by decide +kernel)⟩
theorem mX5_155 : MthV RX5 155 yX1_pricesOf 1 cX1_pricesOf 5 (some .int) 2 := ⟨⟨⟨by decide +kernel, by decide +kernel, by decide +kernel⟩, Nat.le_of_ble_eq_true rfl, lw_mem 466 (by decide +kernel) (by decide +kernel), lw_mem 52 (by decide +kernel) (by decide +kernel), Or.inl (lw_mem 476 (by decide +kernel) (by decide +kernel))⟩, ⟨TX1, 11, rfl⟩, lw_mem 464 (by decide +kernel) (by decide +kernel), lw_mem 465 (by decide +kernel) (by decide +kernel)⟩
theorem mX5_158 : MthV RX5 158 yX1_least 1 cX1_least 2 (some .int) 0 := ⟨⟨⟨by decide +kernel, by decide +kernel, by decide +kernel⟩, Nat.le_of_ble_eq_true rfl, lw_mem 480 (by decide +kernel) (by decide +kernel), lw_mem 52 (by decide +kernel) (by decide +kernel), Or.inl (lw_mem 477 (by decide +kernel) (by decide +kernel))⟩, ⟨TX1, 11, rfl⟩, lw_mem 478 (by decide +kernel) (by decide +kernel), lw_mem 479 (by decide +kernel) (by decide +kernel)⟩
theorem kX1_80 : Cond.constant RX1 80 (nI 1000000) ∈ lw_w := lw_mem 481 (by decide +kernel) (by decide +kernel)
theorem mX1_81 : MthV RX1 81 yX1_closeSpans 1 cX1_closeSpans 3 none 1 := ⟨⟨⟨by decide +kernel, by decide +kernel, by decide +kernel⟩, Nat.le_of_ble_eq_true rfl, lw_mem 485 (by decide +kernel) (by decide +kernel), lw_mem 52 (by decide +kernel) (by decide +kernel), Or.inl (lw_mem 482 (by decide +kernel) (by decide +kernel))⟩, ⟨TX1, 11, rfl⟩, lw_mem 484 (by decide +kernel) (by decide +kernel), lw_mem 10 (by decide +kernel) (by decide +kernel)⟩
theorem mL_69 : MthV RL 69 yX5_covered 5 cX5_covered 2 (some .int) 1 := ⟨⟨⟨by decide +kernel, by decide +kernel, by decide +kernel⟩, Nat.le_of_ble_eq_true rfl, lw_mem 489 (by decide +kernel) (by decide +kernel), lw_mem 49 (by decide +kernel) (by decide +kernel), Or.inl (lw_mem 486 (by decide +kernel) (by decide +kernel))⟩, ⟨TX5, 6, rfl⟩, lw_mem 487 (by decide +kernel) (by decide +kernel), lw_mem 488 (by decide +kernel) (by decide +kernel)⟩
theorem mX5_162 : MthV RX5 162 yX1_isMet 1 cX1_isMet 3 (some .boolean) 1 := ⟨⟨⟨by decide +kernel, by decide +kernel, by decide +kernel⟩, Nat.le_of_ble_eq_true rfl, lw_mem 449 (by decide +kernel) (by decide +kernel), lw_mem 52 (by decide +kernel) (by decide +kernel), Or.inl (lw_mem 490 (by decide +kernel) (by decide +kernel))⟩, ⟨TX1, 11, rfl⟩, lw_mem 447 (by decide +kernel) (by decide +kernel), lw_mem 448 (by decide +kernel) (by decide +kernel)⟩
theorem mL_73 : MthV RL 73 yX5_site 5 cX5_site 1 (some .int) 0 := ⟨⟨⟨by decide +kernel, by decide +kernel, by decide +kernel⟩, Nat.le_of_ble_eq_true rfl, lw_mem 494 (by decide +kernel) (by decide +kernel), lw_mem 49 (by decide +kernel) (by decide +kernel), Or.inl (lw_mem 491 (by decide +kernel) (by decide +kernel))⟩, ⟨TX5, 6, rfl⟩, lw_mem 492 (by decide +kernel) (by decide +kernel), lw_mem 493 (by decide +kernel) (by decide +kernel)⟩
theorem mX5_166 : MthV RX5 166 yX4_add 4 cX4_add 1 (some .int) 0 := ⟨⟨⟨by decide +kernel, by decide +kernel, by decide +kernel⟩, Nat.le_of_ble_eq_true rfl, lw_mem 498 (by decide +kernel) (by decide +kernel), lw_mem 53 (by decide +kernel) (by decide +kernel), Or.inl (lw_mem 495 (by decide +kernel) (by decide +kernel))⟩, ⟨TX4, 12, rfl⟩, lw_mem 496 (by decide +kernel) (by decide +kernel), lw_mem 497 (by decide +kernel) (by decide +kernel)⟩
theorem mL_78 : MthV RL 78 yX5_way 5 cX5_way 4 (some .int) 3 := ⟨⟨⟨by decide +kernel, by decide +kernel, by decide +kernel⟩, Nat.le_of_ble_eq_true rfl, lw_mem 502 (by decide +kernel) (by decide +kernel), lw_mem 49 (by decide +kernel) (by decide +kernel), Or.inl (lw_mem 499 (by decide +kernel) (by decide +kernel))⟩, ⟨TX5, 6, rfl⟩, lw_mem 500 (by decide +kernel) (by decide +kernel), lw_mem 501 (by decide +kernel) (by decide +kernel)⟩
theorem mX5_168 : MthV RX5 168 yX4_isSite 4 cX4_isSite 2 (some .boolean) 1 := ⟨⟨⟨by decide +kernel, by decide +kernel, by decide +kernel⟩, Nat.le_of_ble_eq_true rfl, lw_mem 506 (by decide +kernel) (by decide +kernel), lw_mem 53 (by decide +kernel) (by decide +kernel), Or.inl (lw_mem 503 (by decide +kernel) (by decide +kernel))⟩, ⟨TX4, 12, rfl⟩, lw_mem 504 (by decide +kernel) (by decide +kernel), lw_mem 505 (by decide +kernel) (by decide +kernel)⟩
theorem mX4_33 : MthS RX4 33 yX5_isUnder cX5_isUnder 2 (some .boolean) 2 := ⟨⟨⟨by decide +kernel, by decide +kernel, by decide +kernel⟩, Nat.le_of_ble_eq_true rfl, lw_mem 265 (by decide +kernel) (by decide +kernel), lw_mem 49 (by decide +kernel) (by decide +kernel), Or.inr ⟨"BuyAsAsked", lw_mem 507 (by decide +kernel) (by decide +kernel)⟩⟩, lw_mem 264 (by decide +kernel) (by decide +kernel)⟩
theorem mX5_171 : MthV RX5 171 yX4_isWayBought 4 cX4_isWayBought 3 (some .boolean) 2 := ⟨⟨⟨by decide +kernel, by decide +kernel, by decide +kernel⟩, Nat.le_of_ble_eq_true rfl, lw_mem 511 (by decide +kernel) (by decide +kernel), lw_mem 53 (by decide +kernel) (by decide +kernel), Or.inl (lw_mem 508 (by decide +kernel) (by decide +kernel))⟩, ⟨TX4, 12, rfl⟩, lw_mem 509 (by decide +kernel) (by decide +kernel), lw_mem 510 (by decide +kernel) (by decide +kernel)⟩
theorem mX4_37 : MthS RX4 37 yX5_holds cX5_holds 2 (some .boolean) 2 := ⟨⟨⟨by decide +kernel, by decide +kernel, by decide +kernel⟩, Nat.le_of_ble_eq_true rfl, lw_mem 342 (by decide +kernel) (by decide +kernel), lw_mem 49 (by decide +kernel) (by decide +kernel), Or.inr ⟨"BuyAsAsked", lw_mem 512 (by decide +kernel) (by decide +kernel)⟩⟩, lw_mem 341 (by decide +kernel) (by decide +kernel)⟩
theorem mX5_174 : MthV RX5 174 yX4_lay 4 cX4_lay 5 (some .int) 3 := ⟨⟨⟨by decide +kernel, by decide +kernel, by decide +kernel⟩, Nat.le_of_ble_eq_true rfl, lw_mem 516 (by decide +kernel) (by decide +kernel), lw_mem 53 (by decide +kernel) (by decide +kernel), Or.inl (lw_mem 513 (by decide +kernel) (by decide +kernel))⟩, ⟨TX4, 12, rfl⟩, lw_mem 514 (by decide +kernel) (by decide +kernel), lw_mem 515 (by decide +kernel) (by decide +kernel)⟩
theorem mL_82 : MthV RL 82 yX5_call 5 cX5_call 2 (some .int) 1 := ⟨⟨⟨by decide +kernel, by decide +kernel, by decide +kernel⟩, Nat.le_of_ble_eq_true rfl, lw_mem 520 (by decide +kernel) (by decide +kernel), lw_mem 49 (by decide +kernel) (by decide +kernel), Or.inl (lw_mem 517 (by decide +kernel) (by decide +kernel))⟩, ⟨TX5, 6, rfl⟩, lw_mem 518 (by decide +kernel) (by decide +kernel), lw_mem 519 (by decide +kernel) (by decide +kernel)⟩
theorem mX5_178 : MthS RX5 178 yX5_holds cX5_holds 2 (some .boolean) 2 := ⟨⟨⟨by decide +kernel, by decide +kernel, by decide +kernel⟩, Nat.le_of_ble_eq_true rfl, lw_mem 342 (by decide +kernel) (by decide +kernel), lw_mem 49 (by decide +kernel) (by decide +kernel), Or.inl (lw_mem 521 (by decide +kernel) (by decide +kernel))⟩, lw_mem 341 (by decide +kernel) (by decide +kernel)⟩
theorem mX5_181 : MthV RX5 181 yX4_join 4 cX4_join 3 (some .int) 1 := ⟨⟨⟨by decide +kernel, by decide +kernel, by decide +kernel⟩, Nat.le_of_ble_eq_true rfl, lw_mem 525 (by decide +kernel) (by decide +kernel), lw_mem 53 (by decide +kernel) (by decide +kernel), Or.inl (lw_mem 522 (by decide +kernel) (by decide +kernel))⟩, ⟨TX4, 12, rfl⟩, lw_mem 523 (by decide +kernel) (by decide +kernel), lw_mem 524 (by decide +kernel) (by decide +kernel)⟩
theorem mX4_52 : MthV RX4 52 yX4_weighRows 4 cX4_weighRows 3 none 0 := ⟨⟨⟨by decide +kernel, by decide +kernel, by decide +kernel⟩, Nat.le_of_ble_eq_true rfl, lw_mem 529 (by decide +kernel) (by decide +kernel), lw_mem 53 (by decide +kernel) (by decide +kernel), Or.inl (lw_mem 526 (by decide +kernel) (by decide +kernel))⟩, ⟨TX4, 12, rfl⟩, lw_mem 528 (by decide +kernel) (by decide +kernel), lw_mem 11 (by decide +kernel) (by decide +kernel)⟩
theorem kX4_55 : Cond.constant RX4 55 (nI 1000000) ∈ lw_w := lw_mem 530 (by decide +kernel) (by decide +kernel)
theorem mX4_64 : MthV RX4 64 yX4_leastWeight 4 cX4_leastWeight 4 (some .int) 1 := ⟨⟨⟨by decide +kernel, by decide +kernel, by decide +kernel⟩, Nat.le_of_ble_eq_true rfl, lw_mem 534 (by decide +kernel) (by decide +kernel), lw_mem 53 (by decide +kernel) (by decide +kernel), Or.inl (lw_mem 531 (by decide +kernel) (by decide +kernel))⟩, ⟨TX4, 12, rfl⟩, lw_mem 533 (by decide +kernel) (by decide +kernel), lw_mem 12 (by decide +kernel) (by decide +kernel)⟩
theorem mX4_67 : MthV RX4 67 yX4_weightOf 4 cX4_weightOf 3 (some .int) 2 := ⟨⟨⟨by decide +kernel, by decide +kernel, by decide +kernel⟩, Nat.le_of_ble_eq_true rfl, lw_mem 538 (by decide +kernel) (by decide +kernel), lw_mem 53 (by decide +kernel) (by decide +kernel), Or.inl (lw_mem 535 (by decide +kernel) (by decide +kernel))⟩, ⟨TX4, 12, rfl⟩, lw_mem 537 (by decide +kernel) (by decide +kernel), lw_mem 13 (by decide +kernel) (by decide +kernel)⟩
theorem kX4_56 : Cond.constant RX4 56 (-1000000) ∈ lw_w := lw_mem 540 (by decide +kernel) (by decide +kernel)
theorem mX4_57 : MthV RX4 57 yX4_buyRow 4 cX4_buyRow 6 (some .int) 1 := ⟨⟨⟨by decide +kernel, by decide +kernel, by decide +kernel⟩, Nat.le_of_ble_eq_true rfl, lw_mem 544 (by decide +kernel) (by decide +kernel), lw_mem 53 (by decide +kernel) (by decide +kernel), Or.inl (lw_mem 541 (by decide +kernel) (by decide +kernel))⟩, ⟨TX4, 12, rfl⟩, lw_mem 543 (by decide +kernel) (by decide +kernel), lw_mem 14 (by decide +kernel) (by decide +kernel)⟩
theorem mX4_76 : MthV RX4 76 yX4_nextOnRow 4 cX4_nextOnRow 3 (some .int) 1 := ⟨⟨⟨by decide +kernel, by decide +kernel, by decide +kernel⟩, Nat.le_of_ble_eq_true rfl, lw_mem 548 (by decide +kernel) (by decide +kernel), lw_mem 53 (by decide +kernel) (by decide +kernel), Or.inl (lw_mem 545 (by decide +kernel) (by decide +kernel))⟩, ⟨TX4, 12, rfl⟩, lw_mem 547 (by decide +kernel) (by decide +kernel), lw_mem 15 (by decide +kernel) (by decide +kernel)⟩
theorem mX4_79 : MthV RX4 79 yX4_buyWay 4 cX4_buyWay 3 none 2 := ⟨⟨⟨by decide +kernel, by decide +kernel, by decide +kernel⟩, Nat.le_of_ble_eq_true rfl, lw_mem 552 (by decide +kernel) (by decide +kernel), lw_mem 53 (by decide +kernel) (by decide +kernel), Or.inl (lw_mem 549 (by decide +kernel) (by decide +kernel))⟩, ⟨TX4, 12, rfl⟩, lw_mem 551 (by decide +kernel) (by decide +kernel), lw_mem 16 (by decide +kernel) (by decide +kernel)⟩
theorem mL_86 : MthV RL 86 yX5_joins 5 cX5_joins 2 (some .int) 1 := ⟨⟨⟨by decide +kernel, by decide +kernel, by decide +kernel⟩, Nat.le_of_ble_eq_true rfl, lw_mem 556 (by decide +kernel) (by decide +kernel), lw_mem 49 (by decide +kernel) (by decide +kernel), Or.inl (lw_mem 553 (by decide +kernel) (by decide +kernel))⟩, ⟨TX5, 6, rfl⟩, lw_mem 554 (by decide +kernel) (by decide +kernel), lw_mem 555 (by decide +kernel) (by decide +kernel)⟩
theorem mX5_185 : MthV RX5 185 yX4_least 4 cX4_least 4 (some .int) 0 := ⟨⟨⟨by decide +kernel, by decide +kernel, by decide +kernel⟩, Nat.le_of_ble_eq_true rfl, lw_mem 560 (by decide +kernel) (by decide +kernel), lw_mem 53 (by decide +kernel) (by decide +kernel), Or.inl (lw_mem 557 (by decide +kernel) (by decide +kernel))⟩, ⟨TX4, 12, rfl⟩, lw_mem 558 (by decide +kernel) (by decide +kernel), lw_mem 559 (by decide +kernel) (by decide +kernel)⟩
theorem mX4_86 : MthS RX4 86 yJ6_bitCount_0f7a4 cJ6_bitCount_0f7a4 1 (some .int) 1 := ⟨⟨⟨by decide +kernel, by decide +kernel, by decide +kernel⟩, Nat.le_of_ble_eq_true rfl, lw_mem 563 (by decide +kernel) (by decide +kernel), lw_mem 58 (by decide +kernel) (by decide +kernel), Or.inl (lw_mem 561 (by decide +kernel) (by decide +kernel))⟩, lw_mem 562 (by decide +kernel) (by decide +kernel)⟩
theorem kJ6_265 : Cond.constant RJ6 265 (nI 1431655765) ∈ lw_w := lw_mem 564 (by decide +kernel) (by decide +kernel)
theorem kJ6_266 : Cond.constant RJ6 266 (nI 858993459) ∈ lw_w := lw_mem 565 (by decide +kernel) (by decide +kernel)
theorem kJ6_267 : Cond.constant RJ6 267 (nI 252645135) ∈ lw_w := lw_mem 566 (by decide +kernel) (by decide +kernel)
theorem mX4_91 : MthV RX4 91 yX4_findNearest 4 cX4_findNearest 3 none 0 := ⟨⟨⟨by decide +kernel, by decide +kernel, by decide +kernel⟩, Nat.le_of_ble_eq_true rfl, lw_mem 570 (by decide +kernel) (by decide +kernel), lw_mem 53 (by decide +kernel) (by decide +kernel), Or.inl (lw_mem 567 (by decide +kernel) (by decide +kernel))⟩, ⟨TX4, 12, rfl⟩, lw_mem 569 (by decide +kernel) (by decide +kernel), lw_mem 17 (by decide +kernel) (by decide +kernel)⟩
theorem mX4_97 : MthV RX4 97 yX4_shorten 4 cX4_shorten 5 none 3 := ⟨⟨⟨by decide +kernel, by decide +kernel, by decide +kernel⟩, Nat.le_of_ble_eq_true rfl, lw_mem 574 (by decide +kernel) (by decide +kernel), lw_mem 53 (by decide +kernel) (by decide +kernel), Or.inl (lw_mem 571 (by decide +kernel) (by decide +kernel))⟩, ⟨TX4, 12, rfl⟩, lw_mem 573 (by decide +kernel) (by decide +kernel), lw_mem 18 (by decide +kernel) (by decide +kernel)⟩
theorem mX4_94 : MthV RX4 94 yX4_treeOf 4 cX4_treeOf 6 (some .int) 1 := ⟨⟨⟨by decide +kernel, by decide +kernel, by decide +kernel⟩, Nat.le_of_ble_eq_true rfl, lw_mem 578 (by decide +kernel) (by decide +kernel), lw_mem 53 (by decide +kernel) (by decide +kernel), Or.inl (lw_mem 575 (by decide +kernel) (by decide +kernel))⟩, ⟨TX4, 12, rfl⟩, lw_mem 577 (by decide +kernel) (by decide +kernel), lw_mem 19 (by decide +kernel) (by decide +kernel)⟩
theorem mX4_101 : MthV RX4 101 yX4_nearestOf 4 cX4_nearestOf 5 (some .int) 1 := ⟨⟨⟨by decide +kernel, by decide +kernel, by decide +kernel⟩, Nat.le_of_ble_eq_true rfl, lw_mem 582 (by decide +kernel) (by decide +kernel), lw_mem 53 (by decide +kernel) (by decide +kernel), Or.inl (lw_mem 579 (by decide +kernel) (by decide +kernel))⟩, ⟨TX4, 12, rfl⟩, lw_mem 581 (by decide +kernel) (by decide +kernel), lw_mem 20 (by decide +kernel) (by decide +kernel)⟩
theorem kX4_104 : Cond.constant RX4 104 (nI 1000001) ∈ lw_w := lw_mem 583 (by decide +kernel) (by decide +kernel)
theorem mL_90 : MthV RL 90 yX5_kind 5 cX5_kind 2 (some .int) 1 := ⟨⟨⟨by decide +kernel, by decide +kernel, by decide +kernel⟩, Nat.le_of_ble_eq_true rfl, lw_mem 587 (by decide +kernel) (by decide +kernel), lw_mem 49 (by decide +kernel) (by decide +kernel), Or.inl (lw_mem 584 (by decide +kernel) (by decide +kernel))⟩, ⟨TX5, 6, rfl⟩, lw_mem 585 (by decide +kernel) (by decide +kernel), lw_mem 586 (by decide +kernel) (by decide +kernel)⟩
theorem mX5_192 : MthV RX5 192 yX2_kindOf 2 cX2_kindOf 2 (some .int) 1 := ⟨⟨⟨by decide +kernel, by decide +kernel, by decide +kernel⟩, Nat.le_of_ble_eq_true rfl, lw_mem 591 (by decide +kernel) (by decide +kernel), lw_mem 51 (by decide +kernel) (by decide +kernel), Or.inl (lw_mem 588 (by decide +kernel) (by decide +kernel))⟩, ⟨TX2, 9, rfl⟩, lw_mem 589 (by decide +kernel) (by decide +kernel), lw_mem 590 (by decide +kernel) (by decide +kernel)⟩
theorem mX2_77 : MthV RX2 77 yX2_isBought 2 cX2_isBought 2 (some .boolean) 1 := ⟨⟨⟨by decide +kernel, by decide +kernel, by decide +kernel⟩, Nat.le_of_ble_eq_true rfl, lw_mem 418 (by decide +kernel) (by decide +kernel), lw_mem 51 (by decide +kernel) (by decide +kernel), Or.inl (lw_mem 592 (by decide +kernel) (by decide +kernel))⟩, ⟨TX2, 9, rfl⟩, lw_mem 416 (by decide +kernel) (by decide +kernel), lw_mem 417 (by decide +kernel) (by decide +kernel)⟩
theorem mL_94 : MthV RL 94 yX5_as 5 cX5_as 3 (some .int) 2 := ⟨⟨⟨by decide +kernel, by decide +kernel, by decide +kernel⟩, Nat.le_of_ble_eq_true rfl, lw_mem 596 (by decide +kernel) (by decide +kernel), lw_mem 49 (by decide +kernel) (by decide +kernel), Or.inl (lw_mem 593 (by decide +kernel) (by decide +kernel))⟩, ⟨TX5, 6, rfl⟩, lw_mem 594 (by decide +kernel) (by decide +kernel), lw_mem 595 (by decide +kernel) (by decide +kernel)⟩
theorem mX5_195 : MthV RX5 195 yX2_isOfKind 2 cX2_isOfKind 4 (some .boolean) 2 := ⟨⟨⟨by decide +kernel, by decide +kernel, by decide +kernel⟩, Nat.le_of_ble_eq_true rfl, lw_mem 600 (by decide +kernel) (by decide +kernel), lw_mem 51 (by decide +kernel) (by decide +kernel), Or.inl (lw_mem 597 (by decide +kernel) (by decide +kernel))⟩, ⟨TX2, 9, rfl⟩, lw_mem 598 (by decide +kernel) (by decide +kernel), lw_mem 599 (by decide +kernel) (by decide +kernel)⟩
theorem mX2_81 : MthV RX2 81 yX2_kindOf 2 cX2_kindOf 2 (some .int) 1 := ⟨⟨⟨by decide +kernel, by decide +kernel, by decide +kernel⟩, Nat.le_of_ble_eq_true rfl, lw_mem 591 (by decide +kernel) (by decide +kernel), lw_mem 51 (by decide +kernel) (by decide +kernel), Or.inl (lw_mem 601 (by decide +kernel) (by decide +kernel))⟩, ⟨TX2, 9, rfl⟩, lw_mem 589 (by decide +kernel) (by decide +kernel), lw_mem 590 (by decide +kernel) (by decide +kernel)⟩
theorem mL_98 : MthV RL 98 yX5_ask 5 cX5_ask 3 (some .int) 2 := ⟨⟨⟨by decide +kernel, by decide +kernel, by decide +kernel⟩, Nat.le_of_ble_eq_true rfl, lw_mem 605 (by decide +kernel) (by decide +kernel), lw_mem 49 (by decide +kernel) (by decide +kernel), Or.inl (lw_mem 602 (by decide +kernel) (by decide +kernel))⟩, ⟨TX5, 6, rfl⟩, lw_mem 603 (by decide +kernel) (by decide +kernel), lw_mem 604 (by decide +kernel) (by decide +kernel)⟩
theorem mX5_198 : MthV RX5 198 yX0_askWorth 0 cX0_askWorth 3 (some .int) 2 := ⟨⟨⟨by decide +kernel, by decide +kernel, by decide +kernel⟩, Nat.le_of_ble_eq_true rfl, lw_mem 609 (by decide +kernel) (by decide +kernel), lw_mem 54 (by decide +kernel) (by decide +kernel), Or.inl (lw_mem 606 (by decide +kernel) (by decide +kernel))⟩, ⟨TX0, 2, rfl⟩, lw_mem 607 (by decide +kernel) (by decide +kernel), lw_mem 608 (by decide +kernel) (by decide +kernel)⟩
theorem mX0_19 : MthV RX0 19 yX2_kindOf 2 cX2_kindOf 2 (some .int) 1 := ⟨⟨⟨by decide +kernel, by decide +kernel, by decide +kernel⟩, Nat.le_of_ble_eq_true rfl, lw_mem 591 (by decide +kernel) (by decide +kernel), lw_mem 51 (by decide +kernel) (by decide +kernel), Or.inl (lw_mem 610 (by decide +kernel) (by decide +kernel))⟩, ⟨TX2, 9, rfl⟩, lw_mem 589 (by decide +kernel) (by decide +kernel), lw_mem 590 (by decide +kernel) (by decide +kernel)⟩
theorem mX0_25 : MthV RX0 25 yX0_worthOfOwn 0 cX0_worthOfOwn 3 (some .int) 2 := ⟨⟨⟨by decide +kernel, by decide +kernel, by decide +kernel⟩, Nat.le_of_ble_eq_true rfl, lw_mem 614 (by decide +kernel) (by decide +kernel), lw_mem 54 (by decide +kernel) (by decide +kernel), Or.inl (lw_mem 611 (by decide +kernel) (by decide +kernel))⟩, ⟨TX0, 2, rfl⟩, lw_mem 613 (by decide +kernel) (by decide +kernel), lw_mem 21 (by decide +kernel) (by decide +kernel)⟩
theorem mX0_44 : MthV RX0 44 yX0_begin 0 cX0_begin 2 none 1 := ⟨⟨⟨by decide +kernel, by decide +kernel, by decide +kernel⟩, Nat.le_of_ble_eq_true rfl, lw_mem 618 (by decide +kernel) (by decide +kernel), lw_mem 54 (by decide +kernel) (by decide +kernel), Or.inl (lw_mem 615 (by decide +kernel) (by decide +kernel))⟩, ⟨TX0, 2, rfl⟩, lw_mem 617 (by decide +kernel) (by decide +kernel), lw_mem 22 (by decide +kernel) (by decide +kernel)⟩
theorem mX0_51 : MthV RX0 51 yX0_worthOfAny 0 cX0_worthOfAny 3 (some .int) 2 := ⟨⟨⟨by decide +kernel, by decide +kernel, by decide +kernel⟩, Nat.le_of_ble_eq_true rfl, lw_mem 622 (by decide +kernel) (by decide +kernel), lw_mem 54 (by decide +kernel) (by decide +kernel), Or.inl (lw_mem 619 (by decide +kernel) (by decide +kernel))⟩, ⟨TX0, 2, rfl⟩, lw_mem 621 (by decide +kernel) (by decide +kernel), lw_mem 23 (by decide +kernel) (by decide +kernel)⟩
theorem mX0_29 : MthV RX0 29 yX0_worthOfNear 0 cX0_worthOfNear 3 (some .int) 2 := ⟨⟨⟨by decide +kernel, by decide +kernel, by decide +kernel⟩, Nat.le_of_ble_eq_true rfl, lw_mem 626 (by decide +kernel) (by decide +kernel), lw_mem 54 (by decide +kernel) (by decide +kernel), Or.inl (lw_mem 623 (by decide +kernel) (by decide +kernel))⟩, ⟨TX0, 2, rfl⟩, lw_mem 625 (by decide +kernel) (by decide +kernel), lw_mem 24 (by decide +kernel) (by decide +kernel)⟩
theorem mX0_32 : MthV RX0 32 yX0_worthOfOpen 0 cX0_worthOfOpen 3 (some .int) 2 := ⟨⟨⟨by decide +kernel, by decide +kernel, by decide +kernel⟩, Nat.le_of_ble_eq_true rfl, lw_mem 630 (by decide +kernel) (by decide +kernel), lw_mem 54 (by decide +kernel) (by decide +kernel), Or.inl (lw_mem 627 (by decide +kernel) (by decide +kernel))⟩, ⟨TX0, 2, rfl⟩, lw_mem 629 (by decide +kernel) (by decide +kernel), lw_mem 25 (by decide +kernel) (by decide +kernel)⟩
theorem mX0_54 : MthV RX0 54 yX2_filled 2 cX2_filled 2 (some .int) 1 := ⟨⟨⟨by decide +kernel, by decide +kernel, by decide +kernel⟩, Nat.le_of_ble_eq_true rfl, lw_mem 354 (by decide +kernel) (by decide +kernel), lw_mem 51 (by decide +kernel) (by decide +kernel), Or.inl (lw_mem 631 (by decide +kernel) (by decide +kernel))⟩, ⟨TX2, 9, rfl⟩, lw_mem 352 (by decide +kernel) (by decide +kernel), lw_mem 353 (by decide +kernel) (by decide +kernel)⟩
theorem mX0_38 : MthV RX0 38 yX0_markOfNear 0 cX0_markOfNear 3 (some .int) 2 := ⟨⟨⟨by decide +kernel, by decide +kernel, by decide +kernel⟩, Nat.le_of_ble_eq_true rfl, lw_mem 635 (by decide +kernel) (by decide +kernel), lw_mem 54 (by decide +kernel) (by decide +kernel), Or.inl (lw_mem 632 (by decide +kernel) (by decide +kernel))⟩, ⟨TX0, 2, rfl⟩, lw_mem 634 (by decide +kernel) (by decide +kernel), lw_mem 26 (by decide +kernel) (by decide +kernel)⟩
theorem mX0_41 : MthV RX0 41 yX0_markOfAny 0 cX0_markOfAny 3 (some .int) 2 := ⟨⟨⟨by decide +kernel, by decide +kernel, by decide +kernel⟩, Nat.le_of_ble_eq_true rfl, lw_mem 639 (by decide +kernel) (by decide +kernel), lw_mem 54 (by decide +kernel) (by decide +kernel), Or.inl (lw_mem 636 (by decide +kernel) (by decide +kernel))⟩, ⟨TX0, 2, rfl⟩, lw_mem 638 (by decide +kernel) (by decide +kernel), lw_mem 27 (by decide +kernel) (by decide +kernel)⟩
theorem mX0_60 : MthS RX0 60 yJ6_bitCount_0f7a4 cJ6_bitCount_0f7a4 1 (some .int) 1 := ⟨⟨⟨by decide +kernel, by decide +kernel, by decide +kernel⟩, Nat.le_of_ble_eq_true rfl, lw_mem 563 (by decide +kernel) (by decide +kernel), lw_mem 58 (by decide +kernel) (by decide +kernel), Or.inl (lw_mem 640 (by decide +kernel) (by decide +kernel))⟩, lw_mem 562 (by decide +kernel) (by decide +kernel)⟩
theorem mX5_202 : MthV RX5 202 yX0_askMark 0 cX0_askMark 3 (some .int) 2 := ⟨⟨⟨by decide +kernel, by decide +kernel, by decide +kernel⟩, Nat.le_of_ble_eq_true rfl, lw_mem 644 (by decide +kernel) (by decide +kernel), lw_mem 54 (by decide +kernel) (by decide +kernel), Or.inl (lw_mem 641 (by decide +kernel) (by decide +kernel))⟩, ⟨TX0, 2, rfl⟩, lw_mem 642 (by decide +kernel) (by decide +kernel), lw_mem 643 (by decide +kernel) (by decide +kernel)⟩
theorem mX0_35 : MthV RX0 35 yX0_markOfOwn 0 cX0_markOfOwn 3 (some .int) 2 := ⟨⟨⟨by decide +kernel, by decide +kernel, by decide +kernel⟩, Nat.le_of_ble_eq_true rfl, lw_mem 648 (by decide +kernel) (by decide +kernel), lw_mem 54 (by decide +kernel) (by decide +kernel), Or.inl (lw_mem 645 (by decide +kernel) (by decide +kernel))⟩, ⟨TX0, 2, rfl⟩, lw_mem 647 (by decide +kernel) (by decide +kernel), lw_mem 28 (by decide +kernel) (by decide +kernel)⟩
theorem mL_102 : MthV RL 102 yX5_trace 5 cX5_trace 2 (some .int) 1 := ⟨⟨⟨by decide +kernel, by decide +kernel, by decide +kernel⟩, Nat.le_of_ble_eq_true rfl, lw_mem 652 (by decide +kernel) (by decide +kernel), lw_mem 49 (by decide +kernel) (by decide +kernel), Or.inl (lw_mem 649 (by decide +kernel) (by decide +kernel))⟩, ⟨TX5, 6, rfl⟩, lw_mem 650 (by decide +kernel) (by decide +kernel), lw_mem 651 (by decide +kernel) (by decide +kernel)⟩
theorem kX5_211 : Cond.constant RX5 211 (-1000000) ∈ lw_w := lw_mem 653 (by decide +kernel) (by decide +kernel)
theorem mL_106 : MthV RL 106 yX5_count 5 cX5_count 2 (some .int) 1 := ⟨⟨⟨by decide +kernel, by decide +kernel, by decide +kernel⟩, Nat.le_of_ble_eq_true rfl, lw_mem 657 (by decide +kernel) (by decide +kernel), lw_mem 49 (by decide +kernel) (by decide +kernel), Or.inl (lw_mem 654 (by decide +kernel) (by decide +kernel))⟩, ⟨TX5, 6, rfl⟩, lw_mem 655 (by decide +kernel) (by decide +kernel), lw_mem 656 (by decide +kernel) (by decide +kernel)⟩
theorem mX5_212 : MthV RX5 212 yX3_present 3 cX3_present 3 (some .int) 0 := ⟨⟨⟨by decide +kernel, by decide +kernel, by decide +kernel⟩, Nat.le_of_ble_eq_true rfl, lw_mem 661 (by decide +kernel) (by decide +kernel), lw_mem 50 (by decide +kernel) (by decide +kernel), Or.inl (lw_mem 658 (by decide +kernel) (by decide +kernel))⟩, ⟨TX3, 3, rfl⟩, lw_mem 659 (by decide +kernel) (by decide +kernel), lw_mem 660 (by decide +kernel) (by decide +kernel)⟩
theorem mX5_215 : MthS RX5 215 yJ6_bitCount_0f7a4 cJ6_bitCount_0f7a4 1 (some .int) 1 := ⟨⟨⟨by decide +kernel, by decide +kernel, by decide +kernel⟩, Nat.le_of_ble_eq_true rfl, lw_mem 563 (by decide +kernel) (by decide +kernel), lw_mem 58 (by decide +kernel) (by decide +kernel), Or.inl (lw_mem 662 (by decide +kernel) (by decide +kernel))⟩, lw_mem 562 (by decide +kernel) (by decide +kernel)⟩
theorem mX5_220 : MthV RX5 220 yX2_nears 2 cX2_nears 3 (some .int) 0 := ⟨⟨⟨by decide +kernel, by decide +kernel, by decide +kernel⟩, Nat.le_of_ble_eq_true rfl, lw_mem 666 (by decide +kernel) (by decide +kernel), lw_mem 51 (by decide +kernel) (by decide +kernel), Or.inl (lw_mem 663 (by decide +kernel) (by decide +kernel))⟩, ⟨TX2, 9, rfl⟩, lw_mem 664 (by decide +kernel) (by decide +kernel), lw_mem 665 (by decide +kernel) (by decide +kernel)⟩
theorem mL_110 : MthV RL 110 yX5_status 5 cX5_status 1 (some .int) 0 := ⟨⟨⟨by decide +kernel, by decide +kernel, by decide +kernel⟩, Nat.le_of_ble_eq_true rfl, lw_mem 670 (by decide +kernel) (by decide +kernel), lw_mem 49 (by decide +kernel) (by decide +kernel), Or.inl (lw_mem 667 (by decide +kernel) (by decide +kernel))⟩, ⟨TX5, 6, rfl⟩, lw_mem 668 (by decide +kernel) (by decide +kernel), lw_mem 669 (by decide +kernel) (by decide +kernel)⟩
theorem fX6_66 : Fld RX6 66 6 0 := ⟨RX6, TX6, 32, rfl, Nat.le_of_ble_eq_true rfl, iuX6, ⟨tyX6, tyX6_ok⟩, nmX6, Or.inl (lw_mem 677 (by decide +kernel) (by decide +kernel))⟩
theorem gi6_0 : Fint 6 0 := fun C T N h => by
  have h2 : (RX6, TX6, 32) = (C, T, N) := Option.some.inj h
  cases h2
  exact ⟨rfl, by decide +kernel⟩
theorem fX6_69 : Fld RX6 69 6 1 := ⟨RX6, TX6, 32, rfl, Nat.le_of_ble_eq_true rfl, iuX6, ⟨tyX6, tyX6_ok⟩, nmX6, Or.inl (lw_mem 678 (by decide +kernel) (by decide +kernel))⟩
theorem gi6_1 : Fint 6 1 := fun C T N h => by
  have h2 : (RX6, TX6, 32) = (C, T, N) := Option.some.inj h
  cases h2
  exact ⟨rfl, by decide +kernel⟩
theorem fX6_7 : Fld RX6 7 6 2 := ⟨RX6, TX6, 32, rfl, Nat.le_of_ble_eq_true rfl, iuX6, ⟨tyX6, tyX6_ok⟩, nmX6, Or.inl (lw_mem 679 (by decide +kernel) (by decide +kernel))⟩
theorem fX6_13 : Fld RX6 13 6 3 := ⟨RX6, TX6, 32, rfl, Nat.le_of_ble_eq_true rfl, iuX6, ⟨tyX6, tyX6_ok⟩, nmX6, Or.inl (lw_mem 680 (by decide +kernel) (by decide +kernel))⟩
theorem fX6_16 : Fld RX6 16 6 4 := ⟨RX6, TX6, 32, rfl, Nat.le_of_ble_eq_true rfl, iuX6, ⟨tyX6, tyX6_ok⟩, nmX6, Or.inl (lw_mem 681 (by decide +kernel) (by decide +kernel))⟩
theorem fX6_90 : Fld RX6 90 6 5 := ⟨RX6, TX6, 32, rfl, Nat.le_of_ble_eq_true rfl, iuX6, ⟨tyX6, tyX6_ok⟩, nmX6, Or.inl (lw_mem 682 (by decide +kernel) (by decide +kernel))⟩
theorem gi6_5 : Fint 6 5 := fun C T N h => by
  have h2 : (RX6, TX6, 32) = (C, T, N) := Option.some.inj h
  cases h2
  exact ⟨rfl, by decide +kernel⟩
theorem fX6_19 : Fld RX6 19 6 6 := ⟨RX6, TX6, 32, rfl, Nat.le_of_ble_eq_true rfl, iuX6, ⟨tyX6, tyX6_ok⟩, nmX6, Or.inl (lw_mem 683 (by decide +kernel) (by decide +kernel))⟩
theorem fX6_22 : Fld RX6 22 6 7 := ⟨RX6, TX6, 32, rfl, Nat.le_of_ble_eq_true rfl, iuX6, ⟨tyX6, tyX6_ok⟩, nmX6, Or.inl (lw_mem 684 (by decide +kernel) (by decide +kernel))⟩
theorem fX6_93 : Fld RX6 93 6 8 := ⟨RX6, TX6, 32, rfl, Nat.le_of_ble_eq_true rfl, iuX6, ⟨tyX6, tyX6_ok⟩, nmX6, Or.inl (lw_mem 685 (by decide +kernel) (by decide +kernel))⟩
theorem gi6_8 : Fint 6 8 := fun C T N h => by
  have h2 : (RX6, TX6, 32) = (C, T, N) := Option.some.inj h
  cases h2
  exact ⟨rfl, by decide +kernel⟩
theorem fX6_100 : Fld RX6 100 6 9 := ⟨RX6, TX6, 32, rfl, Nat.le_of_ble_eq_true rfl, iuX6, ⟨tyX6, tyX6_ok⟩, nmX6, Or.inl (lw_mem 686 (by decide +kernel) (by decide +kernel))⟩
theorem gi6_9 : Fint 6 9 := fun C T N h => by
  have h2 : (RX6, TX6, 32) = (C, T, N) := Option.some.inj h
  cases h2
  exact ⟨rfl, by decide +kernel⟩
theorem fX6_25 : Fld RX6 25 6 10 := ⟨RX6, TX6, 32, rfl, Nat.le_of_ble_eq_true rfl, iuX6, ⟨tyX6, tyX6_ok⟩, nmX6, Or.inl (lw_mem 687 (by decide +kernel) (by decide +kernel))⟩
theorem fX6_118 : Fld RX6 118 6 11 := ⟨RX6, TX6, 32, rfl, Nat.le_of_ble_eq_true rfl, iuX6, ⟨tyX6, tyX6_ok⟩, nmX6, Or.inl (lw_mem 688 (by decide +kernel) (by decide +kernel))⟩
theorem gi6_11 : Fint 6 11 := fun C T N h => by
  have h2 : (RX6, TX6, 32) = (C, T, N) := Option.some.inj h
  cases h2
  exact ⟨rfl, by decide +kernel⟩
theorem fX6_140 : Fld RX6 140 6 12 := ⟨RX6, TX6, 32, rfl, Nat.le_of_ble_eq_true rfl, iuX6, ⟨tyX6, tyX6_ok⟩, nmX6, Or.inl (lw_mem 689 (by decide +kernel) (by decide +kernel))⟩
theorem gi6_12 : Fint 6 12 := fun C T N h => by
  have h2 : (RX6, TX6, 32) = (C, T, N) := Option.some.inj h
  cases h2
  exact ⟨rfl, by decide +kernel⟩
theorem fX6_28 : Fld RX6 28 6 13 := ⟨RX6, TX6, 32, rfl, Nat.le_of_ble_eq_true rfl, iuX6, ⟨tyX6, tyX6_ok⟩, nmX6, Or.inl (lw_mem 690 (by decide +kernel) (by decide +kernel))⟩
theorem fX6_31 : Fld RX6 31 6 14 := ⟨RX6, TX6, 32, rfl, Nat.le_of_ble_eq_true rfl, iuX6, ⟨tyX6, tyX6_ok⟩, nmX6, Or.inl (lw_mem 691 (by decide +kernel) (by decide +kernel))⟩
theorem fX6_34 : Fld RX6 34 6 15 := ⟨RX6, TX6, 32, rfl, Nat.le_of_ble_eq_true rfl, iuX6, ⟨tyX6, tyX6_ok⟩, nmX6, Or.inl (lw_mem 692 (by decide +kernel) (by decide +kernel))⟩
theorem fX6_38 : Fld RX6 38 6 16 := ⟨RX6, TX6, 32, rfl, Nat.le_of_ble_eq_true rfl, iuX6, ⟨tyX6, tyX6_ok⟩, nmX6, Or.inl (lw_mem 693 (by decide +kernel) (by decide +kernel))⟩
theorem fX6_41 : Fld RX6 41 6 17 := ⟨RX6, TX6, 32, rfl, Nat.le_of_ble_eq_true rfl, iuX6, ⟨tyX6, tyX6_ok⟩, nmX6, Or.inl (lw_mem 694 (by decide +kernel) (by decide +kernel))⟩
theorem fX6_44 : Fld RX6 44 6 18 := ⟨RX6, TX6, 32, rfl, Nat.le_of_ble_eq_true rfl, iuX6, ⟨tyX6, tyX6_ok⟩, nmX6, Or.inl (lw_mem 695 (by decide +kernel) (by decide +kernel))⟩
theorem gi6_18 : Fint 6 18 := fun C T N h => by
  have h2 : (RX6, TX6, 32) = (C, T, N) := Option.some.inj h
  cases h2
  exact ⟨rfl, by decide +kernel⟩
theorem fX6_158 : Fld RX6 158 6 19 := ⟨RX6, TX6, 32, rfl, Nat.le_of_ble_eq_true rfl, iuX6, ⟨tyX6, tyX6_ok⟩, nmX6, Or.inl (lw_mem 696 (by decide +kernel) (by decide +kernel))⟩
theorem gi6_19 : Fint 6 19 := fun C T N h => by
  have h2 : (RX6, TX6, 32) = (C, T, N) := Option.some.inj h
  cases h2
  exact ⟨rfl, by decide +kernel⟩
theorem fX6_48 : Fld RX6 48 6 20 := ⟨RX6, TX6, 32, rfl, Nat.le_of_ble_eq_true rfl, iuX6, ⟨tyX6, tyX6_ok⟩, nmX6, Or.inl (lw_mem 697 (by decide +kernel) (by decide +kernel))⟩
theorem fX6_166 : Fld RX6 166 6 21 := ⟨RX6, TX6, 32, rfl, Nat.le_of_ble_eq_true rfl, iuX6, ⟨tyX6, tyX6_ok⟩, nmX6, Or.inl (lw_mem 698 (by decide +kernel) (by decide +kernel))⟩
theorem gi6_21 : Fint 6 21 := fun C T N h => by
  have h2 : (RX6, TX6, 32) = (C, T, N) := Option.some.inj h
  cases h2
  exact ⟨rfl, by decide +kernel⟩
theorem fX6_51 : Fld RX6 51 6 22 := ⟨RX6, TX6, 32, rfl, Nat.le_of_ble_eq_true rfl, iuX6, ⟨tyX6, tyX6_ok⟩, nmX6, Or.inl (lw_mem 699 (by decide +kernel) (by decide +kernel))⟩
theorem fX6_54 : Fld RX6 54 6 23 := ⟨RX6, TX6, 32, rfl, Nat.le_of_ble_eq_true rfl, iuX6, ⟨tyX6, tyX6_ok⟩, nmX6, Or.inl (lw_mem 700 (by decide +kernel) (by decide +kernel))⟩
theorem fX6_172 : Fld RX6 172 6 24 := ⟨RX6, TX6, 32, rfl, Nat.le_of_ble_eq_true rfl, iuX6, ⟨tyX6, tyX6_ok⟩, nmX6, Or.inl (lw_mem 701 (by decide +kernel) (by decide +kernel))⟩
theorem gi6_24 : Fint 6 24 := fun C T N h => by
  have h2 : (RX6, TX6, 32) = (C, T, N) := Option.some.inj h
  cases h2
  exact ⟨rfl, by decide +kernel⟩
theorem fX6_175 : Fld RX6 175 6 25 := ⟨RX6, TX6, 32, rfl, Nat.le_of_ble_eq_true rfl, iuX6, ⟨tyX6, tyX6_ok⟩, nmX6, Or.inl (lw_mem 702 (by decide +kernel) (by decide +kernel))⟩
theorem gi6_25 : Fint 6 25 := fun C T N h => by
  have h2 : (RX6, TX6, 32) = (C, T, N) := Option.some.inj h
  cases h2
  exact ⟨rfl, by decide +kernel⟩
theorem fX6_178 : Fld RX6 178 6 26 := ⟨RX6, TX6, 32, rfl, Nat.le_of_ble_eq_true rfl, iuX6, ⟨tyX6, tyX6_ok⟩, nmX6, Or.inl (lw_mem 703 (by decide +kernel) (by decide +kernel))⟩
theorem gi6_26 : Fint 6 26 := fun C T N h => by
  have h2 : (RX6, TX6, 32) = (C, T, N) := Option.some.inj h
  cases h2
  exact ⟨rfl, by decide +kernel⟩
theorem fX6_57 : Fld RX6 57 6 27 := ⟨RX6, TX6, 32, rfl, Nat.le_of_ble_eq_true rfl, iuX6, ⟨tyX6, tyX6_ok⟩, nmX6, Or.inl (lw_mem 704 (by decide +kernel) (by decide +kernel))⟩
theorem fX6_60 : Fld RX6 60 6 28 := ⟨RX6, TX6, 32, rfl, Nat.le_of_ble_eq_true rfl, iuX6, ⟨tyX6, tyX6_ok⟩, nmX6, Or.inl (lw_mem 705 (by decide +kernel) (by decide +kernel))⟩
theorem fX6_181 : Fld RX6 181 6 29 := ⟨RX6, TX6, 32, rfl, Nat.le_of_ble_eq_true rfl, iuX6, ⟨tyX6, tyX6_ok⟩, nmX6, Or.inl (lw_mem 706 (by decide +kernel) (by decide +kernel))⟩
theorem gi6_29 : Fint 6 29 := fun C T N h => by
  have h2 : (RX6, TX6, 32) = (C, T, N) := Option.some.inj h
  cases h2
  exact ⟨rfl, by decide +kernel⟩
theorem fX6_63 : Fld RX6 63 6 30 := ⟨RX6, TX6, 32, rfl, Nat.le_of_ble_eq_true rfl, iuX6, ⟨tyX6, tyX6_ok⟩, nmX6, Or.inl (lw_mem 707 (by decide +kernel) (by decide +kernel))⟩
theorem fX6_193 : Fld RX6 193 6 31 := ⟨RX6, TX6, 32, rfl, Nat.le_of_ble_eq_true rfl, iuX6, ⟨tyX6, tyX6_ok⟩, nmX6, Or.inl (lw_mem 708 (by decide +kernel) (by decide +kernel))⟩
theorem gi6_31 : Fint 6 31 := fun C T N h => by
  have h2 : (RX6, TX6, 32) = (C, T, N) := Option.some.inj h
  cases h2
  exact ⟨rfl, by decide +kernel⟩
theorem mL_17 : MthV RL 17 yX6_sheet 6 cX6_sheet 5 (some .int) 3 := ⟨⟨⟨by decide +kernel, by decide +kernel, by decide +kernel⟩, Nat.le_of_ble_eq_true rfl, lw_mem 777 (by decide +kernel) (by decide +kernel), lw_mem 55 (by decide +kernel) (by decide +kernel), Or.inl (lw_mem 774 (by decide +kernel) (by decide +kernel))⟩, ⟨TX6, 32, rfl⟩, lw_mem 775 (by decide +kernel) (by decide +kernel), lw_mem 776 (by decide +kernel) (by decide +kernel)⟩
theorem mX6_79 : MthS RX6 79 yX6_isSheet cX6_isSheet 1 (some .boolean) 1 := ⟨⟨⟨by decide +kernel, by decide +kernel, by decide +kernel⟩, Nat.le_of_ble_eq_true rfl, lw_mem 780 (by decide +kernel) (by decide +kernel), lw_mem 55 (by decide +kernel) (by decide +kernel), Or.inl (lw_mem 778 (by decide +kernel) (by decide +kernel))⟩, lw_mem 779 (by decide +kernel) (by decide +kernel)⟩
theorem kX6_73 : Cond.constantLong RX6 73 (lN 7) ∈ lw_w := lw_mem 781 (by decide +kernel) (by decide +kernel)
theorem mX6_75 : MthS RX6 75 yX6_in cX6_in 6 (some .boolean) 3 := ⟨⟨⟨by decide +kernel, by decide +kernel, by decide +kernel⟩, Nat.le_of_ble_eq_true rfl, lw_mem 784 (by decide +kernel) (by decide +kernel), lw_mem 55 (by decide +kernel) (by decide +kernel), Or.inl (lw_mem 782 (by decide +kernel) (by decide +kernel))⟩, lw_mem 783 (by decide +kernel) (by decide +kernel)⟩
theorem kX6_83 : Cond.constantLong RX6 83 (lN 2) ∈ lw_w := lw_mem 785 (by decide +kernel) (by decide +kernel)
theorem kX6_85 : Cond.constant RX6 85 (-1000001) ∈ lw_w := lw_mem 786 (by decide +kernel) (by decide +kernel)
theorem mX6_86 : MthV RX6 86 yX6_found 6 cX6_found 2 (some .int) 1 := ⟨⟨⟨by decide +kernel, by decide +kernel, by decide +kernel⟩, Nat.le_of_ble_eq_true rfl, lw_mem 790 (by decide +kernel) (by decide +kernel), lw_mem 55 (by decide +kernel) (by decide +kernel), Or.inl (lw_mem 787 (by decide +kernel) (by decide +kernel))⟩, ⟨TX6, 32, rfl⟩, lw_mem 789 (by decide +kernel) (by decide +kernel), lw_mem 29 (by decide +kernel) (by decide +kernel)⟩
theorem kX6_72 : Cond.constant RX6 72 (-1000010) ∈ lw_w := lw_mem 791 (by decide +kernel) (by decide +kernel)
theorem mL_21 : MthV RL 21 yX6_set 6 cX6_set 4 (some .int) 3 := ⟨⟨⟨by decide +kernel, by decide +kernel, by decide +kernel⟩, Nat.le_of_ble_eq_true rfl, lw_mem 795 (by decide +kernel) (by decide +kernel), lw_mem 55 (by decide +kernel) (by decide +kernel), Or.inl (lw_mem 792 (by decide +kernel) (by decide +kernel))⟩, ⟨TX6, 32, rfl⟩, lw_mem 793 (by decide +kernel) (by decide +kernel), lw_mem 794 (by decide +kernel) (by decide +kernel)⟩
theorem mL_26 : MthV RL 26 yX6_copy 6 cX6_copy 9 (some .int) 5 := ⟨⟨⟨by decide +kernel, by decide +kernel, by decide +kernel⟩, Nat.le_of_ble_eq_true rfl, lw_mem 799 (by decide +kernel) (by decide +kernel), lw_mem 55 (by decide +kernel) (by decide +kernel), Or.inl (lw_mem 796 (by decide +kernel) (by decide +kernel))⟩, ⟨TX6, 32, rfl⟩, lw_mem 797 (by decide +kernel) (by decide +kernel), lw_mem 798 (by decide +kernel) (by decide +kernel)⟩
theorem mL_31 : MthV RL 31 yX6_drop 6 cX6_drop 2 (some .int) 1 := ⟨⟨⟨by decide +kernel, by decide +kernel, by decide +kernel⟩, Nat.le_of_ble_eq_true rfl, lw_mem 803 (by decide +kernel) (by decide +kernel), lw_mem 55 (by decide +kernel) (by decide +kernel), Or.inl (lw_mem 800 (by decide +kernel) (by decide +kernel))⟩, ⟨TX6, 32, rfl⟩, lw_mem 801 (by decide +kernel) (by decide +kernel), lw_mem 802 (by decide +kernel) (by decide +kernel)⟩
theorem mL_36 : MthV RL 36 yX6_offer 6 cX6_offer 3 (some .int) 2 := ⟨⟨⟨by decide +kernel, by decide +kernel, by decide +kernel⟩, Nat.le_of_ble_eq_true rfl, lw_mem 807 (by decide +kernel) (by decide +kernel), lw_mem 55 (by decide +kernel) (by decide +kernel), Or.inl (lw_mem 804 (by decide +kernel) (by decide +kernel))⟩, ⟨TX6, 32, rfl⟩, lw_mem 805 (by decide +kernel) (by decide +kernel), lw_mem 806 (by decide +kernel) (by decide +kernel)⟩
theorem kX6_96 : Cond.constantLong RX6 96 (lN 1000) ∈ lw_w := lw_mem 808 (by decide +kernel) (by decide +kernel)
theorem kX6_98 : Cond.constantLong RX6 98 (lN 4095) ∈ lw_w := lw_mem 809 (by decide +kernel) (by decide +kernel)
theorem kX6_103 : Cond.constant RX6 103 (-1000002) ∈ lw_w := lw_mem 810 (by decide +kernel) (by decide +kernel)
theorem kX6_104 : Cond.constant RX6 104 (-1000003) ∈ lw_w := lw_mem 811 (by decide +kernel) (by decide +kernel)
theorem mL_40 : MthV RL 40 yX6_demand 6 cX6_demand 2 (some .int) 1 := ⟨⟨⟨by decide +kernel, by decide +kernel, by decide +kernel⟩, Nat.le_of_ble_eq_true rfl, lw_mem 815 (by decide +kernel) (by decide +kernel), lw_mem 55 (by decide +kernel) (by decide +kernel), Or.inl (lw_mem 812 (by decide +kernel) (by decide +kernel))⟩, ⟨TX6, 32, rfl⟩, lw_mem 813 (by decide +kernel) (by decide +kernel), lw_mem 814 (by decide +kernel) (by decide +kernel)⟩
theorem mX6_121 : MthV RX6 121 yX6_demanding 6 cX6_demanding 7 (some .int) 1 := ⟨⟨⟨by decide +kernel, by decide +kernel, by decide +kernel⟩, Nat.le_of_ble_eq_true rfl, lw_mem 819 (by decide +kernel) (by decide +kernel), lw_mem 55 (by decide +kernel) (by decide +kernel), Or.inl (lw_mem 816 (by decide +kernel) (by decide +kernel))⟩, ⟨TX6, 32, rfl⟩, lw_mem 818 (by decide +kernel) (by decide +kernel), lw_mem 30 (by decide +kernel) (by decide +kernel)⟩
theorem kX6_105 : Cond.constantLong RX6 105 (lN 11) ∈ lw_w := lw_mem 820 (by decide +kernel) (by decide +kernel)
theorem kX6_107 : Cond.constant RX6 107 (nI 1000000) ∈ lw_w := lw_mem 821 (by decide +kernel) (by decide +kernel)
theorem mX6_108 : MthV RX6 108 yX6_has 6 cX6_has 3 (some .boolean) 2 := ⟨⟨⟨by decide +kernel, by decide +kernel, by decide +kernel⟩, Nat.le_of_ble_eq_true rfl, lw_mem 825 (by decide +kernel) (by decide +kernel), lw_mem 55 (by decide +kernel) (by decide +kernel), Or.inl (lw_mem 822 (by decide +kernel) (by decide +kernel))⟩, ⟨TX6, 32, rfl⟩, lw_mem 824 (by decide +kernel) (by decide +kernel), lw_mem 31 (by decide +kernel) (by decide +kernel)⟩
theorem mX6_112 : MthV RX6 112 yX6_isOwn 6 cX6_isOwn 2 (some .boolean) 1 := ⟨⟨⟨by decide +kernel, by decide +kernel, by decide +kernel⟩, Nat.le_of_ble_eq_true rfl, lw_mem 829 (by decide +kernel) (by decide +kernel), lw_mem 55 (by decide +kernel) (by decide +kernel), Or.inl (lw_mem 826 (by decide +kernel) (by decide +kernel))⟩, ⟨TX6, 32, rfl⟩, lw_mem 828 (by decide +kernel) (by decide +kernel), lw_mem 32 (by decide +kernel) (by decide +kernel)⟩
theorem mX6_115 : MthV RX6 115 yX6_filled 6 cX6_filled 4 (some .int) 1 := ⟨⟨⟨by decide +kernel, by decide +kernel, by decide +kernel⟩, Nat.le_of_ble_eq_true rfl, lw_mem 833 (by decide +kernel) (by decide +kernel), lw_mem 55 (by decide +kernel) (by decide +kernel), Or.inl (lw_mem 830 (by decide +kernel) (by decide +kernel))⟩, ⟨TX6, 32, rfl⟩, lw_mem 832 (by decide +kernel) (by decide +kernel), lw_mem 33 (by decide +kernel) (by decide +kernel)⟩
theorem mL_44 : MthV RL 44 yX6_demands 6 cX6_demands 7 (some .int) 3 := ⟨⟨⟨by decide +kernel, by decide +kernel, by decide +kernel⟩, Nat.le_of_ble_eq_true rfl, lw_mem 837 (by decide +kernel) (by decide +kernel), lw_mem 55 (by decide +kernel) (by decide +kernel), Or.inl (lw_mem 834 (by decide +kernel) (by decide +kernel))⟩, ⟨TX6, 32, rfl⟩, lw_mem 835 (by decide +kernel) (by decide +kernel), lw_mem 836 (by decide +kernel) (by decide +kernel)⟩
theorem kX6_124 : Cond.constantLong RX6 124 (lN 60) ∈ lw_w := lw_mem 838 (by decide +kernel) (by decide +kernel)
theorem mL_48 : MthV RL 48 yX6_covers 6 cX6_covers 6 (some .int) 1 := ⟨⟨⟨by decide +kernel, by decide +kernel, by decide +kernel⟩, Nat.le_of_ble_eq_true rfl, lw_mem 842 (by decide +kernel) (by decide +kernel), lw_mem 55 (by decide +kernel) (by decide +kernel), Or.inl (lw_mem 839 (by decide +kernel) (by decide +kernel))⟩, ⟨TX6, 32, rfl⟩, lw_mem 840 (by decide +kernel) (by decide +kernel), lw_mem 841 (by decide +kernel) (by decide +kernel)⟩
theorem kX6_127 : Cond.constantLong RX6 127 (lN 5) ∈ lw_w := lw_mem 843 (by decide +kernel) (by decide +kernel)
theorem mX6_129 : MthV RX6 129 yX6_bestOfSets 6 cX6_bestOfSets 6 (some .int) 0 := ⟨⟨⟨by decide +kernel, by decide +kernel, by decide +kernel⟩, Nat.le_of_ble_eq_true rfl, lw_mem 847 (by decide +kernel) (by decide +kernel), lw_mem 55 (by decide +kernel) (by decide +kernel), Or.inl (lw_mem 844 (by decide +kernel) (by decide +kernel))⟩, ⟨TX6, 32, rfl⟩, lw_mem 846 (by decide +kernel) (by decide +kernel), lw_mem 34 (by decide +kernel) (by decide +kernel)⟩
theorem kX6_126 : Cond.constant RX6 126 (-1000000) ∈ lw_w := lw_mem 848 (by decide +kernel) (by decide +kernel)
theorem mL_52 : MthV RL 52 yX6_told 6 cX6_told 3 (some .int) 2 := ⟨⟨⟨by decide +kernel, by decide +kernel, by decide +kernel⟩, Nat.le_of_ble_eq_true rfl, lw_mem 852 (by decide +kernel) (by decide +kernel), lw_mem 55 (by decide +kernel) (by decide +kernel), Or.inl (lw_mem 849 (by decide +kernel) (by decide +kernel))⟩, ⟨TX6, 32, rfl⟩, lw_mem 850 (by decide +kernel) (by decide +kernel), lw_mem 851 (by decide +kernel) (by decide +kernel)⟩
theorem mX6_133 : MthV RX6 133 yX6_isSet 6 cX6_isSet 2 (some .boolean) 1 := ⟨⟨⟨by decide +kernel, by decide +kernel, by decide +kernel⟩, Nat.le_of_ble_eq_true rfl, lw_mem 856 (by decide +kernel) (by decide +kernel), lw_mem 55 (by decide +kernel) (by decide +kernel), Or.inl (lw_mem 853 (by decide +kernel) (by decide +kernel))⟩, ⟨TX6, 32, rfl⟩, lw_mem 855 (by decide +kernel) (by decide +kernel), lw_mem 35 (by decide +kernel) (by decide +kernel)⟩
theorem kX6_136 : Cond.constantLong RX6 136 (lN 3) ∈ lw_w := lw_mem 857 (by decide +kernel) (by decide +kernel)
theorem mL_56 : MthV RL 56 yX6_price 6 cX6_price 2 (some .int) 1 := ⟨⟨⟨by decide +kernel, by decide +kernel, by decide +kernel⟩, Nat.le_of_ble_eq_true rfl, lw_mem 861 (by decide +kernel) (by decide +kernel), lw_mem 55 (by decide +kernel) (by decide +kernel), Or.inl (lw_mem 858 (by decide +kernel) (by decide +kernel))⟩, ⟨TX6, 32, rfl⟩, lw_mem 859 (by decide +kernel) (by decide +kernel), lw_mem 860 (by decide +kernel) (by decide +kernel)⟩
theorem mL_60 : MthV RL 60 yX6_lease 6 cX6_lease 3 (some .int) 2 := ⟨⟨⟨by decide +kernel, by decide +kernel, by decide +kernel⟩, Nat.le_of_ble_eq_true rfl, lw_mem 865 (by decide +kernel) (by decide +kernel), lw_mem 55 (by decide +kernel) (by decide +kernel), Or.inl (lw_mem 862 (by decide +kernel) (by decide +kernel))⟩, ⟨TX6, 32, rfl⟩, lw_mem 863 (by decide +kernel) (by decide +kernel), lw_mem 864 (by decide +kernel) (by decide +kernel)⟩
theorem kX6_138 : Cond.constantLong RX6 138 (lN 64) ∈ lw_w := lw_mem 866 (by decide +kernel) (by decide +kernel)
theorem mL_64 : MthV RL 64 yX6_day 6 cX6_day 5 (some .int) 1 := ⟨⟨⟨by decide +kernel, by decide +kernel, by decide +kernel⟩, Nat.le_of_ble_eq_true rfl, lw_mem 870 (by decide +kernel) (by decide +kernel), lw_mem 55 (by decide +kernel) (by decide +kernel), Or.inl (lw_mem 867 (by decide +kernel) (by decide +kernel))⟩, ⟨TX6, 32, rfl⟩, lw_mem 868 (by decide +kernel) (by decide +kernel), lw_mem 869 (by decide +kernel) (by decide +kernel)⟩
theorem mX6_149 : MthS RX6 149 yX6_isDay cX6_isDay 1 (some .boolean) 1 := ⟨⟨⟨by decide +kernel, by decide +kernel, by decide +kernel⟩, Nat.le_of_ble_eq_true rfl, lw_mem 873 (by decide +kernel) (by decide +kernel), lw_mem 55 (by decide +kernel) (by decide +kernel), Or.inl (lw_mem 871 (by decide +kernel) (by decide +kernel))⟩, lw_mem 872 (by decide +kernel) (by decide +kernel)⟩
theorem kX6_143 : Cond.constantLong RX6 143 (lN 127) ∈ lw_w := lw_mem 874 (by decide +kernel) (by decide +kernel)
theorem mX6_152 : MthV RX6 152 yX6_isCovered 6 cX6_isCovered 4 (some .boolean) 1 := ⟨⟨⟨by decide +kernel, by decide +kernel, by decide +kernel⟩, Nat.le_of_ble_eq_true rfl, lw_mem 878 (by decide +kernel) (by decide +kernel), lw_mem 55 (by decide +kernel) (by decide +kernel), Or.inl (lw_mem 875 (by decide +kernel) (by decide +kernel))⟩, ⟨TX6, 32, rfl⟩, lw_mem 877 (by decide +kernel) (by decide +kernel), lw_mem 36 (by decide +kernel) (by decide +kernel)⟩
theorem mX6_145 : MthV RX6 145 yX6_firstOf 6 cX6_firstOf 3 (some .int) 2 := ⟨⟨⟨by decide +kernel, by decide +kernel, by decide +kernel⟩, Nat.le_of_ble_eq_true rfl, lw_mem 882 (by decide +kernel) (by decide +kernel), lw_mem 55 (by decide +kernel) (by decide +kernel), Or.inl (lw_mem 879 (by decide +kernel) (by decide +kernel))⟩, ⟨TX6, 32, rfl⟩, lw_mem 881 (by decide +kernel) (by decide +kernel), lw_mem 37 (by decide +kernel) (by decide +kernel)⟩
theorem mX6_155 : MthV RX6 155 yX6_tollOf 6 cX6_tollOf 5 (some .int) 2 := ⟨⟨⟨by decide +kernel, by decide +kernel, by decide +kernel⟩, Nat.le_of_ble_eq_true rfl, lw_mem 886 (by decide +kernel) (by decide +kernel), lw_mem 55 (by decide +kernel) (by decide +kernel), Or.inl (lw_mem 883 (by decide +kernel) (by decide +kernel))⟩, ⟨TX6, 32, rfl⟩, lw_mem 885 (by decide +kernel) (by decide +kernel), lw_mem 38 (by decide +kernel) (by decide +kernel)⟩
theorem mL_68 : MthV RL 68 yX6_leases 6 cX6_leases 4 (some .int) 1 := ⟨⟨⟨by decide +kernel, by decide +kernel, by decide +kernel⟩, Nat.le_of_ble_eq_true rfl, lw_mem 890 (by decide +kernel) (by decide +kernel), lw_mem 55 (by decide +kernel) (by decide +kernel), Or.inl (lw_mem 887 (by decide +kernel) (by decide +kernel))⟩, ⟨TX6, 32, rfl⟩, lw_mem 888 (by decide +kernel) (by decide +kernel), lw_mem 889 (by decide +kernel) (by decide +kernel)⟩
theorem kX6_161 : Cond.constantLong RX6 161 (lN 4) ∈ lw_w := lw_mem 891 (by decide +kernel) (by decide +kernel)
theorem mX6_163 : MthV RX6 163 yX6_bestOfLeases 6 cX6_bestOfLeases 6 (some .int) 0 := ⟨⟨⟨by decide +kernel, by decide +kernel, by decide +kernel⟩, Nat.le_of_ble_eq_true rfl, lw_mem 895 (by decide +kernel) (by decide +kernel), lw_mem 55 (by decide +kernel) (by decide +kernel), Or.inl (lw_mem 892 (by decide +kernel) (by decide +kernel))⟩, ⟨TX6, 32, rfl⟩, lw_mem 894 (by decide +kernel) (by decide +kernel), lw_mem 39 (by decide +kernel) (by decide +kernel)⟩
theorem mL_72 : MthV RL 72 yX6_covered 6 cX6_covered 2 (some .int) 1 := ⟨⟨⟨by decide +kernel, by decide +kernel, by decide +kernel⟩, Nat.le_of_ble_eq_true rfl, lw_mem 899 (by decide +kernel) (by decide +kernel), lw_mem 55 (by decide +kernel) (by decide +kernel), Or.inl (lw_mem 896 (by decide +kernel) (by decide +kernel))⟩, ⟨TX6, 32, rfl⟩, lw_mem 897 (by decide +kernel) (by decide +kernel), lw_mem 898 (by decide +kernel) (by decide +kernel)⟩
theorem mL_77 : MthV RL 77 yX6_site 6 cX6_site 1 (some .int) 0 := ⟨⟨⟨by decide +kernel, by decide +kernel, by decide +kernel⟩, Nat.le_of_ble_eq_true rfl, lw_mem 903 (by decide +kernel) (by decide +kernel), lw_mem 55 (by decide +kernel) (by decide +kernel), Or.inl (lw_mem 900 (by decide +kernel) (by decide +kernel))⟩, ⟨TX6, 32, rfl⟩, lw_mem 901 (by decide +kernel) (by decide +kernel), lw_mem 902 (by decide +kernel) (by decide +kernel)⟩
theorem mL_81 : MthV RL 81 yX6_way 6 cX6_way 5 (some .int) 3 := ⟨⟨⟨by decide +kernel, by decide +kernel, by decide +kernel⟩, Nat.le_of_ble_eq_true rfl, lw_mem 907 (by decide +kernel) (by decide +kernel), lw_mem 55 (by decide +kernel) (by decide +kernel), Or.inl (lw_mem 904 (by decide +kernel) (by decide +kernel))⟩, ⟨TX6, 32, rfl⟩, lw_mem 905 (by decide +kernel) (by decide +kernel), lw_mem 906 (by decide +kernel) (by decide +kernel)⟩
theorem mX6_169 : MthV RX6 169 yX6_isSite 6 cX6_isSite 2 (some .boolean) 1 := ⟨⟨⟨by decide +kernel, by decide +kernel, by decide +kernel⟩, Nat.le_of_ble_eq_true rfl, lw_mem 911 (by decide +kernel) (by decide +kernel), lw_mem 55 (by decide +kernel) (by decide +kernel), Or.inl (lw_mem 908 (by decide +kernel) (by decide +kernel))⟩, ⟨TX6, 32, rfl⟩, lw_mem 910 (by decide +kernel) (by decide +kernel), lw_mem 40 (by decide +kernel) (by decide +kernel)⟩
theorem mL_85 : MthV RL 85 yX6_call 6 cX6_call 7 (some .int) 1 := ⟨⟨⟨by decide +kernel, by decide +kernel, by decide +kernel⟩, Nat.le_of_ble_eq_true rfl, lw_mem 915 (by decide +kernel) (by decide +kernel), lw_mem 55 (by decide +kernel) (by decide +kernel), Or.inl (lw_mem 912 (by decide +kernel) (by decide +kernel))⟩, ⟨TX6, 32, rfl⟩, lw_mem 913 (by decide +kernel) (by decide +kernel), lw_mem 914 (by decide +kernel) (by decide +kernel)⟩
theorem mL_89 : MthV RL 89 yX6_joins 6 cX6_joins 4 (some .int) 1 := ⟨⟨⟨by decide +kernel, by decide +kernel, by decide +kernel⟩, Nat.le_of_ble_eq_true rfl, lw_mem 919 (by decide +kernel) (by decide +kernel), lw_mem 55 (by decide +kernel) (by decide +kernel), Or.inl (lw_mem 916 (by decide +kernel) (by decide +kernel))⟩, ⟨TX6, 32, rfl⟩, lw_mem 917 (by decide +kernel) (by decide +kernel), lw_mem 918 (by decide +kernel) (by decide +kernel)⟩
theorem mX6_187 : MthV RX6 187 yX6_bestOfSites 6 cX6_bestOfSites 4 (some .int) 0 := ⟨⟨⟨by decide +kernel, by decide +kernel, by decide +kernel⟩, Nat.le_of_ble_eq_true rfl, lw_mem 923 (by decide +kernel) (by decide +kernel), lw_mem 55 (by decide +kernel) (by decide +kernel), Or.inl (lw_mem 920 (by decide +kernel) (by decide +kernel))⟩, ⟨TX6, 32, rfl⟩, lw_mem 922 (by decide +kernel) (by decide +kernel), lw_mem 41 (by decide +kernel) (by decide +kernel)⟩
theorem mX6_184 : MthV RX6 184 yX6_treeOf 6 cX6_treeOf 9 (some .int) 1 := ⟨⟨⟨by decide +kernel, by decide +kernel, by decide +kernel⟩, Nat.le_of_ble_eq_true rfl, lw_mem 927 (by decide +kernel) (by decide +kernel), lw_mem 55 (by decide +kernel) (by decide +kernel), Or.inl (lw_mem 924 (by decide +kernel) (by decide +kernel))⟩, ⟨TX6, 32, rfl⟩, lw_mem 926 (by decide +kernel) (by decide +kernel), lw_mem 42 (by decide +kernel) (by decide +kernel)⟩
theorem mL_93 : MthV RL 93 yX6_kind 6 cX6_kind 2 (some .int) 1 := ⟨⟨⟨by decide +kernel, by decide +kernel, by decide +kernel⟩, Nat.le_of_ble_eq_true rfl, lw_mem 931 (by decide +kernel) (by decide +kernel), lw_mem 55 (by decide +kernel) (by decide +kernel), Or.inl (lw_mem 928 (by decide +kernel) (by decide +kernel))⟩, ⟨TX6, 32, rfl⟩, lw_mem 929 (by decide +kernel) (by decide +kernel), lw_mem 930 (by decide +kernel) (by decide +kernel)⟩
theorem mX6_190 : MthV RX6 190 yX6_kindOf 6 cX6_kindOf 2 (some .int) 1 := ⟨⟨⟨by decide +kernel, by decide +kernel, by decide +kernel⟩, Nat.le_of_ble_eq_true rfl, lw_mem 935 (by decide +kernel) (by decide +kernel), lw_mem 55 (by decide +kernel) (by decide +kernel), Or.inl (lw_mem 932 (by decide +kernel) (by decide +kernel))⟩, ⟨TX6, 32, rfl⟩, lw_mem 934 (by decide +kernel) (by decide +kernel), lw_mem 43 (by decide +kernel) (by decide +kernel)⟩
theorem mL_97 : MthV RL 97 yX6_as 6 cX6_as 4 (some .int) 2 := ⟨⟨⟨by decide +kernel, by decide +kernel, by decide +kernel⟩, Nat.le_of_ble_eq_true rfl, lw_mem 939 (by decide +kernel) (by decide +kernel), lw_mem 55 (by decide +kernel) (by decide +kernel), Or.inl (lw_mem 936 (by decide +kernel) (by decide +kernel))⟩, ⟨TX6, 32, rfl⟩, lw_mem 937 (by decide +kernel) (by decide +kernel), lw_mem 938 (by decide +kernel) (by decide +kernel)⟩
theorem mL_101 : MthV RL 101 yX6_ask 6 cX6_ask 3 (some .int) 2 := ⟨⟨⟨by decide +kernel, by decide +kernel, by decide +kernel⟩, Nat.le_of_ble_eq_true rfl, lw_mem 943 (by decide +kernel) (by decide +kernel), lw_mem 55 (by decide +kernel) (by decide +kernel), Or.inl (lw_mem 940 (by decide +kernel) (by decide +kernel))⟩, ⟨TX6, 32, rfl⟩, lw_mem 941 (by decide +kernel) (by decide +kernel), lw_mem 942 (by decide +kernel) (by decide +kernel)⟩
theorem mX6_209 : MthV RX6 209 yX6_worth 6 cX6_worth 4 (some .int) 1 := ⟨⟨⟨by decide +kernel, by decide +kernel, by decide +kernel⟩, Nat.le_of_ble_eq_true rfl, lw_mem 947 (by decide +kernel) (by decide +kernel), lw_mem 55 (by decide +kernel) (by decide +kernel), Or.inl (lw_mem 944 (by decide +kernel) (by decide +kernel))⟩, ⟨TX6, 32, rfl⟩, lw_mem 946 (by decide +kernel) (by decide +kernel), lw_mem 44 (by decide +kernel) (by decide +kernel)⟩
theorem mX6_203 : MthV RX6 203 yX6_ownWorth 6 cX6_ownWorth 2 (some .int) 1 := ⟨⟨⟨by decide +kernel, by decide +kernel, by decide +kernel⟩, Nat.le_of_ble_eq_true rfl, lw_mem 951 (by decide +kernel) (by decide +kernel), lw_mem 55 (by decide +kernel) (by decide +kernel), Or.inl (lw_mem 948 (by decide +kernel) (by decide +kernel))⟩, ⟨TX6, 32, rfl⟩, lw_mem 950 (by decide +kernel) (by decide +kernel), lw_mem 45 (by decide +kernel) (by decide +kernel)⟩
theorem mX6_196 : MthV RX6 196 yX6_began 6 cX6_began 2 none 1 := ⟨⟨⟨by decide +kernel, by decide +kernel, by decide +kernel⟩, Nat.le_of_ble_eq_true rfl, lw_mem 955 (by decide +kernel) (by decide +kernel), lw_mem 55 (by decide +kernel) (by decide +kernel), Or.inl (lw_mem 952 (by decide +kernel) (by decide +kernel))⟩, ⟨TX6, 32, rfl⟩, lw_mem 954 (by decide +kernel) (by decide +kernel), lw_mem 46 (by decide +kernel) (by decide +kernel)⟩
theorem mX6_206 : MthV RX6 206 yX6_marked 6 cX6_marked 3 (some .int) 1 := ⟨⟨⟨by decide +kernel, by decide +kernel, by decide +kernel⟩, Nat.le_of_ble_eq_true rfl, lw_mem 959 (by decide +kernel) (by decide +kernel), lw_mem 55 (by decide +kernel) (by decide +kernel), Or.inl (lw_mem 956 (by decide +kernel) (by decide +kernel))⟩, ⟨TX6, 32, rfl⟩, lw_mem 958 (by decide +kernel) (by decide +kernel), lw_mem 47 (by decide +kernel) (by decide +kernel)⟩
theorem mX6_200 : MthS RX6 200 yX6_size cX6_size 3 (some .int) 1 := ⟨⟨⟨by decide +kernel, by decide +kernel, by decide +kernel⟩, Nat.le_of_ble_eq_true rfl, lw_mem 962 (by decide +kernel) (by decide +kernel), lw_mem 55 (by decide +kernel) (by decide +kernel), Or.inl (lw_mem 960 (by decide +kernel) (by decide +kernel))⟩, lw_mem 961 (by decide +kernel) (by decide +kernel)⟩
theorem mL_105 : MthV RL 105 yX6_trace 6 cX6_trace 2 (some .int) 1 := ⟨⟨⟨by decide +kernel, by decide +kernel, by decide +kernel⟩, Nat.le_of_ble_eq_true rfl, lw_mem 966 (by decide +kernel) (by decide +kernel), lw_mem 55 (by decide +kernel) (by decide +kernel), Or.inl (lw_mem 963 (by decide +kernel) (by decide +kernel))⟩, ⟨TX6, 32, rfl⟩, lw_mem 964 (by decide +kernel) (by decide +kernel), lw_mem 965 (by decide +kernel) (by decide +kernel)⟩
theorem mL_109 : MthV RL 109 yX6_count 6 cX6_count 4 (some .int) 1 := ⟨⟨⟨by decide +kernel, by decide +kernel, by decide +kernel⟩, Nat.le_of_ble_eq_true rfl, lw_mem 970 (by decide +kernel) (by decide +kernel), lw_mem 55 (by decide +kernel) (by decide +kernel), Or.inl (lw_mem 967 (by decide +kernel) (by decide +kernel))⟩, ⟨TX6, 32, rfl⟩, lw_mem 968 (by decide +kernel) (by decide +kernel), lw_mem 969 (by decide +kernel) (by decide +kernel)⟩
theorem mL_113 : MthV RL 113 yX6_status 6 cX6_status 1 (some .int) 0 := ⟨⟨⟨by decide +kernel, by decide +kernel, by decide +kernel⟩, Nat.le_of_ble_eq_true rfl, lw_mem 974 (by decide +kernel) (by decide +kernel), lw_mem 55 (by decide +kernel) (by decide +kernel), Or.inl (lw_mem 971 (by decide +kernel) (by decide +kernel))⟩, ⟨TX6, 32, rfl⟩, lw_mem 972 (by decide +kernel) (by decide +kernel), lw_mem 973 (by decide +kernel) (by decide +kernel)⟩
end
section
/-! ===== Int32 by its bits: bt x i ===== -/
def bt (x : Int32) (i : Nat) : Bool := x.toBitVec.getLsbD i
theorem b_ext {x y : Int32} (h : ∀ i, i < 32 → bt x i = bt y i) : x = y := Int32.toBitVec_inj.mp (BitVec.eq_of_getLsbD_eq (fun i hi => h i hi))
theorem b_or (x y : Int32) (i : Nat) : bt (x ||| y) i = (bt x i || bt y i) := by unfold bt; rw [Int32.toBitVec_or, BitVec.getLsbD_or]
theorem b_and (x y : Int32) (i : Nat) : bt (x &&& y) i = (bt x i && bt y i) := by unfold bt; rw [Int32.toBitVec_and, BitVec.getLsbD_and]
theorem b_xor (x y : Int32) (i : Nat) : bt (x ^^^ y) i = (bt x i ^^ bt y i) := by unfold bt; rw [Int32.toBitVec_xor, BitVec.getLsbD_xor]
theorem b_big {x : Int32} {i : Nat} (h : 32 ≤ i) : bt x i = false := BitVec.getLsbD_of_ge _ _ h
theorem b_255 (i : Nat) : bt 255 i = decide (i < 8) := by
  rcases Nat.lt_or_ge i 32 with h | h
  · exact (by decide +kernel : ∀ i, i < 32 → bt 255 i = decide (i < 8)) i h
  · rw [b_big h, decide_eq_false (by omega)]
theorem b_65535 (i : Nat) : bt 65535 i = decide (i < 16) := by
  rcases Nat.lt_or_ge i 32 with h | h
  · exact (by decide +kernel : ∀ i, i < 32 → bt 65535 i = decide (i < 16)) i h
  · rw [b_big h, decide_eq_false (by omega)]
theorem b_m1 : ∀ i, i < 32 → bt (-1) i = true := by decide +kernel
theorem b_0 (i : Nat) : bt 0 i = false := BitVec.getLsbD_zero
theorem s_l : ∀ n, n < 32 → ((nI n &&& 31).toBitVec.smod 32).toNat = n := by decide +kernel
theorem s_u : ∀ n, n < 32 → (((nI n).toUInt32 &&& Int32.toUInt32 31).toBitVec % 32).toNat = n := by decide +kernel
theorem b_shl (n : Nat) (hn : n < 32) (x : Int32) {i : Nat} (hi : i < 32) : bt (x <<< (nI n &&& 31)) i = (decide (n ≤ i) && bt x (i - n)) := by
  unfold bt
  rw [Int32.toBitVec_shiftLeft]
  show (x.toBitVec <<< ((nI n &&& 31).toBitVec.smod 32).toNat).getLsbD i = _
  rw [s_l n hn, BitVec.getLsbD_shiftLeft]
  rcases Nat.lt_or_ge i n with h | h
  · simp [h, Nat.not_le.mpr h]
  · simp [hi, h, Nat.not_lt.mpr h]
theorem b_ushr (n : Nat) (hn : n < 32) (x : Int32) (i : Nat) : bt ((x.toUInt32 >>> ((nI n).toUInt32 &&& Int32.toUInt32 31)).toInt32) i = bt x (n + i) := by
  show (x.toUInt32 >>> ((nI n).toUInt32 &&& Int32.toUInt32 31)).toBitVec.getLsbD i = x.toUInt32.toBitVec.getLsbD (n + i)
  rw [UInt32.toBitVec_shiftRight]
  show (x.toUInt32.toBitVec >>> (((nI n).toUInt32 &&& Int32.toUInt32 31).toBitVec % 32).toNat).getLsbD i = _
  rw [s_u n hn, BitVec.getLsbD_ushiftRight]
theorem b_sshr (n : Nat) (hn : n < 32) (x : Int32) {i : Nat} (hi : i < 32) : bt (x >>> (nI n &&& 31)) i = if n + i < 32 then bt x (n + i) else bt x 31 := by
  unfold bt
  rw [Int32.toBitVec_shiftRight]
  show (x.toBitVec.sshiftRight ((nI n &&& 31).toBitVec.smod 32).toNat).getLsbD i = _
  rw [s_l n hn, BitVec.getLsbD_sshiftRight, BitVec.msb_eq_getLsbD_last]
  simp [hi]
theorem b_shl8 (x : Int32) {i : Nat} (hi : i < 32) : bt (x <<< ((8 : Int32) &&& 31)) i = (decide (8 ≤ i) && bt x (i - 8)) := b_shl 8 (by omega) x hi
theorem b_shl16 (x : Int32) {i : Nat} (hi : i < 32) : bt (x <<< ((16 : Int32) &&& 31)) i = (decide (16 ≤ i) && bt x (i - 16)) := b_shl 16 (by omega) x hi
theorem b_shl24 (x : Int32) {i : Nat} (hi : i < 32) : bt (x <<< ((24 : Int32) &&& 31)) i = (decide (24 ≤ i) && bt x (i - 24)) := b_shl 24 (by omega) x hi
theorem b_sshr8 (x : Int32) {i : Nat} (hi : i < 32) : bt (x >>> ((8 : Int32) &&& 31)) i = if 8 + i < 32 then bt x (8 + i) else bt x 31 := b_sshr 8 (by omega) x hi
/-! ===== forms of the calculus for plain answers, whether, and numbers ===== -/
theorem Rok.mono {X : XC} {a b : Nat} (h : Rok X b) (hab : a ≤ b) : Rok X a := by
  obtain ⟨p, l, e, R, s, m, args, below, meth, c, cells, slots, Q, A, D, ad, cs, H0⟩ := X
  exact ⟨Nat.le_trans hab h.1, Nat.le_trans (Nat.mul_le_mul_left 40 hab) h.2⟩
def rI (v : Int32) (σ0 : Mem) : Option Value → Mem → Prop := fun r σ => r = some (.int v) ∧ σ = σ0
def rV (σ0 : Mem) : Option Value → Mem → Prop := fun r σ => r = none ∧ σ = σ0
def rP (P : Int32 → Mem → Prop) : Option Value → Mem → Prop := fun r σ => ∃ v : Int32, r = some (.int v) ∧ P v σ
def rQ (P : Mem → Prop) : Option Value → Mem → Prop := fun r σ => r = none ∧ P σ
def bI (b : Bool) : Int32 := cond b (nI 1) (nI 0)
theorem bI_nar (b : Bool) : narrow .boolean (.int (bI b)) = .int (bI b) := by cases b <;> decide +kernel
theorem bI_z {b : Bool} : bI b = 0 ↔ b = false := by cases b <;> decide +kernel
theorem iinc1 (n : Nat) : nI n + Int32.ofInt 1 = nI (n + 1) := nI_1 n
theorem iincm1 (n : Nat) : nI (n + 1) + Int32.ofInt (-1) = nI n := pk_m1 n
theorem V_callVi {X : XC} {own : String} {cc : ByteArray} {nL pc : Nat} {ls : List (Option Value)} {st : List Value} {σ : Mem} {index n d mx : Nat} {y : MethodName} {bytes : ByteArray} {ret : Option FieldType} {As rest : List Value} {ci b : Nat} {fs : List (Option Nat)} {v : Int32} {σ2 : Mem} (hX : Cok X own cc nL) (hR : Rok X (d + 1)) (hm : MthV own index y ci bytes mx ret n) (hC : Cc y bytes mx ret d (.ref b :: As) σ (rI v σ2)) (hd : decode cc pc = .ok (.invokevirtual index, 3)) (hs : shp[b]? = some (.inl (ci, fs))) (hn : As.length = n) (hnl : ls.length = nL) (hst : st = As.reverse ++ .ref b :: rest) (hcat : csum rest ≤ 8) (kk : Vw X (pc + 3) ls (.int v :: rest) σ2) : Vw X pc ls st σ :=
  V_callV hX hR hm hC hd hs hn hnl hst hcat (fun r σ3 h => by obtain ⟨rfl, rfl⟩ := h; exact kk)
theorem V_callVv {X : XC} {own : String} {cc : ByteArray} {nL pc : Nat} {ls : List (Option Value)} {st : List Value} {σ : Mem} {index n d mx : Nat} {y : MethodName} {bytes : ByteArray} {ret : Option FieldType} {As rest : List Value} {ci b : Nat} {fs : List (Option Nat)} {σ2 : Mem} (hX : Cok X own cc nL) (hR : Rok X (d + 1)) (hm : MthV own index y ci bytes mx ret n) (hC : Cc y bytes mx ret d (.ref b :: As) σ (rV σ2)) (hd : decode cc pc = .ok (.invokevirtual index, 3)) (hs : shp[b]? = some (.inl (ci, fs))) (hn : As.length = n) (hnl : ls.length = nL) (hst : st = As.reverse ++ .ref b :: rest) (hcat : csum rest ≤ 8) (kk : Vw X (pc + 3) ls rest σ2) : Vw X pc ls st σ :=
  V_callV hX hR hm hC hd hs hn hnl hst hcat (fun r σ3 h => by obtain ⟨rfl, rfl⟩ := h; exact kk)
theorem V_callVp {X : XC} {own : String} {cc : ByteArray} {nL pc : Nat} {ls : List (Option Value)} {st : List Value} {σ : Mem} {index n d mx : Nat} {y : MethodName} {bytes : ByteArray} {ret : Option FieldType} {As rest : List Value} {ci b : Nat} {fs : List (Option Nat)} {P : Int32 → Mem → Prop} (hX : Cok X own cc nL) (hR : Rok X (d + 1)) (hm : MthV own index y ci bytes mx ret n) (hC : Cc y bytes mx ret d (.ref b :: As) σ (rP P)) (hd : decode cc pc = .ok (.invokevirtual index, 3)) (hs : shp[b]? = some (.inl (ci, fs))) (hn : As.length = n) (hnl : ls.length = nL) (hst : st = As.reverse ++ .ref b :: rest) (hcat : csum rest ≤ 8) (kk : ∀ (v : Int32) (σ2 : Mem), P v σ2 → Vw X (pc + 3) ls (.int v :: rest) σ2) : Vw X pc ls st σ :=
  V_callV hX hR hm hC hd hs hn hnl hst hcat (fun r σ3 h => by obtain ⟨v, rfl, h⟩ := h; exact kk v σ3 h)
theorem V_callVq {X : XC} {own : String} {cc : ByteArray} {nL pc : Nat} {ls : List (Option Value)} {st : List Value} {σ : Mem} {index n d mx : Nat} {y : MethodName} {bytes : ByteArray} {ret : Option FieldType} {As rest : List Value} {ci b : Nat} {fs : List (Option Nat)} {P : Mem → Prop} (hX : Cok X own cc nL) (hR : Rok X (d + 1)) (hm : MthV own index y ci bytes mx ret n) (hC : Cc y bytes mx ret d (.ref b :: As) σ (rQ P)) (hd : decode cc pc = .ok (.invokevirtual index, 3)) (hs : shp[b]? = some (.inl (ci, fs))) (hn : As.length = n) (hnl : ls.length = nL) (hst : st = As.reverse ++ .ref b :: rest) (hcat : csum rest ≤ 8) (kk : ∀ σ2 : Mem, P σ2 → Vw X (pc + 3) ls rest σ2) : Vw X pc ls st σ :=
  V_callV hX hR hm hC hd hs hn hnl hst hcat (fun r σ3 h => by obtain ⟨rfl, h⟩ := h; exact kk σ3 h)
theorem V_callSi {X : XC} {own : String} {cc : ByteArray} {nL pc : Nat} {ls : List (Option Value)} {st : List Value} {σ : Mem} {index n d mx : Nat} {y : MethodName} {bytes : ByteArray} {ret : Option FieldType} {As rest : List Value} {v : Int32} {σ2 : Mem} (hX : Cok X own cc nL) (hR : Rok X (d + 1)) (hm : MthS own index y bytes mx ret n) (hC : Cc y bytes mx ret d (As) σ (rI v σ2)) (hd : decode cc pc = .ok (.invokestatic index, 3)) (hn : As.length = n) (hnl : ls.length = nL) (hst : st = As.reverse ++ rest) (hcat : csum rest ≤ 8) (kk : Vw X (pc + 3) ls (.int v :: rest) σ2) : Vw X pc ls st σ :=
  V_callS hX hR hm hC hd hn hnl hst hcat (fun r σ3 h => by obtain ⟨rfl, rfl⟩ := h; exact kk)
theorem V_callSv {X : XC} {own : String} {cc : ByteArray} {nL pc : Nat} {ls : List (Option Value)} {st : List Value} {σ : Mem} {index n d mx : Nat} {y : MethodName} {bytes : ByteArray} {ret : Option FieldType} {As rest : List Value} {σ2 : Mem} (hX : Cok X own cc nL) (hR : Rok X (d + 1)) (hm : MthS own index y bytes mx ret n) (hC : Cc y bytes mx ret d (As) σ (rV σ2)) (hd : decode cc pc = .ok (.invokestatic index, 3)) (hn : As.length = n) (hnl : ls.length = nL) (hst : st = As.reverse ++ rest) (hcat : csum rest ≤ 8) (kk : Vw X (pc + 3) ls rest σ2) : Vw X pc ls st σ :=
  V_callS hX hR hm hC hd hn hnl hst hcat (fun r σ3 h => by obtain ⟨rfl, rfl⟩ := h; exact kk)
theorem V_callSp {X : XC} {own : String} {cc : ByteArray} {nL pc : Nat} {ls : List (Option Value)} {st : List Value} {σ : Mem} {index n d mx : Nat} {y : MethodName} {bytes : ByteArray} {ret : Option FieldType} {As rest : List Value} {P : Int32 → Mem → Prop} (hX : Cok X own cc nL) (hR : Rok X (d + 1)) (hm : MthS own index y bytes mx ret n) (hC : Cc y bytes mx ret d (As) σ (rP P)) (hd : decode cc pc = .ok (.invokestatic index, 3)) (hn : As.length = n) (hnl : ls.length = nL) (hst : st = As.reverse ++ rest) (hcat : csum rest ≤ 8) (kk : ∀ (v : Int32) (σ2 : Mem), P v σ2 → Vw X (pc + 3) ls (.int v :: rest) σ2) : Vw X pc ls st σ :=
  V_callS hX hR hm hC hd hn hnl hst hcat (fun r σ3 h => by obtain ⟨v, rfl, h⟩ := h; exact kk v σ3 h)
theorem V_callSq {X : XC} {own : String} {cc : ByteArray} {nL pc : Nat} {ls : List (Option Value)} {st : List Value} {σ : Mem} {index n d mx : Nat} {y : MethodName} {bytes : ByteArray} {ret : Option FieldType} {As rest : List Value} {P : Mem → Prop} (hX : Cok X own cc nL) (hR : Rok X (d + 1)) (hm : MthS own index y bytes mx ret n) (hC : Cc y bytes mx ret d (As) σ (rQ P)) (hd : decode cc pc = .ok (.invokestatic index, 3)) (hn : As.length = n) (hnl : ls.length = nL) (hst : st = As.reverse ++ rest) (hcat : csum rest ≤ 8) (kk : ∀ σ2 : Mem, P σ2 → Vw X (pc + 3) ls rest σ2) : Vw X pc ls st σ :=
  V_callS hX hR hm hC hd hn hnl hst hcat (fun r σ3 h => by obtain ⟨rfl, h⟩ := h; exact kk σ3 h)
theorem V_if_eqB {X : XC} {own : String} {cc : ByteArray} {nL pc : Nat} {ls : List (Option Value)} {st : List Value} {σ : Mem} {b : Bool} {off : Int} {tgt : Nat} (hX : Cok X own cc nL) (hd : decode cc pc = .ok (.ifCond .eq off, 3)) (ht : (pc : Int) + off = (tgt : Int)) (kt : b = false → Vw X tgt ls st σ) (kf : b = true → Vw X (pc + 3) ls st σ) : Vw X pc ls (.int (bI b) :: st) σ :=
  V_if_eq hX hd ht (fun h => kt (bI_z.mp h)) (fun h => kf (by cases b with
    | true => rfl
    | false => exact absurd (bI_z.mpr rfl) h))
theorem V_if_neB {X : XC} {own : String} {cc : ByteArray} {nL pc : Nat} {ls : List (Option Value)} {st : List Value} {σ : Mem} {b : Bool} {off : Int} {tgt : Nat} (hX : Cok X own cc nL) (hd : decode cc pc = .ok (.ifCond .ne off, 3)) (ht : (pc : Int) + off = (tgt : Int)) (kt : b = true → Vw X tgt ls st σ) (kf : b = false → Vw X (pc + 3) ls st σ) : Vw X pc ls (.int (bI b) :: st) σ :=
  V_if_ne hX hd ht (fun h => kt (by cases b with
    | true => rfl
    | false => exact absurd (bI_z.mpr rfl) h)) (fun h => kf (bI_z.mp h))
theorem V_icmp_eqN {X : XC} {own : String} {cc : ByteArray} {nL pc : Nat} {ls : List (Option Value)} {st : List Value} {σ : Mem} {a b : Nat} {off : Int} {tgt : Nat} (hX : Cok X own cc nL) (hd : decode cc pc = .ok (.if_icmp .eq off, 3)) (ht : (pc : Int) + off = (tgt : Int)) (ha : a < 2 ^ 31) (hb : b < 2 ^ 31) (kt : a = b → Vw X tgt ls st σ) (kf : a ≠ b → Vw X (pc + 3) ls st σ) : Vw X pc ls (.int (nI b) :: .int (nI a) :: st) σ :=
  V_icmp_eq hX hd ht (fun h => kt ((nI_eq ha hb).mp h)) (fun h => kf (fun q => h ((nI_eq ha hb).mpr q)))
theorem V_icmp_neN {X : XC} {own : String} {cc : ByteArray} {nL pc : Nat} {ls : List (Option Value)} {st : List Value} {σ : Mem} {a b : Nat} {off : Int} {tgt : Nat} (hX : Cok X own cc nL) (hd : decode cc pc = .ok (.if_icmp .ne off, 3)) (ht : (pc : Int) + off = (tgt : Int)) (ha : a < 2 ^ 31) (hb : b < 2 ^ 31) (kt : a ≠ b → Vw X tgt ls st σ) (kf : a = b → Vw X (pc + 3) ls st σ) : Vw X pc ls (.int (nI b) :: .int (nI a) :: st) σ :=
  V_icmp_ne hX hd ht (fun h => kt (fun q => h ((nI_eq ha hb).mpr q))) (fun h => kf ((nI_eq ha hb).mp h))
theorem V_icmp_ltN {X : XC} {own : String} {cc : ByteArray} {nL pc : Nat} {ls : List (Option Value)} {st : List Value} {σ : Mem} {a b : Nat} {off : Int} {tgt : Nat} (hX : Cok X own cc nL) (hd : decode cc pc = .ok (.if_icmp .lt off, 3)) (ht : (pc : Int) + off = (tgt : Int)) (ha : a < 2 ^ 31) (hb : b < 2 ^ 31) (kt : a < b → Vw X tgt ls st σ) (kf : b ≤ a → Vw X (pc + 3) ls st σ) : Vw X pc ls (.int (nI b) :: .int (nI a) :: st) σ :=
  V_icmp_lt hX hd ht (fun h => kt ((nI_ltI ha hb).mp h)) (fun h => kf (Nat.not_lt.mp (fun q => h ((nI_ltI ha hb).mpr q))))
theorem V_icmp_geN {X : XC} {own : String} {cc : ByteArray} {nL pc : Nat} {ls : List (Option Value)} {st : List Value} {σ : Mem} {a b : Nat} {off : Int} {tgt : Nat} (hX : Cok X own cc nL) (hd : decode cc pc = .ok (.if_icmp .ge off, 3)) (ht : (pc : Int) + off = (tgt : Int)) (ha : a < 2 ^ 31) (hb : b < 2 ^ 31) (kt : b ≤ a → Vw X tgt ls st σ) (kf : a < b → Vw X (pc + 3) ls st σ) : Vw X pc ls (.int (nI b) :: .int (nI a) :: st) σ :=
  V_icmp_ge hX hd ht (fun h => kt ((nI_leI hb ha).mp h)) (fun h => kf (Nat.not_le.mp (fun q => h ((nI_leI hb ha).mpr q))))
theorem V_icmp_gtN {X : XC} {own : String} {cc : ByteArray} {nL pc : Nat} {ls : List (Option Value)} {st : List Value} {σ : Mem} {a b : Nat} {off : Int} {tgt : Nat} (hX : Cok X own cc nL) (hd : decode cc pc = .ok (.if_icmp .gt off, 3)) (ht : (pc : Int) + off = (tgt : Int)) (ha : a < 2 ^ 31) (hb : b < 2 ^ 31) (kt : b < a → Vw X tgt ls st σ) (kf : a ≤ b → Vw X (pc + 3) ls st σ) : Vw X pc ls (.int (nI b) :: .int (nI a) :: st) σ :=
  V_icmp_gt hX hd ht (fun h => kt ((nI_ltI hb ha).mp h)) (fun h => kf (Nat.not_lt.mp (fun q => h ((nI_ltI hb ha).mpr q))))
theorem V_icmp_leN {X : XC} {own : String} {cc : ByteArray} {nL pc : Nat} {ls : List (Option Value)} {st : List Value} {σ : Mem} {a b : Nat} {off : Int} {tgt : Nat} (hX : Cok X own cc nL) (hd : decode cc pc = .ok (.if_icmp .le off, 3)) (ht : (pc : Int) + off = (tgt : Int)) (ha : a < 2 ^ 31) (hb : b < 2 ^ 31) (kt : a ≤ b → Vw X tgt ls st σ) (kf : b < a → Vw X (pc + 3) ls st σ) : Vw X pc ls (.int (nI b) :: .int (nI a) :: st) σ :=
  V_icmp_le hX hd ht (fun h => kt ((nI_leI ha hb).mp h)) (fun h => kf (Nat.not_le.mp (fun q => h ((nI_leI ha hb).mpr q))))
theorem mu_at {σ : Mem} {p i : Nat} {v : Int32} : mu σ p i v p i = v := by simp [mu]
theorem mu_np {σ : Mem} {p q i j : Nat} {v : Int32} (h : q ≠ p) : mu σ p i v q j = σ q j := by simp [mu, h]
theorem mu_ni {σ : Mem} {p i j : Nat} {v : Int32} (h : j ≠ i) : mu σ p i v p j = σ p j := by simp [mu, h]
end
section
theorem mX3_35 : Cond.methodLink RX3 35 arraycopyName ∈ lw_w := lw_mem 307 (by decide +kernel) (by decide +kernel)
theorem mX2_57 : Cond.methodLink RX2 57 Lib.Math.min.name ∈ lw_w := lw_mem 359 (by decide +kernel) (by decide +kernel)
theorem mX2_74 : Cond.methodLink RX2 74 Lib.Math.max.name ∈ lw_w := lw_mem 402 (by decide +kernel) (by decide +kernel)
theorem mX1_69 : Cond.methodLink RX1 69 Lib.Math.min.name ∈ lw_w := lw_mem 467 (by decide +kernel) (by decide +kernel)
theorem mX4_71 : Cond.methodLink RX4 71 Lib.Math.min.name ∈ lw_w := lw_mem 539 (by decide +kernel) (by decide +kernel)

set_option maxRecDepth 100000 in
set_option maxHeartbeats 4000000 in
theorem c_isUnder (x b : Int32) (σ : Mem) : Cc yX5_isUnder cX5_isUnder 2 (some .boolean) 0 [.int x, .int b] σ (rI (bI (decide (0 ≤ x ∧ x < b))) σ) := by
  refine Cc.intro (by decide +kernel) [some (.int x), some (.int b)] (fun _ => rfl) rfl (fun _ => Nat.le_of_ble_eq_true rfl) ?_
  intro X hX hR hr
  refine V_iload_n (pc := 0) (i := 0) hX dX5_isUnder_0 rfl rfl ?_
  refine V_if_lt (pc := 1) (tgt := 13) hX dX5_isUnder_1 (by decide) (fun h1 => ?_) (fun h1 => ?_)
  · refine V_iconst (pc := 13) (v := (nI 0)) hX dX5_isUnder_13 (by decide +kernel) ?_
    exact V_iret (pc := 14) (st := []) hX hr (by first | rfl | exact bI_nar _ | decide +kernel) dX5_isUnder_14 (⟨by rw [decide_eq_false (fun h => Int32.not_le.mpr h1 h.1)]; rfl, rfl⟩)
  · refine V_iload_n (pc := 4) (i := 0) hX dX5_isUnder_4 rfl rfl ?_
    refine V_iload_n (pc := 5) (i := 1) hX dX5_isUnder_5 rfl rfl ?_
    refine V_icmp_ge (pc := 6) (tgt := 13) hX dX5_isUnder_6 (by decide) (fun h6 => ?_) (fun h6 => ?_)
    · refine V_iconst (pc := 13) (v := (nI 0)) hX dX5_isUnder_13 (by decide +kernel) ?_
      exact V_iret (pc := 14) (st := []) hX hr (by first | rfl | exact bI_nar _ | decide +kernel) dX5_isUnder_14 (⟨by rw [decide_eq_false (fun h => Int32.not_le.mpr h.2 h6)]; rfl, rfl⟩)
    · refine V_iconst (pc := 9) (v := (nI 1)) hX dX5_isUnder_9 (by decide +kernel) ?_
      refine V_goto (pc := 10) (tgt := 14) hX dX5_isUnder_10 (by decide) ?_
      exact V_iret (pc := 14) (st := []) hX hr (by first | rfl | exact bI_nar _ | decide +kernel) dX5_isUnder_14 (⟨by rw [decide_eq_true (⟨Int32.not_lt.mp h1, Int32.not_le.mp h6⟩)]; rfl, rfl⟩)

set_option maxRecDepth 100000 in
set_option maxHeartbeats 4000000 in
theorem c_isWithin (x a b : Int32) (σ : Mem) : Cc yX5_isWithin cX5_isWithin 3 (some .boolean) 0 [.int x, .int a, .int b] σ (rI (bI (decide (a ≤ x ∧ x ≤ b))) σ) := by
  refine Cc.intro (by decide +kernel) [some (.int x), some (.int a), some (.int b)] (fun _ => rfl) rfl (fun _ => Nat.le_of_ble_eq_true rfl) ?_
  intro X hX hR hr
  refine V_iload_n (pc := 0) (i := 0) hX dX5_isWithin_0 rfl rfl ?_
  refine V_iload_n (pc := 1) (i := 1) hX dX5_isWithin_1 rfl rfl ?_
  refine V_icmp_lt (pc := 2) (tgt := 14) hX dX5_isWithin_2 (by decide) (fun h2 => ?_) (fun h2 => ?_)
  · refine V_iconst (pc := 14) (v := (nI 0)) hX dX5_isWithin_14 (by decide +kernel) ?_
    exact V_iret (pc := 15) (st := []) hX hr (by first | rfl | exact bI_nar _ | decide +kernel) dX5_isWithin_15 (⟨by rw [decide_eq_false (fun h => Int32.not_le.mpr h2 h.1)]; rfl, rfl⟩)
  · refine V_iload_n (pc := 5) (i := 0) hX dX5_isWithin_5 rfl rfl ?_
    refine V_iload_n (pc := 6) (i := 2) hX dX5_isWithin_6 rfl rfl ?_
    refine V_icmp_gt (pc := 7) (tgt := 14) hX dX5_isWithin_7 (by decide) (fun h7 => ?_) (fun h7 => ?_)
    · refine V_iconst (pc := 14) (v := (nI 0)) hX dX5_isWithin_14 (by decide +kernel) ?_
      exact V_iret (pc := 15) (st := []) hX hr (by first | rfl | exact bI_nar _ | decide +kernel) dX5_isWithin_15 (⟨by rw [decide_eq_false (fun h => Int32.not_le.mpr h7 h.2)]; rfl, rfl⟩)
    · refine V_iconst (pc := 10) (v := (nI 1)) hX dX5_isWithin_10 (by decide +kernel) ?_
      refine V_goto (pc := 11) (tgt := 15) hX dX5_isWithin_11 (by decide) ?_
      exact V_iret (pc := 15) (st := []) hX hr (by first | rfl | exact bI_nar _ | decide +kernel) dX5_isWithin_15 (⟨by rw [decide_eq_true (⟨Int32.not_lt.mp h2, Int32.not_lt.mp h7⟩)]; rfl, rfl⟩)

theorem bit1 (x : Int32) : (x &&& nI 1 = 0) ↔ bt x 0 = false := by
  constructor
  · intro h
    have h1 : bt (x &&& nI 1) 0 = false := by rw [h]; exact b_0 0
    rw [b_and] at h1
    have h2 : bt (nI 1) 0 = true := by decide +kernel
    rw [h2, Bool.and_true] at h1
    exact h1
  · intro h
    apply b_ext
    intro i hi
    rw [b_and, b_0]
    by_cases h0 : i = 0
    · subst h0; rw [h]; rfl
    · have h2 : ∀ i, i < 32 → i ≠ 0 → bt (nI 1) i = false := by decide +kernel
      rw [h2 i hi h0, Bool.and_false]

set_option maxRecDepth 100000 in
set_option maxHeartbeats 4000000 in
theorem c_holds (x : Int32) (k : Nat) (hk : k < 32) (σ : Mem) : Cc yX5_holds cX5_holds 2 (some .boolean) 0 [.int x, .int (nI k)] σ (rI (bI (bt x k)) σ) := by
  refine Cc.intro (by decide +kernel) [some (.int x), some (.int (nI k))] (fun _ => rfl) rfl (fun _ => Nat.le_of_ble_eq_true rfl) ?_
  intro X hX hR hr
  refine V_iload_n (pc := 0) (i := 0) hX dX5_holds_0 rfl rfl ?_
  refine V_iload_n (pc := 1) (i := 1) hX dX5_holds_1 rfl rfl ?_
  refine V_iushr (pc := 2) hX dX5_holds_2 ?_
  refine V_iconst (pc := 3) (v := (nI 1)) hX dX5_holds_3 (by decide +kernel) ?_
  refine V_iand (pc := 4) hX dX5_holds_4 ?_
  refine V_if_eq (pc := 5) (tgt := 12) hX dX5_holds_5 (by decide) (fun h5 => ?_) (fun h5 => ?_)
  · refine V_iconst (pc := 12) (v := (nI 0)) hX dX5_holds_12 (by decide +kernel) ?_
    exact V_iret (pc := 13) (st := []) hX hr (by first | rfl | exact bI_nar _ | decide +kernel) dX5_holds_13 (⟨by
      rw [bit1, b_ushr k hk, Nat.add_zero] at h5
      rw [h5]; rfl, rfl⟩)
  · refine V_iconst (pc := 8) (v := (nI 1)) hX dX5_holds_8 (by decide +kernel) ?_
    refine V_goto (pc := 9) (tgt := 13) hX dX5_holds_9 (by decide) ?_
    exact V_iret (pc := 13) (st := []) hX hr (by first | rfl | exact bI_nar _ | decide +kernel) dX5_holds_13 (⟨by
      rw [bit1, b_ushr k hk, Nat.add_zero] at h5
      rw [Bool.not_eq_false] at h5
      rw [h5]; rfl, rfl⟩)

set_option maxRecDepth 100000 in
set_option maxHeartbeats 4000000 in
theorem c_in (x a b : Int64) (σ : Mem) : Cc yX6_in cX6_in 6 (some .boolean) 0 [.long x, .long a, .long b] σ (rI (bI (decide (a ≤ x ∧ x ≤ b))) σ) := by
  refine Cc.intro (by decide +kernel) [some (.long x), none, some (.long a), none, some (.long b), none] (fun _ => rfl) rfl (fun _ => Nat.le_of_ble_eq_true rfl) ?_
  intro X hX hR hr
  refine V_lload_n (pc := 0) (i := 0) hX dX6_in_0 rfl rfl ?_
  refine V_lload_n (pc := 1) (i := 2) hX dX6_in_1 rfl rfl ?_
  refine V_lcmp (pc := 2) hX dX6_in_2 ?_
  refine V_if_lt (pc := 3) (tgt := 17) hX dX6_in_3 (by decide) (fun h3 => ?_) (fun h3 => ?_)
  · refine V_iconst (pc := 17) (v := (nI 0)) hX dX6_in_17 (by decide +kernel) ?_
    exact V_iret (pc := 18) (st := []) hX hr (by first | rfl | exact bI_nar _ | decide +kernel) dX6_in_18 (⟨by rw [decide_eq_false (fun h => Int64.not_le.mpr ((lg_cmp_lt _ _).mp h3) h.1)]; rfl, rfl⟩)
  · refine V_lload_n (pc := 6) (i := 0) hX dX6_in_6 rfl rfl ?_
    refine V_lload (pc := 7) (i := 4) hX dX6_in_7 rfl ?_
    refine V_lcmp (pc := 9) hX dX6_in_9 ?_
    refine V_if_gt (pc := 10) (tgt := 17) hX dX6_in_10 (by decide) (fun h10 => ?_) (fun h10 => ?_)
    · refine V_iconst (pc := 17) (v := (nI 0)) hX dX6_in_17 (by decide +kernel) ?_
      exact V_iret (pc := 18) (st := []) hX hr (by first | rfl | exact bI_nar _ | decide +kernel) dX6_in_18 (⟨by rw [decide_eq_false (fun h => Int64.not_le.mpr ((lg_cmp_gt _ _).mp h10) h.2)]; rfl, rfl⟩)
    · refine V_iconst (pc := 13) (v := (nI 1)) hX dX6_in_13 (by decide +kernel) ?_
      refine V_goto (pc := 14) (tgt := 18) hX dX6_in_14 (by decide) ?_
      exact V_iret (pc := 18) (st := []) hX hr (by first | rfl | exact bI_nar _ | decide +kernel) dX6_in_18 (⟨by rw [decide_eq_true (⟨Int64.not_lt.mp (fun q => h3 ((lg_cmp_lt _ _).mpr q)), Int64.not_lt.mp (fun q => h10 ((lg_cmp_gt _ _).mpr q))⟩)]; rfl, rfl⟩)
end
section
/-! ===== SETS (the class's): answers as functions of the memory ===== -/
/-- the prices of the first t things that are among the bits, added -/
def pf (b : Int32) (pr : Nat → Int32) : Nat → Int32
  | 0 => nI 0
  | t + 1 => if bt b t then pf b pr t + pr t else pf b pr t
def imin (x y : Int32) : Int32 := if y < x then y else x
def imax (x y : Int32) : Int32 := if x < y then y else x
/-- the least gap of the first k sets that have t -/
def lgap (c th : Nat → Int32) (pr : Nat → Int32) (t : Nat) : Nat → Int32
  | 0 => nI 1000
  | k + 1 => if bt (th k) t then imin (lgap c th pr t k) (c k - pf (th k) pr 12) else lgap c th pr t k
def havf (th : Nat → Int32) (t : Nat) : Nat → Nat
  | 0 => 0
  | k + 1 => if bt (th k) t then havf th t k + 1 else havf th t k
theorem havf_le (th : Nat → Int32) (t : Nat) : ∀ k, havf th t k ≤ k
  | 0 => Nat.le_refl _
  | k + 1 => by
    have := havf_le th t k
    unfold havf
    split <;> omega
def sharf (d : Int32) (th : Nat → Int32) (n : Nat) : Nat → Int32
  | 0 => nI 0
  | t + 1 => if bt d t then imax (sharf d th n t) (nI (havf th t n)) else sharf d th n t
/-- the kind as it is told -/
def kindf (bo : Int32) (s : Nat) (f c : Int32) : Int32 := if bt bo s then nI 3 else if nI 2 * f < c then nI 1 else nI 2
def nearf (bo : Int32) (c th : Nat → Int32) (pr : Nat → Int32) : Nat → Nat
  | 0 => 0
  | k + 1 => if kindf bo k (pf (th k) pr 12) (c k) = nI 2 then nearf bo c th pr k + 1 else nearf bo c th pr k
theorem nearf_le (bo : Int32) (c th : Nat → Int32) (pr : Nat → Int32) : ∀ k, nearf bo c th pr k ≤ k
  | 0 => Nat.le_refl _
  | k + 1 => by
    have := nearf_le bo c th pr k
    unfold nearf
    split <;> omega
/-- buying: the sets among the first k that have t and are tight: what is bought, what is met, what it costs -/
def tight (c th : Nat → Int32) (pr : Nat → Int32) (t k : Nat) : Bool := bt (th k) t && decide (pf (th k) pr 12 = c k)
def buyB (c th : Nat → Int32) (pr : Nat → Int32) (t : Nat) (b : Int32) : Nat → Int32
  | 0 => b
  | k + 1 => if tight c th pr t k then buyB c th pr t b k ||| (nI 1 <<< (nI k &&& 31)) else buyB c th pr t b k
def buyM (c th : Nat → Int32) (pr : Nat → Int32) (t : Nat) (b : Int32) : Nat → Int32
  | 0 => b
  | k + 1 => if tight c th pr t k then buyM c th pr t b k ||| th k else buyM c th pr t b k
def buyC (c th : Nat → Int32) (pr : Nat → Int32) (t : Nat) : Nat → Int32
  | 0 => nI 0
  | k + 1 => if tight c th pr t k then buyC c th pr t k + c k else buyC c th pr t k

theorem mu_f (σ : Mem) (p i : Nat) (v : Int32) (q : Nat) : mu σ p i v q = if q = p then upd (σ p) i v else σ q := by
  by_cases h : q = p
  · subst h; simp [mu_row]
  · rw [if_neg h, ← mu_ne h]
theorem upd_at (f : Nat → Int32) (k : Nat) (x : Int32) (j : Nat) : upd f k x j = if j = k then x else f j := rfl
theorem mu_mu (σ : Mem) (p i : Nat) (v w : Int32) : mu (mu σ p i v) p i w = mu σ p i w := by
  funext q j
  simp only [mu]
  split <;> simp_all
theorem mu_comm (σ : Mem) {p i q j : Nat} (v w : Int32) (h : ¬ (p = q ∧ i = j)) : mu (mu σ p i v) q j w = mu (mu σ q j w) p i v := by
  funext a b
  simp only [mu]
  by_cases h1 : a = q ∧ b = j
  · rw [if_pos h1, if_neg (fun h2 => h ⟨h2.1.symm.trans h1.1, h2.2.symm.trans h1.2⟩), if_pos h1]
  · rw [if_neg h1, if_neg h1]
theorem mu_self (σ : Mem) (p i : Nat) : mu σ p i (σ p i) = σ := by
  funext a b
  simp only [mu]
  split
  · rename_i h; rw [h.1, h.2]
  · rfl
theorem Vw.mem {X : XC} {pc : Nat} {ls : List (Option Value)} {st : List Value} {σ σ' : Mem} (e : σ' = σ) (h : Vw X pc ls st σ') : Vw X pc ls st σ := e ▸ h

set_option maxRecDepth 100000 in
set_option maxHeartbeats 4000000 in
theorem l_pricesOf {b : Int32} {X : XC} {P : Option Value → Mem → Prop} {σ : Mem} (hX : Cok X RX2 cX2_pricesOf 4) (hR : Rok X 1) (hr : Ret X (some .int) P) (hp : P (some (.int (pf b (σ 19) 12))) σ) (k : Nat) (hk : k ≤ 12) : Vw X 4 [some (.ref 2), some (.int b), some (.int (pf b (σ 19) k)), some (.int (nI k))] [] σ := by
  refine V_iload_n (pc := 4) (i := 3) hX dX2_pricesOf_4 rfl rfl ?_
  refine V_bipush (pc := 5) (v := (nI 12)) hX dX2_pricesOf_5 (by decide +kernel) ?_
  refine V_icmp_geN (pc := 7) (tgt := 33) hX dX2_pricesOf_7 (by decide) (by omega) (by omega) (fun h7 => ?_) (fun h7 => ?_)
  · obtain rfl : k = 12 := by omega
    refine V_iload_n (pc := 33) (i := 2) hX dX2_pricesOf_33 rfl rfl ?_
    exact V_iret (pc := 34) (st := []) hX hr (by first | rfl | exact bI_nar _ | decide +kernel) dX2_pricesOf_34 (hp)
  · refine V_iload_n (pc := 10) (i := 1) hX dX2_pricesOf_10 rfl rfl ?_
    refine V_iload_n (pc := 11) (i := 3) hX dX2_pricesOf_11 rfl rfl ?_
    refine V_callSi (pc := 12) hX (hR.mono (by decide)) mX2_32 (c_holds _ _ (by omega) _) dX2_pricesOf_12 rfl rfl rfl (Nat.le_of_ble_eq_true rfl) ?_
    refine V_if_eqB (pc := 15) (tgt := 27) hX dX2_pricesOf_15 (by decide) (fun h15 => ?_) (fun h15 => ?_)
    · refine V_iinc3 (pc := 27) hX dX2_pricesOf_27 rfl (iinc1 _) ?_
      refine V_goto (pc := 30) (tgt := 4) hX dX2_pricesOf_30 (by decide) ?_
      have ih := l_pricesOf hX hR hr hp (k + 1) (by omega)
      simp only [pf, h15, ↓reduceIte, Bool.false_eq_true] at ih
      exact ih
    · refine V_iload_n (pc := 18) (i := 2) hX dX2_pricesOf_18 rfl rfl ?_
      refine V_aload_n (pc := 19) (i := 0) hX dX2_pricesOf_19 rfl rfl ?_
      refine V_getr (pc := 20) hX fX2_18 dX2_pricesOf_20 rfl rfl ?_
      refine V_iload_n (pc := 23) (i := 3) hX dX2_pricesOf_23 rfl rfl ?_
      refine V_iald (pc := 24) hX dX2_pricesOf_24 (rfl) (rfl) (by omega) (by decide) ?_
      refine V_iadd (pc := 25) hX dX2_pricesOf_25 ?_
      refine V_istore2 (pc := 26) hX dX2_pricesOf_26 rfl ?_
      refine V_iinc3 (pc := 27) hX dX2_pricesOf_27 rfl (iinc1 _) ?_
      refine V_goto (pc := 30) (tgt := 4) hX dX2_pricesOf_30 (by decide) ?_
      have ih := l_pricesOf hX hR hr hp (k + 1) (by omega)
      simp only [pf, h15, ↓reduceIte, Bool.false_eq_true] at ih
      exact ih
termination_by 12 - k

set_option maxRecDepth 100000 in
set_option maxHeartbeats 4000000 in
theorem c_pricesOf (b : Int32) (σ : Mem) : Cc yX2_pricesOf cX2_pricesOf 4 (some .int) 1 [.ref 2, .int b] σ (rI (pf b (σ 19) 12) σ) := by
  refine Cc.intro (by decide +kernel) [some (.ref 2), some (.int b), none, none] (fun _ => rfl) rfl (fun _ => Nat.le_of_ble_eq_true rfl) ?_
  intro X hX hR hr
  refine V_iconst (pc := 0) (v := (nI 0)) hX dX2_pricesOf_0 (by decide +kernel) ?_
  refine V_istore2 (pc := 1) hX dX2_pricesOf_1 rfl ?_
  refine V_iconst (pc := 2) (v := (nI 0)) hX dX2_pricesOf_2 (by decide +kernel) ?_
  refine V_istore3 (pc := 3) hX dX2_pricesOf_3 rfl ?_
  exact l_pricesOf hX hR hr ⟨rfl, rfl⟩ 0 (by omega)

set_option maxRecDepth 100000 in
set_option maxHeartbeats 4000000 in
theorem c_filled (s : Nat) (hs : s < 10) (σ : Mem) : Cc yX2_filled cX2_filled 2 (some .int) 2 [.ref 2, .int (nI s)] σ (rI (pf (σ 18 s) (σ 19) 12) σ) := by
  refine Cc.intro (by decide +kernel) [some (.ref 2), some (.int (nI s))] (fun _ => rfl) rfl (fun _ => Nat.le_of_ble_eq_true rfl) ?_
  intro X hX hR hr
  refine V_aload_n (pc := 0) (i := 0) hX dX2_filled_0 rfl rfl ?_
  refine V_aload_n (pc := 1) (i := 0) hX dX2_filled_1 rfl rfl ?_
  refine V_getr (pc := 2) hX fX2_15 dX2_filled_2 rfl rfl ?_
  refine V_iload_n (pc := 5) (i := 1) hX dX2_filled_5 rfl rfl ?_
  refine V_iald (pc := 6) hX dX2_filled_6 (rfl) (rfl) (by omega) (by decide) ?_
  refine V_callVi (pc := 7) hX (hR.mono (by decide)) mX2_63 (c_pricesOf _ _) dX2_filled_7 rfl rfl rfl rfl (Nat.le_of_ble_eq_true rfl) ?_
  exact V_iret (pc := 10) (st := []) hX hr (by first | rfl | exact bI_nar _ | decide +kernel) dX2_filled_10 (⟨rfl, rfl⟩)

set_option maxRecDepth 100000 in
set_option maxHeartbeats 4000000 in
theorem c_pricesAdded (σ : Mem) : Cc yX2_pricesAdded cX2_pricesAdded 1 (some .int) 2 [.ref 2] σ (rI (pf (nI 4095) (σ 19) 12) σ) := by
  refine Cc.intro (by decide +kernel) [some (.ref 2)] (fun _ => rfl) rfl (fun _ => Nat.le_of_ble_eq_true rfl) ?_
  intro X hX hR hr
  refine V_aload_n (pc := 0) (i := 0) hX dX2_pricesAdded_0 rfl rfl ?_
  refine V_sipush (pc := 1) (v := (nI 4095)) hX dX2_pricesAdded_1 (by decide +kernel) ?_
  refine V_callVi (pc := 4) hX (hR.mono (by decide)) mX2_63 (c_pricesOf _ _) dX2_pricesAdded_4 rfl rfl rfl rfl (Nat.le_of_ble_eq_true rfl) ?_
  exact V_iret (pc := 7) (st := []) hX hr (by first | rfl | exact bI_nar _ | decide +kernel) dX2_pricesAdded_7 (⟨rfl, rfl⟩)

set_option maxRecDepth 100000 in
set_option maxHeartbeats 4000000 in
theorem c_isSet (x : Int32) (σ : Mem) : Cc yX2_isSet cX2_isSet 2 (some .boolean) 1 [.ref 2, .int x] σ (rI (bI (decide (0 ≤ x ∧ x < σ 2 3))) σ) := by
  refine Cc.intro (by decide +kernel) [some (.ref 2), some (.int x)] (fun _ => rfl) rfl (fun _ => Nat.le_of_ble_eq_true rfl) ?_
  intro X hX hR hr
  refine V_iload_n (pc := 0) (i := 1) hX dX2_isSet_0 rfl rfl ?_
  refine V_aload_n (pc := 1) (i := 0) hX dX2_isSet_1 rfl rfl ?_
  refine V_getf (pc := 2) hX fX2_21 dX2_isSet_2 rfl rfl ?_
  refine V_callSi (pc := 5) hX (hR.mono (by decide)) mX2_25 (c_isUnder _ _ _) dX2_isSet_5 rfl rfl rfl (Nat.le_of_ble_eq_true rfl) ?_
  exact V_iret (pc := 8) (st := []) hX hr (by first | rfl | exact bI_nar _ | decide +kernel) dX2_isSet_8 (⟨rfl, rfl⟩)

set_option maxRecDepth 100000 in
set_option maxHeartbeats 4000000 in
theorem c_isOffered (t : Nat) (ht : t < 12) (σ : Mem) : Cc yX2_isOffered cX2_isOffered 2 (some .boolean) 1 [.ref 2, .int (nI t)] σ (rI (bI (bt (σ 2 4) t)) σ) := by
  refine Cc.intro (by decide +kernel) [some (.ref 2), some (.int (nI t))] (fun _ => rfl) rfl (fun _ => Nat.le_of_ble_eq_true rfl) ?_
  intro X hX hR hr
  refine V_aload_n (pc := 0) (i := 0) hX dX2_isOffered_0 rfl rfl ?_
  refine V_getf (pc := 1) hX fX2_29 dX2_isOffered_1 rfl rfl ?_
  refine V_iload_n (pc := 4) (i := 1) hX dX2_isOffered_4 rfl rfl ?_
  refine V_callSi (pc := 5) hX (hR.mono (by decide)) mX2_32 (c_holds _ _ (by omega) _) dX2_isOffered_5 rfl rfl rfl (Nat.le_of_ble_eq_true rfl) ?_
  exact V_iret (pc := 8) (st := []) hX hr (by first | rfl | exact bI_nar _ | decide +kernel) dX2_isOffered_8 (⟨rfl, rfl⟩)

set_option maxRecDepth 100000 in
set_option maxHeartbeats 4000000 in
theorem c_isBought (t : Nat) (ht : t < 10) (σ : Mem) : Cc yX2_isBought cX2_isBought 2 (some .boolean) 1 [.ref 2, .int (nI t)] σ (rI (bI (bt (σ 2 6) t)) σ) := by
  refine Cc.intro (by decide +kernel) [some (.ref 2), some (.int (nI t))] (fun _ => rfl) rfl (fun _ => Nat.le_of_ble_eq_true rfl) ?_
  intro X hX hR hr
  refine V_aload_n (pc := 0) (i := 0) hX dX2_isBought_0 rfl rfl ?_
  refine V_getf (pc := 1) hX fX2_35 dX2_isBought_1 rfl rfl ?_
  refine V_iload_n (pc := 4) (i := 1) hX dX2_isBought_4 rfl rfl ?_
  refine V_callSi (pc := 5) hX (hR.mono (by decide)) mX2_32 (c_holds _ _ (by omega) _) dX2_isBought_5 rfl rfl rfl (Nat.le_of_ble_eq_true rfl) ?_
  exact V_iret (pc := 8) (st := []) hX hr (by first | rfl | exact bI_nar _ | decide +kernel) dX2_isBought_8 (⟨rfl, rfl⟩)

set_option maxRecDepth 100000 in
set_option maxHeartbeats 4000000 in
theorem l_leastGap {n t : Nat} {X : XC} {P : Option Value → Mem → Prop} {σ : Mem} (hX : Cok X RX2 cX2_leastGap 4) (hR : Rok X 4) (hr : Ret X (some .int) P) (hn : σ 2 3 = nI n) (hn10 : n ≤ 10) (ht : t < 12) (hp : P (some (.int (lgap (σ 17) (σ 18) (σ 19) t n))) σ) (k : Nat) (hk : k ≤ n) : Vw X 6 [some (.ref 2), some (.int (nI t)), some (.int (lgap (σ 17) (σ 18) (σ 19) t k)), some (.int (nI k))] [] σ := by
  refine V_iload_n (pc := 6) (i := 3) hX dX2_leastGap_6 rfl rfl ?_
  refine V_aload_n (pc := 7) (i := 0) hX dX2_leastGap_7 rfl rfl ?_
  refine V_getf (pc := 8) hX fX2_21 dX2_leastGap_8 rfl rfl ?_
  rw [hn]
  refine V_icmp_geN (pc := 11) (tgt := 50) hX dX2_leastGap_11 (by decide) (by omega) (by omega) (fun h11 => ?_) (fun h11 => ?_)
  · obtain rfl : k = n := by omega
    refine V_iload_n (pc := 50) (i := 2) hX dX2_leastGap_50 rfl rfl ?_
    exact V_iret (pc := 51) (st := []) hX hr (by first | rfl | exact bI_nar _ | decide +kernel) dX2_leastGap_51 (hp)
  · refine V_aload_n (pc := 14) (i := 0) hX dX2_leastGap_14 rfl rfl ?_
    refine V_getr (pc := 15) hX fX2_15 dX2_leastGap_15 rfl rfl ?_
    refine V_iload_n (pc := 18) (i := 3) hX dX2_leastGap_18 rfl rfl ?_
    refine V_iald (pc := 19) hX dX2_leastGap_19 (rfl) (rfl) (by omega) (by decide) ?_
    refine V_iload_n (pc := 20) (i := 1) hX dX2_leastGap_20 rfl rfl ?_
    refine V_callSi (pc := 21) hX (hR.mono (by decide)) mX2_32 (c_holds _ _ (by omega) _) dX2_leastGap_21 rfl rfl rfl (Nat.le_of_ble_eq_true rfl) ?_
    refine V_if_eqB (pc := 24) (tgt := 44) hX dX2_leastGap_24 (by decide) (fun h24 => ?_) (fun h24 => ?_)
    · refine V_iinc3 (pc := 44) hX dX2_leastGap_44 rfl (iinc1 _) ?_
      refine V_goto (pc := 47) (tgt := 6) hX dX2_leastGap_47 (by decide) ?_
      have ih := l_leastGap hX hR hr hn hn10 ht hp (k + 1) (by omega)
      simp only [lgap, h24, ↓reduceIte, Bool.false_eq_true] at ih
      exact ih
    · refine V_iload_n (pc := 27) (i := 2) hX dX2_leastGap_27 rfl rfl ?_
      refine V_aload_n (pc := 28) (i := 0) hX dX2_leastGap_28 rfl rfl ?_
      refine V_getr (pc := 29) hX fX2_9 dX2_leastGap_29 rfl rfl ?_
      refine V_iload_n (pc := 32) (i := 3) hX dX2_leastGap_32 rfl rfl ?_
      refine V_iald (pc := 33) hX dX2_leastGap_33 (rfl) (rfl) (by omega) (by decide) ?_
      refine V_aload_n (pc := 34) (i := 0) hX dX2_leastGap_34 rfl rfl ?_
      refine V_iload_n (pc := 35) (i := 3) hX dX2_leastGap_35 rfl rfl ?_
      refine V_callVi (pc := 36) hX (hR.mono (by decide)) mX2_54 (c_filled _ (by omega) _) dX2_leastGap_36 rfl rfl rfl rfl (Nat.le_of_ble_eq_true rfl) ?_
      refine V_isub (pc := 39) hX dX2_leastGap_39 ?_
      refine V_mmin (pc := 40) hX (hR.mono (by decide)) mX2_57 dX2_leastGap_40 rfl (Nat.le_of_ble_eq_true rfl) ?_
      refine V_istore2 (pc := 43) hX dX2_leastGap_43 rfl ?_
      refine V_iinc3 (pc := 44) hX dX2_leastGap_44 rfl (iinc1 _) ?_
      refine V_goto (pc := 47) (tgt := 6) hX dX2_leastGap_47 (by decide) ?_
      have ih := l_leastGap hX hR hr hn hn10 ht hp (k + 1) (by omega)
      simp only [lgap, h24, ↓reduceIte, Bool.false_eq_true] at ih
      exact ih
termination_by n - k

set_option maxRecDepth 100000 in
set_option maxHeartbeats 4000000 in
theorem c_leastGap (n t : Nat) (σ : Mem) (hn : σ 2 3 = nI n) (hn10 : n ≤ 10) (ht : t < 12) : Cc yX2_leastGap cX2_leastGap 4 (some .int) 4 [.ref 2, .int (nI t)] σ (rI (lgap (σ 17) (σ 18) (σ 19) t n) σ) := by
  refine Cc.intro (by decide +kernel) [some (.ref 2), some (.int (nI t)), none, none] (fun _ => rfl) rfl (fun _ => Nat.le_of_ble_eq_true rfl) ?_
  intro X hX hR hr
  refine V_sipush (pc := 0) (v := (nI 1000)) hX dX2_leastGap_0 (by decide +kernel) ?_
  refine V_istore2 (pc := 3) hX dX2_leastGap_3 rfl ?_
  refine V_iconst (pc := 4) (v := (nI 0)) hX dX2_leastGap_4 (by decide +kernel) ?_
  refine V_istore3 (pc := 5) hX dX2_leastGap_5 rfl ?_
  exact l_leastGap hX hR hr hn hn10 ht ⟨rfl, rfl⟩ 0 (by omega)

def mbuy (σ : Mem) (t k : Nat) : Mem := mu (mu σ 2 6 (buyB (σ 17) (σ 18) (σ 19) t (σ 2 6) k)) 2 7 (buyM (σ 17) (σ 18) (σ 19) t (σ 2 7) k)
theorem mbuy_0 (σ : Mem) (t : Nat) : mbuy σ t 0 = σ := by
  unfold mbuy buyB buyM
  rw [mu_self]
  exact mu_self σ 2 7
theorem mbuy_t {σ : Mem} {t k : Nat} (h1 : bt (σ 18 k) t = true) (h2 : pf (σ 18 k) (σ 19) 12 = σ 17 k) : mbuy σ t (k + 1) = mu (mu (mbuy σ t k) 2 6 (mbuy σ t k 2 6 ||| (nI 1 <<< (nI k &&& 31)))) 2 7 (mbuy σ t k 2 7 ||| σ 18 k) := by
  have ht : tight (σ 17) (σ 18) (σ 19) t k = true := by simp [tight, h1, h2]
  unfold mbuy
  simp only [buyB, buyM, ht, ↓reduceIte]
  funext q j
  simp only [mu]
  by_cases a : q = 2 <;> by_cases b : j = 6 <;> by_cases c : j = 7 <;> simp_all
theorem mbuy_f {σ : Mem} {t k : Nat} (h1 : bt (σ 18 k) t = false ∨ pf (σ 18 k) (σ 19) 12 ≠ σ 17 k) : mbuy σ t (k + 1) = mbuy σ t k := by
  have ht : tight (σ 17) (σ 18) (σ 19) t k = false := by
    rcases h1 with h | h <;> simp [tight, h]
  unfold mbuy
  simp only [buyB, buyM, ht, Bool.false_eq_true, ↓reduceIte]
theorem mbuy_r {σ : Mem} {t k q : Nat} (h : q ≠ 2) : mbuy σ t k q = σ q := by
  unfold mbuy
  rw [← mu_ne h, ← mu_ne h]
theorem mbuy_c {σ : Mem} {t k j : Nat} (h : j ≠ 6) (h2 : j ≠ 7) : mbuy σ t k 2 j = σ 2 j := by
  unfold mbuy
  simp [mu, h, h2]
end
section
set_option maxRecDepth 100000 in
set_option maxHeartbeats 4000000 in
theorem l_buyTight {n t : Nat} {X : XC} {P : Option Value → Mem → Prop} {σ : Mem} (hX : Cok X RX2 cX2_buyTight 4) (hR : Rok X 4) (hr : Ret X (some .int) P) (hn : σ 2 3 = nI n) (hn10 : n ≤ 10) (ht : t < 12) (hp : P (some (.int (buyC (σ 17) (σ 18) (σ 19) t n))) (mbuy σ t n)) (k : Nat) (hk : k ≤ n) : Vw X 4 [some (.ref 2), some (.int (nI t)), some (.int (buyC (σ 17) (σ 18) (σ 19) t k)), some (.int (nI k))] [] (mbuy σ t k) := by
  have r17 : mbuy σ t k 17 = σ 17 := mbuy_r (by decide)
  have r18 : mbuy σ t k 18 = σ 18 := mbuy_r (by decide)
  have r19 : mbuy σ t k 19 = σ 19 := mbuy_r (by decide)
  have r23 : mbuy σ t k 2 3 = nI n := by rw [mbuy_c (by decide) (by decide)]; exact hn
  refine V_iload_n (pc := 4) (i := 3) hX dX2_buyTight_4 rfl rfl ?_
  refine V_aload_n (pc := 5) (i := 0) hX dX2_buyTight_5 rfl rfl ?_
  refine V_getf (pc := 6) hX fX2_21 dX2_buyTight_6 rfl rfl ?_
  rw [r23]
  refine V_icmp_geN (pc := 9) (tgt := 81) hX dX2_buyTight_9 (by decide) (by omega) (by omega) (fun h9 => ?_) (fun h9 => ?_)
  · obtain rfl : k = n := by omega
    refine V_iload_n (pc := 81) (i := 2) hX dX2_buyTight_81 rfl rfl ?_
    exact V_iret (pc := 82) (st := []) hX hr (by first | rfl | exact bI_nar _ | decide +kernel) dX2_buyTight_82 (hp)
  · refine V_aload_n (pc := 12) (i := 0) hX dX2_buyTight_12 rfl rfl ?_
    refine V_getr (pc := 13) hX fX2_15 dX2_buyTight_13 rfl rfl ?_
    refine V_iload_n (pc := 16) (i := 3) hX dX2_buyTight_16 rfl rfl ?_
    refine V_iald (pc := 17) hX dX2_buyTight_17 (rfl) (rfl) (by omega) (by decide) ?_
    refine V_iload_n (pc := 18) (i := 1) hX dX2_buyTight_18 rfl rfl ?_
    refine V_callSi (pc := 19) hX (hR.mono (by omega)) mX2_32 (c_holds _ _ (by omega) _) dX2_buyTight_19 rfl rfl rfl (Nat.le_of_ble_eq_true rfl) ?_
    refine V_if_eqB (pc := 22) (tgt := 75) hX dX2_buyTight_22 (by decide) (fun h22 => ?_) (fun h22 => ?_)
    · refine V_iinc3 (pc := 75) hX dX2_buyTight_75 rfl (iinc1 _) ?_
      refine V_goto (pc := 78) (tgt := 4) hX dX2_buyTight_78 (by decide) ?_
      have ih := l_buyTight hX hR hr hn hn10 ht hp (k + 1) (by omega)
      rw [r18] at h22
      rw [mbuy_f (Or.inl h22)] at ih
      simp only [buyC, tight, h22, Bool.false_and, Bool.false_eq_true, ↓reduceIte] at ih
      exact ih
    · refine V_aload_n (pc := 25) (i := 0) hX dX2_buyTight_25 rfl rfl ?_
      refine V_iload_n (pc := 26) (i := 3) hX dX2_buyTight_26 rfl rfl ?_
      refine V_callVi (pc := 27) hX (hR.mono (by omega)) mX2_54 (c_filled _ (by omega) _) dX2_buyTight_27 rfl rfl rfl rfl (Nat.le_of_ble_eq_true rfl) ?_
      refine V_aload_n (pc := 30) (i := 0) hX dX2_buyTight_30 rfl rfl ?_
      refine V_getr (pc := 31) hX fX2_9 dX2_buyTight_31 rfl rfl ?_
      refine V_iload_n (pc := 34) (i := 3) hX dX2_buyTight_34 rfl rfl ?_
      refine V_iald (pc := 35) hX dX2_buyTight_35 (rfl) (rfl) (by omega) (by decide) ?_
      refine V_icmp_ne (pc := 36) (tgt := 75) hX dX2_buyTight_36 (by decide) (fun h36 => ?_) (fun h36 => ?_)
      · refine V_iinc3 (pc := 75) hX dX2_buyTight_75 rfl (iinc1 _) ?_
        refine V_goto (pc := 78) (tgt := 4) hX dX2_buyTight_78 (by decide) ?_
        have ih := l_buyTight hX hR hr hn hn10 ht hp (k + 1) (by omega)
        rw [r17, r18, r19] at h36
        rw [mbuy_f (Or.inr h36)] at ih
        simp only [buyC, tight, decide_eq_false h36, Bool.and_false, Bool.false_eq_true, ↓reduceIte] at ih
        exact ih
      · refine V_aload_n (pc := 39) (i := 0) hX dX2_buyTight_39 rfl rfl ?_
        refine V_dup (pc := 40) hX dX2_buyTight_40 rfl ?_
        refine V_getf (pc := 41) hX fX2_35 dX2_buyTight_41 rfl rfl ?_
        refine V_iconst (pc := 44) (v := (nI 1)) hX dX2_buyTight_44 (by decide +kernel) ?_
        refine V_iload_n (pc := 45) (i := 3) hX dX2_buyTight_45 rfl rfl ?_
        refine V_ishl (pc := 46) hX dX2_buyTight_46 ?_
        refine V_ior (pc := 47) hX dX2_buyTight_47 ?_
        refine V_putf (pc := 48) hX fX2_35 gi2_6 dX2_buyTight_48 rfl rfl ?_
        refine V_aload_n (pc := 51) (i := 0) hX dX2_buyTight_51 rfl rfl ?_
        refine V_dup (pc := 52) hX dX2_buyTight_52 rfl ?_
        refine V_getf (pc := 53) hX fX2_41 dX2_buyTight_53 rfl rfl ?_
        refine V_aload_n (pc := 56) (i := 0) hX dX2_buyTight_56 rfl rfl ?_
        refine V_getr (pc := 57) hX fX2_15 dX2_buyTight_57 rfl rfl ?_
        refine V_iload_n (pc := 60) (i := 3) hX dX2_buyTight_60 rfl rfl ?_
        refine V_iald (pc := 61) hX dX2_buyTight_61 (rfl) (rfl) (by omega) (by decide) ?_
        refine V_ior (pc := 62) hX dX2_buyTight_62 ?_
        refine V_putf (pc := 63) hX fX2_41 gi2_7 dX2_buyTight_63 rfl rfl ?_
        refine V_iload_n (pc := 66) (i := 2) hX dX2_buyTight_66 rfl rfl ?_
        refine V_aload_n (pc := 67) (i := 0) hX dX2_buyTight_67 rfl rfl ?_
        refine V_getr (pc := 68) hX fX2_9 dX2_buyTight_68 rfl rfl ?_
        refine V_iload_n (pc := 71) (i := 3) hX dX2_buyTight_71 rfl rfl ?_
        refine V_iald (pc := 72) hX dX2_buyTight_72 (rfl) (rfl) (by omega) (by decide) ?_
        refine V_iadd (pc := 73) hX dX2_buyTight_73 ?_
        refine V_istore2 (pc := 74) hX dX2_buyTight_74 rfl ?_
        refine V_iinc3 (pc := 75) hX dX2_buyTight_75 rfl (iinc1 _) ?_
        refine V_goto (pc := 78) (tgt := 4) hX dX2_buyTight_78 (by decide) ?_
        have ih := l_buyTight hX hR hr hn hn10 ht hp (k + 1) (by omega)
        rw [r18] at h22
        rw [r17, r18, r19] at h36
        rw [mbuy_t h22 h36] at ih
        simp only [buyC, tight, h22, decide_eq_true h36, Bool.and_true, ↓reduceIte] at ih
        simp only [mu_f, upd_at, r17, r18, Nat.reduceEqDiff, ↓reduceIte]
        exact ih
termination_by n - k
set_option maxRecDepth 100000 in
set_option maxHeartbeats 4000000 in
theorem c_buyTight (n t : Nat) (σ : Mem) (hn : σ 2 3 = nI n) (hn10 : n ≤ 10) (ht : t < 12) : Cc yX2_buyTight cX2_buyTight 4 (some .int) 4 [.ref 2, .int (nI t)] σ (rI (buyC (σ 17) (σ 18) (σ 19) t n) (mbuy σ t n)) := by
  refine Cc.intro (by decide +kernel) [some (.ref 2), some (.int (nI t)), none, none] (fun _ => rfl) rfl (fun _ => Nat.le_of_ble_eq_true rfl) ?_
  intro X hX hR hr
  refine V_iconst (pc := 0) (v := (nI 0)) hX dX2_buyTight_0 (by decide +kernel) ?_
  refine V_istore2 (pc := 1) hX dX2_buyTight_1 rfl ?_
  refine V_iconst (pc := 2) (v := (nI 0)) hX dX2_buyTight_2 (by decide +kernel) ?_
  refine V_istore3 (pc := 3) hX dX2_buyTight_3 rfl ?_
  refine Vw.mem (mbuy_0 σ t) ?_
  exact l_buyTight hX hR hr hn hn10 ht ⟨rfl, rfl⟩ 0 (by omega)
/-- the memory when a thing is asked for, that no bought set has, ahead of the buying -/
def mask (σ : Mem) (t : Nat) : Mem := mu σ 2 5 (σ 2 5 ||| (nI 1 <<< (nI t &&& 31)))
def mraise (σ : Mem) (n t : Nat) : Mem := mu (mask σ t) 19 t (σ 19 t + lgap (σ 17) (σ 18) (σ 19) t n)
def cmeetV (σ : Mem) (n t : Nat) : Int32 := if bt (σ 2 7) t then nI 0 else buyC (σ 17) (σ 18) (mraise σ n t 19) t n
def cmeetM (σ : Mem) (n t : Nat) : Mem := if bt (σ 2 7) t then mask σ t else mu (mbuy (mraise σ n t) t n) 2 8 (σ 2 8 + buyC (σ 17) (σ 18) (mraise σ n t 19) t n)
theorem mask_r {σ : Mem} {t q : Nat} (h : q ≠ 2) : mask σ t q = σ q := (mu_ne h).symm
theorem mask_c {σ : Mem} {t j : Nat} (h : j ≠ 5) : mask σ t 2 j = σ 2 j := mu_ni h
theorem mraise_r {σ : Mem} {n t q : Nat} (h : q ≠ 19) : mraise σ n t q = mask σ t q := (mu_ne h).symm
set_option maxRecDepth 100000 in
set_option maxHeartbeats 4000000 in
theorem c_meet (n t : Nat) (σ : Mem) (hn : σ 2 3 = nI n) (hn10 : n ≤ 10) (ht : t < 12) : Cc yX2_meet cX2_meet 3 (some .int) 5 [.ref 2, .int (nI t)] σ (rI (cmeetV σ n t) (cmeetM σ n t)) := by
  refine Cc.intro (by decide +kernel) [some (.ref 2), some (.int (nI t)), none] (fun _ => rfl) rfl (fun _ => Nat.le_of_ble_eq_true rfl) ?_
  intro X hX hR hr
  have hn1 : mask σ t 2 3 = nI n := by rw [mask_c (by decide)]; exact hn
  have a17 : mask σ t 17 = σ 17 := mask_r (by decide)
  have a18 : mask σ t 18 = σ 18 := mask_r (by decide)
  have a19 : mask σ t 19 = σ 19 := mask_r (by decide)
  have b17 : mraise σ n t 17 = σ 17 := by rw [mraise_r (by decide), a17]
  have b18 : mraise σ n t 18 = σ 18 := by rw [mraise_r (by decide), a18]
  have b2 : mraise σ n t 2 = mask σ t 2 := mraise_r (by decide)
  have hn2 : mraise σ n t 2 3 = nI n := by rw [b2, hn1]
  have b28 : mbuy (mraise σ n t) t n 2 8 = σ 2 8 := by rw [mbuy_c (by decide) (by decide), b2, mask_c (by decide)]
  have e7 : mask σ t 2 7 = σ 2 7 := mask_c (by decide)
  refine V_aload_n (pc := 0) (i := 0) hX dX2_meet_0 rfl rfl ?_
  refine V_dup (pc := 1) hX dX2_meet_1 rfl ?_
  refine V_getf (pc := 2) hX fX2_38 dX2_meet_2 rfl rfl ?_
  refine V_iconst (pc := 5) (v := (nI 1)) hX dX2_meet_5 (by decide +kernel) ?_
  refine V_iload_n (pc := 6) (i := 1) hX dX2_meet_6 rfl rfl ?_
  refine V_ishl (pc := 7) hX dX2_meet_7 ?_
  refine V_ior (pc := 8) hX dX2_meet_8 ?_
  refine V_putf (pc := 9) hX fX2_38 gi2_5 dX2_meet_9 rfl rfl ?_
  refine Vw.mem (rfl : mask σ t = _) ?_
  refine V_aload_n (pc := 12) (i := 0) hX dX2_meet_12 rfl rfl ?_
  refine V_getf (pc := 13) hX fX2_41 dX2_meet_13 rfl rfl ?_
  refine V_iload_n (pc := 16) (i := 1) hX dX2_meet_16 rfl rfl ?_
  refine V_callSi (pc := 17) hX (hR.mono (by omega)) mX2_32 (c_holds _ _ (by omega) _) dX2_meet_17 rfl rfl rfl (Nat.le_of_ble_eq_true rfl) ?_
  refine V_if_eqB (pc := 20) (tgt := 25) hX dX2_meet_20 (by decide) (fun h20 => ?_) (fun h20 => ?_)
  · refine V_aload_n (pc := 25) (i := 0) hX dX2_meet_25 rfl rfl ?_
    refine V_getr (pc := 26) hX fX2_18 dX2_meet_26 rfl rfl ?_
    refine V_iload_n (pc := 29) (i := 1) hX dX2_meet_29 rfl rfl ?_
    refine V_dup2 (pc := 30) hX dX2_meet_30 rfl rfl ?_
    refine V_iald (pc := 31) hX dX2_meet_31 (rfl) (rfl) (by omega) (by decide) ?_
    refine V_aload_n (pc := 32) (i := 0) hX dX2_meet_32 rfl rfl ?_
    refine V_iload_n (pc := 33) (i := 1) hX dX2_meet_33 rfl rfl ?_
    refine V_callVi (pc := 34) hX (hR.mono (by omega)) mX2_44 (c_leastGap n _ _ hn1 hn10 ht) dX2_meet_34 rfl rfl rfl rfl (Nat.le_of_ble_eq_true rfl) ?_
    refine V_iadd (pc := 37) hX dX2_meet_37 ?_
    refine V_iast (pc := 38) hX dX2_meet_38 (rfl) (rfl) (by omega) (by decide) ?_
    refine Vw.mem (σ' := mraise σ n t) (by unfold mraise; rw [a17, a18, a19]) ?_
    refine V_aload_n (pc := 39) (i := 0) hX dX2_meet_39 rfl rfl ?_
    refine V_iload_n (pc := 40) (i := 1) hX dX2_meet_40 rfl rfl ?_
    refine V_callVi (pc := 41) hX (hR.mono (by omega)) mX2_48 (c_buyTight n _ _ hn2 hn10 ht) dX2_meet_41 rfl rfl rfl rfl (Nat.le_of_ble_eq_true rfl) ?_
    refine V_istore2 (pc := 44) hX dX2_meet_44 rfl ?_
    refine V_aload_n (pc := 45) (i := 0) hX dX2_meet_45 rfl rfl ?_
    refine V_dup (pc := 46) hX dX2_meet_46 rfl ?_
    refine V_getf (pc := 47) hX fX2_51 dX2_meet_47 rfl rfl ?_
    refine V_iload_n (pc := 50) (i := 2) hX dX2_meet_50 rfl rfl ?_
    refine V_iadd (pc := 51) hX dX2_meet_51 ?_
    refine V_putf (pc := 52) hX fX2_51 gi2_8 dX2_meet_52 rfl rfl ?_
    refine V_iload_n (pc := 55) (i := 2) hX dX2_meet_55 rfl rfl ?_
    exact V_iret (pc := 56) (st := []) hX hr (by first | rfl | exact bI_nar _ | decide +kernel) dX2_meet_56 (⟨by rw [cmeetV, ← e7, h20, b17, b18]; rfl, by rw [cmeetM, ← e7, h20, b17, b18, b28]; rfl⟩)
  · refine V_iconst (pc := 23) (v := (nI 0)) hX dX2_meet_23 (by decide +kernel) ?_
    exact V_iret (pc := 24) (st := []) hX hr (by first | rfl | exact bI_nar _ | decide +kernel) dX2_meet_24 (⟨by rw [cmeetV, ← e7, h20]; rfl, by rw [cmeetM, ← e7, h20]; rfl⟩)
set_option maxRecDepth 100000 in
set_option maxHeartbeats 4000000 in
theorem l_havers {n t : Nat} {X : XC} {P : Option Value → Mem → Prop} {σ : Mem} (hX : Cok X RX2 cX2_havers 4) (hR : Rok X 1) (hr : Ret X (some .int) P) (hn : σ 2 3 = nI n) (hn10 : n ≤ 10) (ht : t < 12) (hp : P (some (.int (nI (havf (σ 18) t n)))) σ) (k : Nat) (hk : k ≤ n) : Vw X 4 [some (.ref 2), some (.int (nI t)), some (.int (nI (havf (σ 18) t k))), some (.int (nI k))] [] σ := by
  refine V_iload_n (pc := 4) (i := 3) hX dX2_havers_4 rfl rfl ?_
  refine V_aload_n (pc := 5) (i := 0) hX dX2_havers_5 rfl rfl ?_
  refine V_getf (pc := 6) hX fX2_21 dX2_havers_6 rfl rfl ?_
  rw [hn]
  refine V_icmp_geN (pc := 9) (tgt := 34) hX dX2_havers_9 (by decide) (by omega) (by omega) (fun h9 => ?_) (fun h9 => ?_)
  · obtain rfl : k = n := by omega
    refine V_iload_n (pc := 34) (i := 2) hX dX2_havers_34 rfl rfl ?_
    exact V_iret (pc := 35) (st := []) hX hr (by first | rfl | exact bI_nar _ | decide +kernel) dX2_havers_35 (hp)
  · refine V_aload_n (pc := 12) (i := 0) hX dX2_havers_12 rfl rfl ?_
    refine V_getr (pc := 13) hX fX2_15 dX2_havers_13 rfl rfl ?_
    refine V_iload_n (pc := 16) (i := 3) hX dX2_havers_16 rfl rfl ?_
    refine V_iald (pc := 17) hX dX2_havers_17 (rfl) (rfl) (by omega) (by decide) ?_
    refine V_iload_n (pc := 18) (i := 1) hX dX2_havers_18 rfl rfl ?_
    refine V_callSi (pc := 19) hX (hR.mono (by omega)) mX2_32 (c_holds _ _ (by omega) _) dX2_havers_19 rfl rfl rfl (Nat.le_of_ble_eq_true rfl) ?_
    refine V_if_eqB (pc := 22) (tgt := 28) hX dX2_havers_22 (by decide) (fun h22 => ?_) (fun h22 => ?_)
    · refine V_iinc3 (pc := 28) hX dX2_havers_28 rfl (iinc1 _) ?_
      refine V_goto (pc := 31) (tgt := 4) hX dX2_havers_31 (by decide) ?_
      have ih := l_havers hX hR hr hn hn10 ht hp (k + 1) (by omega)
      simp only [havf, h22, ↓reduceIte, Bool.false_eq_true] at ih
      exact ih
    · refine V_iinc2 (pc := 25) hX dX2_havers_25 rfl (iinc1 _) ?_
      refine V_iinc3 (pc := 28) hX dX2_havers_28 rfl (iinc1 _) ?_
      refine V_goto (pc := 31) (tgt := 4) hX dX2_havers_31 (by decide) ?_
      have ih := l_havers hX hR hr hn hn10 ht hp (k + 1) (by omega)
      simp only [havf, h22, ↓reduceIte, Bool.false_eq_true] at ih
      exact ih
termination_by n - k
set_option maxRecDepth 100000 in
set_option maxHeartbeats 4000000 in
theorem c_havers (n t : Nat) (σ : Mem) (hn : σ 2 3 = nI n) (hn10 : n ≤ 10) (ht : t < 12) : Cc yX2_havers cX2_havers 4 (some .int) 1 [.ref 2, .int (nI t)] σ (rI (nI (havf (σ 18) t n)) σ) := by
  refine Cc.intro (by decide +kernel) [some (.ref 2), some (.int (nI t)), none, none] (fun _ => rfl) rfl (fun _ => Nat.le_of_ble_eq_true rfl) ?_
  intro X hX hR hr
  refine V_iconst (pc := 0) (v := (nI 0)) hX dX2_havers_0 (by decide +kernel) ?_
  refine V_istore2 (pc := 1) hX dX2_havers_1 rfl ?_
  refine V_iconst (pc := 2) (v := (nI 0)) hX dX2_havers_2 (by decide +kernel) ?_
  refine V_istore3 (pc := 3) hX dX2_havers_3 rfl ?_
  exact l_havers hX hR hr hn hn10 ht ⟨rfl, rfl⟩ 0 (by omega)
set_option maxRecDepth 100000 in
set_option maxHeartbeats 4000000 in
theorem l_share {n : Nat} {X : XC} {P : Option Value → Mem → Prop} {σ : Mem} (hX : Cok X RX2 cX2_share 3) (hR : Rok X 2) (hr : Ret X (some .int) P) (hn : σ 2 3 = nI n) (hn10 : n ≤ 10) (hp : P (some (.int (sharf (σ 2 5) (σ 18) n 12))) σ) (k : Nat) (hk : k ≤ 12) : Vw X 4 [some (.ref 2), some (.int (sharf (σ 2 5) (σ 18) n k)), some (.int (nI k))] [] σ := by
  refine V_iload_n (pc := 4) (i := 2) hX dX2_share_4 rfl rfl ?_
  refine V_bipush (pc := 5) (v := (nI 12)) hX dX2_share_5 (by decide +kernel) ?_
  refine V_icmp_geN (pc := 7) (tgt := 37) hX dX2_share_7 (by decide) (by omega) (by omega) (fun h7 => ?_) (fun h7 => ?_)
  · obtain rfl : k = 12 := by omega
    refine V_iload_n (pc := 37) (i := 1) hX dX2_share_37 rfl rfl ?_
    exact V_iret (pc := 38) (st := []) hX hr (by first | rfl | exact bI_nar _ | decide +kernel) dX2_share_38 (hp)
  · refine V_aload_n (pc := 10) (i := 0) hX dX2_share_10 rfl rfl ?_
    refine V_getf (pc := 11) hX fX2_38 dX2_share_11 rfl rfl ?_
    refine V_iload_n (pc := 14) (i := 2) hX dX2_share_14 rfl rfl ?_
    refine V_callSi (pc := 15) hX (hR.mono (by omega)) mX2_32 (c_holds _ _ (by omega) _) dX2_share_15 rfl rfl rfl (Nat.le_of_ble_eq_true rfl) ?_
    refine V_if_eqB (pc := 18) (tgt := 31) hX dX2_share_18 (by decide) (fun h18 => ?_) (fun h18 => ?_)
    · refine V_iinc2 (pc := 31) hX dX2_share_31 rfl (iinc1 _) ?_
      refine V_goto (pc := 34) (tgt := 4) hX dX2_share_34 (by decide) ?_
      have ih := l_share hX hR hr hn hn10 hp (k + 1) (by omega)
      simp only [sharf, h18, ↓reduceIte, Bool.false_eq_true] at ih
      exact ih
    · refine V_iload_n (pc := 21) (i := 1) hX dX2_share_21 rfl rfl ?_
      refine V_aload_n (pc := 22) (i := 0) hX dX2_share_22 rfl rfl ?_
      refine V_iload_n (pc := 23) (i := 2) hX dX2_share_23 rfl rfl ?_
      refine V_callVi (pc := 24) hX (hR.mono (by omega)) mX2_71 (c_havers n _ _ hn hn10 (by omega)) dX2_share_24 rfl rfl rfl rfl (Nat.le_of_ble_eq_true rfl) ?_
      refine V_mmax (pc := 27) hX (hR.mono (by omega)) mX2_74 dX2_share_27 rfl (Nat.le_of_ble_eq_true rfl) ?_
      refine V_istore1 (pc := 30) hX dX2_share_30 rfl ?_
      refine V_iinc2 (pc := 31) hX dX2_share_31 rfl (iinc1 _) ?_
      refine V_goto (pc := 34) (tgt := 4) hX dX2_share_34 (by decide) ?_
      have ih := l_share hX hR hr hn hn10 hp (k + 1) (by omega)
      simp only [sharf, h18, ↓reduceIte, Bool.false_eq_true] at ih
      exact ih
termination_by 12 - k
set_option maxRecDepth 100000 in
set_option maxHeartbeats 4000000 in
theorem c_share (n : Nat) (σ : Mem) (hn : σ 2 3 = nI n) (hn10 : n ≤ 10) : Cc yX2_share cX2_share 3 (some .int) 2 [.ref 2] σ (rI (sharf (σ 2 5) (σ 18) n 12) σ) := by
  refine Cc.intro (by decide +kernel) [some (.ref 2), none, none] (fun _ => rfl) rfl (fun _ => Nat.le_of_ble_eq_true rfl) ?_
  intro X hX hR hr
  refine V_iconst (pc := 0) (v := (nI 0)) hX dX2_share_0 (by decide +kernel) ?_
  refine V_istore1 (pc := 1) hX dX2_share_1 rfl ?_
  refine V_iconst (pc := 2) (v := (nI 0)) hX dX2_share_2 (by decide +kernel) ?_
  refine V_istore2 (pc := 3) hX dX2_share_3 rfl ?_
  exact l_share hX hR hr hn hn10 ⟨rfl, rfl⟩ 0 (by omega)
set_option maxRecDepth 100000 in
set_option maxHeartbeats 4000000 in
theorem c_kindOf (s : Nat) (σ : Mem) (hs : s < 10) : Cc yX2_kindOf cX2_kindOf 2 (some .int) 3 [.ref 2, .int (nI s)] σ (rI (kindf (σ 2 6) s (pf (σ 18 s) (σ 19) 12) (σ 17 s)) σ) := by
  refine Cc.intro (by decide +kernel) [some (.ref 2), some (.int (nI s))] (fun _ => rfl) rfl (fun _ => Nat.le_of_ble_eq_true rfl) ?_
  intro X hX hR hr
  refine V_aload_n (pc := 0) (i := 0) hX dX2_kindOf_0 rfl rfl ?_
  refine V_iload_n (pc := 1) (i := 1) hX dX2_kindOf_1 rfl rfl ?_
  refine V_callVi (pc := 2) hX (hR.mono (by omega)) mX2_77 (c_isBought _ hs _) dX2_kindOf_2 rfl rfl rfl rfl (Nat.le_of_ble_eq_true rfl) ?_
  refine V_if_eqB (pc := 5) (tgt := 10) hX dX2_kindOf_5 (by decide) (fun h5 => ?_) (fun h5 => ?_)
  · refine V_iconst (pc := 10) (v := (nI 2)) hX dX2_kindOf_10 (by decide +kernel) ?_
    refine V_aload_n (pc := 11) (i := 0) hX dX2_kindOf_11 rfl rfl ?_
    refine V_iload_n (pc := 12) (i := 1) hX dX2_kindOf_12 rfl rfl ?_
    refine V_callVi (pc := 13) hX (hR.mono (by omega)) mX2_54 (c_filled _ hs _) dX2_kindOf_13 rfl rfl rfl rfl (Nat.le_of_ble_eq_true rfl) ?_
    refine V_imul (pc := 16) hX dX2_kindOf_16 ?_
    refine V_aload_n (pc := 17) (i := 0) hX dX2_kindOf_17 rfl rfl ?_
    refine V_getr (pc := 18) hX fX2_9 dX2_kindOf_18 rfl rfl ?_
    refine V_iload_n (pc := 21) (i := 1) hX dX2_kindOf_21 rfl rfl ?_
    refine V_iald (pc := 22) hX dX2_kindOf_22 (rfl) (rfl) (by omega) (by decide) ?_
    refine V_icmp_lt (pc := 23) (tgt := 30) hX dX2_kindOf_23 (by decide) (fun h23 => ?_) (fun h23 => ?_)
    · refine V_iconst (pc := 30) (v := (nI 1)) hX dX2_kindOf_30 (by decide +kernel) ?_
      exact V_iret (pc := 31) (st := []) hX hr (by first | rfl | exact bI_nar _ | decide +kernel) dX2_kindOf_31 (⟨by simp only [kindf, h5, h23, Bool.false_eq_true, ↓reduceIte], rfl⟩)
    · refine V_iconst (pc := 26) (v := (nI 2)) hX dX2_kindOf_26 (by decide +kernel) ?_
      refine V_goto (pc := 27) (tgt := 31) hX dX2_kindOf_27 (by decide) ?_
      exact V_iret (pc := 31) (st := []) hX hr (by first | rfl | exact bI_nar _ | decide +kernel) dX2_kindOf_31 (⟨by simp only [kindf, h5, h23, Bool.false_eq_true, ↓reduceIte], rfl⟩)
  · refine V_iconst (pc := 8) (v := (nI 3)) hX dX2_kindOf_8 (by decide +kernel) ?_
    exact V_iret (pc := 9) (st := []) hX hr (by first | rfl | exact bI_nar _ | decide +kernel) dX2_kindOf_9 (⟨by simp only [kindf, h5, ↓reduceIte], rfl⟩)
def kisf (k own : Int32) : Bool := decide (k = 0 ∨ k = own ∨ (k = nI 1 ∧ own = nI 2))
set_option maxRecDepth 100000 in
set_option maxHeartbeats 4000000 in
theorem c_isOfKind (s : Nat) (k : Int32) (σ : Mem) (hs : s < 10) : Cc yX2_isOfKind cX2_isOfKind 4 (some .boolean) 4 [.ref 2, .int (nI s), .int k] σ (rI (bI (kisf k (kindf (σ 2 6) s (pf (σ 18 s) (σ 19) 12) (σ 17 s)))) σ) := by
  refine Cc.intro (by decide +kernel) [some (.ref 2), some (.int (nI s)), some (.int k), none] (fun _ => rfl) rfl (fun _ => Nat.le_of_ble_eq_true rfl) ?_
  intro X hX hR hr
  refine V_aload_n (pc := 0) (i := 0) hX dX2_isOfKind_0 rfl rfl ?_
  refine V_iload_n (pc := 1) (i := 1) hX dX2_isOfKind_1 rfl rfl ?_
  refine V_callVi (pc := 2) hX (hR.mono (by omega)) mX2_81 (c_kindOf _ _ hs) dX2_isOfKind_2 rfl rfl rfl rfl (Nat.le_of_ble_eq_true rfl) ?_
  refine V_istore3 (pc := 5) hX dX2_isOfKind_5 rfl ?_
  refine V_iload_n (pc := 6) (i := 2) hX dX2_isOfKind_6 rfl rfl ?_
  refine V_if_eq (pc := 7) (tgt := 25) hX dX2_isOfKind_7 (by decide) (fun h7 => ?_) (fun h7 => ?_)
  · refine V_iconst (pc := 25) (v := (nI 1)) hX dX2_isOfKind_25 (by decide +kernel) ?_
    refine V_goto (pc := 26) (tgt := 30) hX dX2_isOfKind_26 (by decide) ?_
    exact V_iret (pc := 30) (st := []) hX hr (by first | rfl | exact bI_nar _ | decide +kernel) dX2_isOfKind_30 (⟨by rw [kisf, decide_eq_true (Or.inl h7)]; rfl, rfl⟩)
  · refine V_iload_n (pc := 10) (i := 2) hX dX2_isOfKind_10 rfl rfl ?_
    refine V_iload_n (pc := 11) (i := 3) hX dX2_isOfKind_11 rfl rfl ?_
    refine V_icmp_eq (pc := 12) (tgt := 25) hX dX2_isOfKind_12 (by decide) (fun h12 => ?_) (fun h12 => ?_)
    · refine V_iconst (pc := 25) (v := (nI 1)) hX dX2_isOfKind_25 (by decide +kernel) ?_
      refine V_goto (pc := 26) (tgt := 30) hX dX2_isOfKind_26 (by decide) ?_
      exact V_iret (pc := 30) (st := []) hX hr (by first | rfl | exact bI_nar _ | decide +kernel) dX2_isOfKind_30 (⟨by rw [kisf, decide_eq_true (Or.inr (Or.inl h12))]; rfl, rfl⟩)
    · refine V_iload_n (pc := 15) (i := 2) hX dX2_isOfKind_15 rfl rfl ?_
      refine V_iconst (pc := 16) (v := (nI 1)) hX dX2_isOfKind_16 (by decide +kernel) ?_
      refine V_icmp_ne (pc := 17) (tgt := 29) hX dX2_isOfKind_17 (by decide) (fun h17 => ?_) (fun h17 => ?_)
      · refine V_iconst (pc := 29) (v := (nI 0)) hX dX2_isOfKind_29 (by decide +kernel) ?_
        exact V_iret (pc := 30) (st := []) hX hr (by first | rfl | exact bI_nar _ | decide +kernel) dX2_isOfKind_30 (⟨by rw [kisf, decide_eq_false (fun h => h.elim h7 (fun h => h.elim h12 (fun h => h17 h.1)))]; rfl, rfl⟩)
      · refine V_iload_n (pc := 20) (i := 3) hX dX2_isOfKind_20 rfl rfl ?_
        refine V_iconst (pc := 21) (v := (nI 2)) hX dX2_isOfKind_21 (by decide +kernel) ?_
        refine V_icmp_ne (pc := 22) (tgt := 29) hX dX2_isOfKind_22 (by decide) (fun h22 => ?_) (fun h22 => ?_)
        · refine V_iconst (pc := 29) (v := (nI 0)) hX dX2_isOfKind_29 (by decide +kernel) ?_
          exact V_iret (pc := 30) (st := []) hX hr (by first | rfl | exact bI_nar _ | decide +kernel) dX2_isOfKind_30 (⟨by rw [kisf, decide_eq_false (fun h => h.elim h7 (fun h => h.elim h12 (fun h => h22 h.2)))]; rfl, rfl⟩)
        · refine V_iconst (pc := 25) (v := (nI 1)) hX dX2_isOfKind_25 (by decide +kernel) ?_
          refine V_goto (pc := 26) (tgt := 30) hX dX2_isOfKind_26 (by decide) ?_
          exact V_iret (pc := 30) (st := []) hX hr (by first | rfl | exact bI_nar _ | decide +kernel) dX2_isOfKind_30 (⟨by rw [kisf, decide_eq_true (Or.inr (Or.inr ⟨h17, h22⟩))]; rfl, rfl⟩)
set_option maxRecDepth 100000 in
set_option maxHeartbeats 4000000 in
theorem l_nears {n : Nat} {X : XC} {P : Option Value → Mem → Prop} {σ : Mem} (hX : Cok X RX2 cX2_nears 3) (hR : Rok X 4) (hr : Ret X (some .int) P) (hn : σ 2 3 = nI n) (hn10 : n ≤ 10) (hp : P (some (.int (nI (nearf (σ 2 6) (σ 17) (σ 18) (σ 19) n)))) σ) (k : Nat) (hk : k ≤ n) : Vw X 4 [some (.ref 2), some (.int (nI (nearf (σ 2 6) (σ 17) (σ 18) (σ 19) k))), some (.int (nI k))] [] σ := by
  refine V_iload_n (pc := 4) (i := 2) hX dX2_nears_4 rfl rfl ?_
  refine V_aload_n (pc := 5) (i := 0) hX dX2_nears_5 rfl rfl ?_
  refine V_getf (pc := 6) hX fX2_21 dX2_nears_6 rfl rfl ?_
  rw [hn]
  refine V_icmp_geN (pc := 9) (tgt := 30) hX dX2_nears_9 (by decide) (by omega) (by omega) (fun h9 => ?_) (fun h9 => ?_)
  · obtain rfl : k = n := by omega
    refine V_iload_n (pc := 30) (i := 1) hX dX2_nears_30 rfl rfl ?_
    exact V_iret (pc := 31) (st := []) hX hr (by first | rfl | exact bI_nar _ | decide +kernel) dX2_nears_31 (hp)
  · refine V_aload_n (pc := 12) (i := 0) hX dX2_nears_12 rfl rfl ?_
    refine V_iload_n (pc := 13) (i := 2) hX dX2_nears_13 rfl rfl ?_
    refine V_callVi (pc := 14) hX (hR.mono (by omega)) mX2_81 (c_kindOf _ _ (by omega)) dX2_nears_14 rfl rfl rfl rfl (Nat.le_of_ble_eq_true rfl) ?_
    refine V_iconst (pc := 17) (v := (nI 2)) hX dX2_nears_17 (by decide +kernel) ?_
    refine V_icmp_ne (pc := 18) (tgt := 24) hX dX2_nears_18 (by decide) (fun h18 => ?_) (fun h18 => ?_)
    · refine V_iinc2 (pc := 24) hX dX2_nears_24 rfl (iinc1 _) ?_
      refine V_goto (pc := 27) (tgt := 4) hX dX2_nears_27 (by decide) ?_
      have ih := l_nears hX hR hr hn hn10 hp (k + 1) (by omega)
      simp only [nearf, h18, ↓reduceIte] at ih
      exact ih
    · refine V_iinc1 (pc := 21) hX dX2_nears_21 rfl (iinc1 _) ?_
      refine V_iinc2 (pc := 24) hX dX2_nears_24 rfl (iinc1 _) ?_
      refine V_goto (pc := 27) (tgt := 4) hX dX2_nears_27 (by decide) ?_
      have ih := l_nears hX hR hr hn hn10 hp (k + 1) (by omega)
      simp only [nearf, h18, ↓reduceIte] at ih
      exact ih
termination_by n - k
set_option maxRecDepth 100000 in
set_option maxHeartbeats 4000000 in
theorem c_nears (n : Nat) (σ : Mem) (hn : σ 2 3 = nI n) (hn10 : n ≤ 10) : Cc yX2_nears cX2_nears 3 (some .int) 4 [.ref 2] σ (rI (nI (nearf (σ 2 6) (σ 17) (σ 18) (σ 19) n)) σ) := by
  refine Cc.intro (by decide +kernel) [some (.ref 2), none, none] (fun _ => rfl) rfl (fun _ => Nat.le_of_ble_eq_true rfl) ?_
  intro X hX hR hr
  refine V_iconst (pc := 0) (v := (nI 0)) hX dX2_nears_0 (by decide +kernel) ?_
  refine V_istore1 (pc := 1) hX dX2_nears_1 rfl ?_
  refine V_iconst (pc := 2) (v := (nI 0)) hX dX2_nears_2 (by decide +kernel) ?_
  refine V_istore2 (pc := 3) hX dX2_nears_3 rfl ?_
  exact l_nears hX hR hr hn hn10 ⟨rfl, rfl⟩ 0 (by omega)
/-- the least cost of the last m of n sets that have all that is missing -/
def lff (c th : Nat → Int32) (n : Nat) : Nat → Int32 → Int32
  | 0, mis => if mis = 0 then nI 0 else nI 1000000
  | m + 1, mis => if mis = 0 then nI 0 else if th (n - (m + 1)) &&& mis = 0 then lff c th n m mis else imin (lff c th n m mis) (c (n - (m + 1)) + lff c th n m (mis &&& (th (n - (m + 1)) ^^^ (-1))))
set_option maxRecDepth 100000 in
set_option maxHeartbeats 4000000 in
theorem c_leastFrom (n : Nat) (σ : Mem) (hn : σ 2 3 = nI n) (hn10 : n ≤ 10) : ∀ (m : Nat) (hm : m ≤ n) (mis : Int32), Cc yX2_leastFrom cX2_leastFrom 4 (some .int) (m + 1) [.ref 2, .int (nI (n - m)), .int mis] σ (rI (lff (σ 17) (σ 18) n m mis) σ)
  | 0, hm, mis => by
    refine Cc.intro (by decide +kernel) [some (.ref 2), some (.int (nI (n - 0))), some (.int mis), none] (fun _ => rfl) rfl (fun _ => Nat.le_of_ble_eq_true rfl) ?_
    intro X hX hR hr
    refine V_iload_n (pc := 0) (i := 2) hX dX2_leastFrom_0 rfl rfl ?_
    refine V_if_ne (pc := 1) (tgt := 6) hX dX2_leastFrom_1 (by decide) (fun h1 => ?_) (fun h1 => ?_)
    · refine V_iload_n (pc := 6) (i := 1) hX dX2_leastFrom_6 rfl rfl ?_
      refine V_aload_n (pc := 7) (i := 0) hX dX2_leastFrom_7 rfl rfl ?_
      refine V_getf (pc := 8) hX fX2_21 dX2_leastFrom_8 rfl rfl ?_
      rw [hn]
      refine V_icmp_ltN (pc := 11) (tgt := 17) hX dX2_leastFrom_11 (by decide) (by omega) (by omega) (fun h11 => absurd h11 (by omega)) (fun h11 => ?_)
      refine V_ldc (pc := 14) hX kX2_70 dX2_leastFrom_14 ?_
      exact V_iret (pc := 16) (st := []) hX hr (by first | rfl | exact bI_nar _ | decide +kernel) dX2_leastFrom_16 (⟨by rw [lff, if_neg h1], rfl⟩)
    · refine V_iconst (pc := 4) (v := (nI 0)) hX dX2_leastFrom_4 (by decide +kernel) ?_
      exact V_iret (pc := 5) (st := []) hX hr (by first | rfl | exact bI_nar _ | decide +kernel) dX2_leastFrom_5 (⟨by rw [lff, if_pos h1], rfl⟩)
  | m + 1, hm, mis => by
    refine Cc.intro (by decide +kernel) [some (.ref 2), some (.int (nI (n - (m + 1)))), some (.int mis), none] (fun _ => rfl) rfl (fun _ => Nat.le_of_ble_eq_true rfl) ?_
    intro X hX hR hr
    have e1 : nI (n - (m + 1)) + nI 1 = nI (n - m) := by rw [nI_add]; congr 1; omega
    refine V_iload_n (pc := 0) (i := 2) hX dX2_leastFrom_0 rfl rfl ?_
    refine V_if_ne (pc := 1) (tgt := 6) hX dX2_leastFrom_1 (by decide) (fun h1 => ?_) (fun h1 => ?_)
    · refine V_iload_n (pc := 6) (i := 1) hX dX2_leastFrom_6 rfl rfl ?_
      refine V_aload_n (pc := 7) (i := 0) hX dX2_leastFrom_7 rfl rfl ?_
      refine V_getf (pc := 8) hX fX2_21 dX2_leastFrom_8 rfl rfl ?_
      rw [hn]
      refine V_icmp_ltN (pc := 11) (tgt := 17) hX dX2_leastFrom_11 (by decide) (by omega) (by omega) (fun h11 => ?_) (fun h11 => absurd h11 (by omega))
      refine V_aload_n (pc := 17) (i := 0) hX dX2_leastFrom_17 rfl rfl ?_
      refine V_iload_n (pc := 18) (i := 1) hX dX2_leastFrom_18 rfl rfl ?_
      refine V_iconst (pc := 19) (v := (nI 1)) hX dX2_leastFrom_19 (by decide +kernel) ?_
      refine V_iadd (pc := 20) hX dX2_leastFrom_20 ?_
      refine V_iload_n (pc := 21) (i := 2) hX dX2_leastFrom_21 rfl rfl ?_
      rw [e1]
      refine V_callSi (pc := 22) hX (hR.mono (by omega)) mX2_66 (c_leastFrom n σ hn hn10 m (by omega) mis) dX2_leastFrom_22 rfl rfl rfl (Nat.le_of_ble_eq_true rfl) ?_
      refine V_istore3 (pc := 25) hX dX2_leastFrom_25 rfl ?_
      refine V_aload_n (pc := 26) (i := 0) hX dX2_leastFrom_26 rfl rfl ?_
      refine V_getr (pc := 27) hX fX2_15 dX2_leastFrom_27 rfl rfl ?_
      refine V_iload_n (pc := 30) (i := 1) hX dX2_leastFrom_30 rfl rfl ?_
      refine V_iald (pc := 31) hX dX2_leastFrom_31 (rfl) (rfl) (by omega) (by decide) ?_
      refine V_iload_n (pc := 32) (i := 2) hX dX2_leastFrom_32 rfl rfl ?_
      refine V_iand (pc := 33) hX dX2_leastFrom_33 ?_
      refine V_if_ne (pc := 34) (tgt := 39) hX dX2_leastFrom_34 (by decide) (fun h34 => ?_) (fun h34 => ?_)
      · refine V_iload_n (pc := 39) (i := 3) hX dX2_leastFrom_39 rfl rfl ?_
        refine V_aload_n (pc := 40) (i := 0) hX dX2_leastFrom_40 rfl rfl ?_
        refine V_getr (pc := 41) hX fX2_9 dX2_leastFrom_41 rfl rfl ?_
        refine V_iload_n (pc := 44) (i := 1) hX dX2_leastFrom_44 rfl rfl ?_
        refine V_iald (pc := 45) hX dX2_leastFrom_45 (rfl) (rfl) (by omega) (by decide) ?_
        refine V_aload_n (pc := 46) (i := 0) hX dX2_leastFrom_46 rfl rfl ?_
        refine V_iload_n (pc := 47) (i := 1) hX dX2_leastFrom_47 rfl rfl ?_
        refine V_iconst (pc := 48) (v := (nI 1)) hX dX2_leastFrom_48 (by decide +kernel) ?_
        refine V_iadd (pc := 49) hX dX2_leastFrom_49 ?_
        refine V_iload_n (pc := 50) (i := 2) hX dX2_leastFrom_50 rfl rfl ?_
        refine V_aload_n (pc := 51) (i := 0) hX dX2_leastFrom_51 rfl rfl ?_
        refine V_getr (pc := 52) hX fX2_15 dX2_leastFrom_52 rfl rfl ?_
        refine V_iload_n (pc := 55) (i := 1) hX dX2_leastFrom_55 rfl rfl ?_
        refine V_iald (pc := 56) hX dX2_leastFrom_56 (rfl) (rfl) (by omega) (by decide) ?_
        refine V_iconst (pc := 57) (v := (-1)) hX dX2_leastFrom_57 (by decide +kernel) ?_
        refine V_ixor (pc := 58) hX dX2_leastFrom_58 ?_
        refine V_iand (pc := 59) hX dX2_leastFrom_59 ?_
        rw [e1]
        refine V_callSi (pc := 60) hX (hR.mono (by omega)) mX2_66 (c_leastFrom n σ hn hn10 m (by omega) _) dX2_leastFrom_60 rfl rfl rfl (Nat.le_of_ble_eq_true rfl) ?_
        refine V_iadd (pc := 63) hX dX2_leastFrom_63 ?_
        refine V_mmin (pc := 64) hX (hR.mono (by omega)) mX2_57 dX2_leastFrom_64 rfl (Nat.le_of_ble_eq_true rfl) ?_
        exact V_iret (pc := 67) (st := []) hX hr (by first | rfl | exact bI_nar _ | decide +kernel) dX2_leastFrom_67 (⟨by rw [lff, if_neg h1, if_neg h34]; rfl, rfl⟩)
      · refine V_iload_n (pc := 37) (i := 3) hX dX2_leastFrom_37 rfl rfl ?_
        exact V_iret (pc := 38) (st := []) hX hr (by first | rfl | exact bI_nar _ | decide +kernel) dX2_leastFrom_38 (⟨by rw [lff, if_neg h1, if_pos h34], rfl⟩)
    · refine V_iconst (pc := 4) (v := (nI 0)) hX dX2_leastFrom_4 (by decide +kernel) ?_
      exact V_iret (pc := 5) (st := []) hX hr (by first | rfl | exact bI_nar _ | decide +kernel) dX2_leastFrom_5 (⟨by rw [lff, if_pos h1], rfl⟩)
set_option maxRecDepth 100000 in
set_option maxHeartbeats 4000000 in
theorem c_least (n : Nat) (σ : Mem) (hn : σ 2 3 = nI n) (hn10 : n ≤ 10) : Cc yX2_least cX2_least 1 (some .int) 12 [.ref 2] σ (rI (lff (σ 17) (σ 18) n n (σ 2 5)) σ) := by
  refine Cc.intro (by decide +kernel) [some (.ref 2)] (fun _ => rfl) rfl (fun _ => Nat.le_of_ble_eq_true rfl) ?_
  intro X hX hR hr
  have h0 := c_leastFrom n σ hn hn10 n (Nat.le_refl _) (σ 2 5)
  rw [Nat.sub_self] at h0
  refine V_aload_n (pc := 0) (i := 0) hX dX2_least_0 rfl rfl ?_
  refine V_iconst (pc := 1) (v := (nI 0)) hX dX2_least_1 (by decide +kernel) ?_
  refine V_aload_n (pc := 2) (i := 0) hX dX2_least_2 rfl rfl ?_
  refine V_getf (pc := 3) hX fX2_38 dX2_least_3 rfl rfl ?_
  refine V_callSi (pc := 6) hX (hR.mono (by omega)) mX2_66 (h0) dX2_least_6 rfl rfl rfl (Nat.le_of_ble_eq_true rfl) ?_
  exact V_iret (pc := 9) (st := []) hX hr (by first | rfl | exact bI_nar _ | decide +kernel) dX2_least_9 (⟨rfl, rfl⟩)
def caddM (σ : Mem) (n : Nat) (c th : Int32) : Mem := mu (mu (mu (mu σ 17 n c) 18 n th) 2 4 (σ 2 4 ||| th)) 2 3 (nI (n + 1))
set_option maxRecDepth 100000 in
set_option maxHeartbeats 4000000 in
theorem c_add (n : Nat) (c th : Int32) (σ : Mem) (hn : σ 2 3 = nI n) (hn10 : n < 10) : Cc yX2_add cX2_add 3 (some .int) 0 [.ref 2, .int c, .int th] σ (rI (nI n) (caddM σ n c th)) := by
  refine Cc.intro (by decide +kernel) [some (.ref 2), some (.int c), some (.int th)] (fun _ => rfl) rfl (fun _ => Nat.le_of_ble_eq_true rfl) ?_
  intro X hX hR hr
  refine V_aload_n (pc := 0) (i := 0) hX dX2_add_0 rfl rfl ?_
  refine V_getr (pc := 1) hX fX2_9 dX2_add_1 rfl rfl ?_
  refine V_aload_n (pc := 4) (i := 0) hX dX2_add_4 rfl rfl ?_
  refine V_getf (pc := 5) hX fX2_21 dX2_add_5 rfl rfl ?_
  rw [hn]
  refine V_iload_n (pc := 8) (i := 1) hX dX2_add_8 rfl rfl ?_
  refine V_iast (pc := 9) hX dX2_add_9 (rfl) (rfl) (by omega) (by decide) ?_
  refine V_aload_n (pc := 10) (i := 0) hX dX2_add_10 rfl rfl ?_
  refine V_getr (pc := 11) hX fX2_15 dX2_add_11 rfl rfl ?_
  refine V_aload_n (pc := 14) (i := 0) hX dX2_add_14 rfl rfl ?_
  refine V_getf (pc := 15) hX fX2_21 dX2_add_15 rfl rfl ?_
  simp only [mu_f, Nat.reduceEqDiff, ↓reduceIte, hn]
  refine V_iload_n (pc := 18) (i := 2) hX dX2_add_18 rfl rfl ?_
  refine V_iast (pc := 19) hX dX2_add_19 (rfl) (rfl) (by omega) (by decide) ?_
  refine V_aload_n (pc := 20) (i := 0) hX dX2_add_20 rfl rfl ?_
  refine V_dup (pc := 21) hX dX2_add_21 rfl ?_
  refine V_getf (pc := 22) hX fX2_29 dX2_add_22 rfl rfl ?_
  simp only [mu_f, Nat.reduceEqDiff, ↓reduceIte]
  refine V_iload_n (pc := 25) (i := 2) hX dX2_add_25 rfl rfl ?_
  refine V_ior (pc := 26) hX dX2_add_26 ?_
  refine V_putf (pc := 27) hX fX2_29 gi2_4 dX2_add_27 rfl rfl ?_
  refine V_aload_n (pc := 30) (i := 0) hX dX2_add_30 rfl rfl ?_
  refine V_dup (pc := 31) hX dX2_add_31 rfl ?_
  refine V_getf (pc := 32) hX fX2_21 dX2_add_32 rfl rfl ?_
  simp only [mu_f, upd_at, Nat.reduceEqDiff, ↓reduceIte, hn]
  refine V_iconst (pc := 35) (v := (nI 1)) hX dX2_add_35 (by decide +kernel) ?_
  refine V_iadd (pc := 36) hX dX2_add_36 ?_
  rw [nI_add]
  refine V_putf (pc := 37) hX fX2_21 gi2_3 dX2_add_37 rfl rfl ?_
  refine V_aload_n (pc := 40) (i := 0) hX dX2_add_40 rfl rfl ?_
  refine V_getf (pc := 41) hX fX2_21 dX2_add_41 rfl rfl ?_
  simp only [mu_at]
  refine V_iconst (pc := 44) (v := (nI 1)) hX dX2_add_44 (by decide +kernel) ?_
  refine V_isub (pc := 45) hX dX2_add_45 ?_
  exact V_iret (pc := 46) (st := []) hX hr (by first | rfl | exact bI_nar _ | decide +kernel) dX2_add_46 (⟨by rw [pk_sub (by omega)]; rfl, rfl⟩)
end
section
/-! one bit by >>, ranges by toInt -/
theorem b_one (i : Nat) (hi : i < 32) : bt (nI 1) i = decide (i = 0) := (by decide +kernel : ∀ i, i < 32 → bt (nI 1) i = decide (i = 0)) i hi
theorem sbit {x : Int32} {k : Nat} (hk : k < 32) : (x >>> (nI k &&& 31)) &&& nI 1 = bI (bt x k) := by
  apply b_ext
  intro i hi
  rw [b_and, b_one i hi, b_sshr k hk x hi]
  by_cases h0 : i = 0
  · subst h0
    rw [Nat.add_zero, if_pos hk]
    cases bt x k <;> decide +kernel
  · rw [decide_eq_false h0, Bool.and_false]
    cases bt x k
    · exact (b_0 i).symm
    · show false = bt (nI 1) i
      rw [b_one i hi, decide_eq_false h0]
theorem bI_1 {b : Bool} : bI b = nI 1 ↔ b = true := by cases b <;> decide +kernel
theorem bI_inj {a b : Bool} : bI a = bI b ↔ a = b := by cases a <;> cases b <;> decide +kernel
theorem add0 (x : Int32) : x + nI 0 = x := by
  have : nI 0 = 0 := nI_0
  rw [this]; exact Int32.add_zero x
theorem bn {b : Bool} (h : ¬ b = true) : b = false := by cases b <;> simp_all
theorem bn' {b : Bool} (h : ¬ b = false) : b = true := by cases b <;> simp_all
def inr (x : Int32) (n : Nat) : Bool := decide (0 ≤ x.toInt ∧ x.toInt < (n : Int))
def inr2 (x : Int32) (a b : Nat) : Bool := decide ((a : Int) ≤ x.toInt ∧ x.toInt ≤ (b : Int))
theorem nI_of_toInt {x : Int32} {j : Nat} (h : x.toInt = (j : Int)) (hj : j < 2 ^ 31) : x = nI j := Int32.toInt_inj.mp (by rw [h, nI_toInt hj])
theorem inr_of {x : Int32} {n : Nat} (h : inr x n = true) (hn : n < 2 ^ 31) : ∃ j : Nat, j < n ∧ x = nI j := by
  have h1 := of_decide_eq_true h
  exact ⟨x.toInt.toNat, by omega, nI_of_toInt (by omega) (by omega)⟩
theorem inr_nI {j n : Nat} (h : j < n) (hn : n < 2 ^ 31) : inr (nI j) n = true := decide_eq_true (by rw [nI_toInt (by omega)]; omega)
theorem inr2_of {x : Int32} {a b : Nat} (h : inr2 x a b = true) (hb : b < 2 ^ 31) : ∃ j : Nat, a ≤ j ∧ j ≤ b ∧ x = nI j := by
  have h1 := of_decide_eq_true h
  exact ⟨x.toInt.toNat, by omega, by omega, nI_of_toInt (by omega) (by omega)⟩
theorem inr_lt {x b : Int32} {n : Nat} (hb : b = nI n) (hn : n < 2 ^ 31) : decide (0 ≤ x ∧ x < b) = inr x n := by
  subst hb
  unfold inr
  simp only [Int32.le_iff_toInt_le, Int32.lt_iff_toInt_lt, nI_toInt hn, Int32.toInt_zero]
theorem inr2_le {x : Int32} {a b : Nat} (ha : a < 2 ^ 31) (hb : b < 2 ^ 31) : decide (nI a ≤ x ∧ x ≤ nI b) = inr2 x a b := by
  unfold inr2
  simp only [Int32.le_iff_toInt_le, nI_toInt ha, nI_toInt hb]
theorem inr2_long {x : Int32} {a b : Nat} (ha : a < 2 ^ 31) (hb : b < 2 ^ 31) : decide (lN a ≤ x.toInt64 ∧ x.toInt64 ≤ lN b) = inr2 x a b := by
  unfold inr2
  simp only [Int64.le_iff_toInt_le, Int32.toInt_toInt64, lN_toInt ha, lN_toInt hb]
theorem nI_pred' {n : Nat} (hn : n < 2 ^ 31) : (nI n - nI 1).toInt = (n : Int) - 1 := by
  cases n with
  | zero => decide +kernel
  | succ n => rw [pk_sub (by omega), nI_toInt (by omega)]; omega
theorem inr_long {x : Int32} {n : Nat} (hn : n < 2 ^ 31) : decide (lN 0 ≤ x.toInt64 ∧ x.toInt64 ≤ (nI n - nI 1).toInt64) = inr x n := by
  unfold inr
  rw [decide_eq_decide]
  simp only [Int64.le_iff_toInt_le, Int32.toInt_toInt64, nI_pred' hn, lN_toInt (show 0 < 2 ^ 31 by decide)]
  omega
theorem inr2_0 {x : Int32} {b : Nat} : inr2 x 0 b = inr x (b + 1) := by
  unfold inr inr2
  rw [decide_eq_decide]
  omega
theorem c_isUnderN (x : Int32) (n : Nat) (hn : n < 2 ^ 31) (σ : Mem) : Cc yX5_isUnder cX5_isUnder 2 (some .boolean) 0 [.int x, .int (nI n)] σ (rI (bI (inr x n)) σ) := by
  have h := c_isUnder x (nI n) σ
  rwa [inr_lt rfl hn] at h
theorem c_isWithinN (x : Int32) (a b : Nat) (ha : a < 2 ^ 31) (hb : b < 2 ^ 31) (σ : Mem) : Cc yX5_isWithin cX5_isWithin 3 (some .boolean) 0 [.int x, .int (nI a), .int (nI b)] σ (rI (bI (inr2 x a b)) σ) := by
  have h := c_isWithin x (nI a) (nI b) σ
  rwa [inr2_le ha hb] at h
theorem c_inN (x : Int32) (a b : Nat) (ha : a < 2 ^ 31) (hb : b < 2 ^ 31) (σ : Mem) : Cc yX6_in cX6_in 6 (some .boolean) 0 [.long x.toInt64, .long (lN a), .long (lN b)] σ (rI (bI (inr2 x a b)) σ) := by
  have h := c_in x.toInt64 (lN a) (lN b) σ
  rwa [inr2_long ha hb] at h
theorem c_inS (x : Int32) (n : Nat) (hn : n < 2 ^ 31) (σ : Mem) : Cc yX6_in cX6_in 6 (some .boolean) 0 [.long x.toInt64, .long (lN 0), .long (nI n - nI 1).toInt64] σ (rI (bI (inr x n)) σ) := by
  have h := c_in x.toInt64 (lN 0) (nI n - nI 1).toInt64 σ
  rwa [inr_long hn] at h
theorem V_icmp_neS {X : XC} {own : String} {cc : ByteArray} {nL pc : Nat} {ls : List (Option Value)} {st : List Value} {σ : Mem} {x : Int32} {k : Nat} {off : Int} {tgt : Nat} (hX : Cok X own cc nL) (hd : decode cc pc = .ok (.if_icmp .ne off, 3)) (ht : (pc : Int) + off = (tgt : Int)) (hk : k < 32) (kt : bt x k = false → Vw X tgt ls st σ) (kf : bt x k = true → Vw X (pc + 3) ls st σ) : Vw X pc ls (.int (nI 1) :: .int ((x >>> (nI k &&& 31)) &&& nI 1) :: st) σ :=
  V_icmp_ne hX hd ht (fun h => kt (bn (fun q => h (by rw [sbit hk]; exact bI_1.mpr q)))) (fun h => kf (by rw [sbit hk] at h; exact bI_1.mp h))
theorem V_icmp_eqS {X : XC} {own : String} {cc : ByteArray} {nL pc : Nat} {ls : List (Option Value)} {st : List Value} {σ : Mem} {x : Int32} {k : Nat} {off : Int} {tgt : Nat} (hX : Cok X own cc nL) (hd : decode cc pc = .ok (.if_icmp .eq off, 3)) (ht : (pc : Int) + off = (tgt : Int)) (hk : k < 32) (kt : bt x k = true → Vw X tgt ls st σ) (kf : bt x k = false → Vw X (pc + 3) ls st σ) : Vw X pc ls (.int (nI 1) :: .int ((x >>> (nI k &&& 31)) &&& nI 1) :: st) σ :=
  V_icmp_eq hX hd ht (fun h => kt (by rw [sbit hk] at h; exact bI_1.mp h)) (fun h => kf (bn (fun q => h (by rw [sbit hk]; exact bI_1.mpr q))))
theorem V_if_eqS {X : XC} {own : String} {cc : ByteArray} {nL pc : Nat} {ls : List (Option Value)} {st : List Value} {σ : Mem} {x : Int32} {k : Nat} {off : Int} {tgt : Nat} (hX : Cok X own cc nL) (hd : decode cc pc = .ok (.ifCond .eq off, 3)) (ht : (pc : Int) + off = (tgt : Int)) (hk : k < 32) (kt : bt x k = false → Vw X tgt ls st σ) (kf : bt x k = true → Vw X (pc + 3) ls st σ) : Vw X pc ls (.int ((x >>> (nI k &&& 31)) &&& nI 1) :: st) σ :=
  V_if_eq hX hd ht (fun h => kt (by rw [sbit hk] at h; exact bI_z.mp h)) (fun h => kf (bn' (fun q => h (by rw [sbit hk]; exact bI_z.mpr q))))
theorem V_if_neS {X : XC} {own : String} {cc : ByteArray} {nL pc : Nat} {ls : List (Option Value)} {st : List Value} {σ : Mem} {x : Int32} {k : Nat} {off : Int} {tgt : Nat} (hX : Cok X own cc nL) (hd : decode cc pc = .ok (.ifCond .ne off, 3)) (ht : (pc : Int) + off = (tgt : Int)) (hk : k < 32) (kt : bt x k = true → Vw X tgt ls st σ) (kf : bt x k = false → Vw X (pc + 3) ls st σ) : Vw X pc ls (.int ((x >>> (nI k &&& 31)) &&& nI 1) :: st) σ :=
  V_if_ne hX hd ht (fun h => kt (bn' (fun q => h (by rw [sbit hk]; exact bI_z.mpr q)))) (fun h => kf (by rw [sbit hk] at h; exact bI_z.mp h))
end
section
/-! ===== SETS (the reference's) ===== -/
theorem imin_ge {x y : Int32} (h : x ≤ y) : imin x y = x := if_neg (Int32.not_lt.mpr h)
theorem imin_lt {x y : Int32} (h : ¬ x ≤ y) : imin x y = y := if_pos (Int32.not_le.mp h)
theorem shl1 {n : Nat} (hn : n < 31) : nI 1 <<< (nI n &&& 31) = nI (2 ^ n) := by
  have h := pk_shlN (n := 1) (nI n &&& 31) n (s_l n (by omega)) (by rw [Nat.one_mul]; exact Nat.pow_lt_pow_right (by decide) (by omega))
  rw [h, Nat.one_mul]
set_option maxRecDepth 100000 in
set_option maxHeartbeats 4000000 in
theorem c_misSet (n : Nat) (x : Int32) (σ : Mem) (hn : σ 52 5 = nI n) (hn10 : n ≤ 10) : Cc yX6_isSet cX6_isSet 2 (some .boolean) 1 [.ref 52, .int x] σ (rI (bI (inr x n)) σ) := by
  refine Cc.intro (by decide +kernel) [some (.ref 52), some (.int x)] (fun _ => rfl) rfl (fun _ => Nat.le_of_ble_eq_true rfl) ?_
  intro X hX hR hr
  refine V_iload_n (pc := 0) (i := 1) hX dX6_isSet_0 rfl rfl ?_
  refine V_i2l (pc := 1) hX dX6_isSet_1 ?_
  refine V_lconst (pc := 2) (v := lN 0) hX dX6_isSet_2 (by decide +kernel) ?_
  refine V_aload_n (pc := 3) (i := 0) hX dX6_isSet_3 rfl rfl ?_
  refine V_getf (pc := 4) hX fX6_90 dX6_isSet_4 rfl rfl ?_
  rw [hn]
  refine V_iconst (pc := 7) (v := (nI 1)) hX dX6_isSet_7 (by decide +kernel) ?_
  refine V_isub (pc := 8) hX dX6_isSet_8 ?_
  refine V_i2l (pc := 9) hX dX6_isSet_9 ?_
  refine V_callSi (pc := 10) hX (hR.mono (by omega)) mX6_75 (c_inS x n (by omega) σ) dX6_isSet_10 rfl rfl rfl (Nat.le_of_ble_eq_true rfl) ?_
  exact V_iret (pc := 13) (st := []) hX hr (by first | rfl | exact bI_nar _ | decide +kernel) dX6_isSet_13 (⟨rfl, rfl⟩)
set_option maxRecDepth 100000 in
set_option maxHeartbeats 4000000 in
theorem c_misOwn (k : Nat) (σ : Mem) (hk : k < 10) : Cc yX6_isOwn cX6_isOwn 2 (some .boolean) 0 [.ref 52, .int (nI k)] σ (rI (bI (bt (σ 52 8) k)) σ) := by
  refine Cc.intro (by decide +kernel) [some (.ref 52), some (.int (nI k))] (fun _ => rfl) rfl (fun _ => Nat.le_of_ble_eq_true rfl) ?_
  intro X hX hR hr
  refine V_aload_n (pc := 0) (i := 0) hX dX6_isOwn_0 rfl rfl ?_
  refine V_getf (pc := 1) hX fX6_93 dX6_isOwn_1 rfl rfl ?_
  refine V_iload_n (pc := 4) (i := 1) hX dX6_isOwn_4 rfl rfl ?_
  refine V_ishr (pc := 5) hX dX6_isOwn_5 ?_
  refine V_iconst (pc := 6) (v := (nI 1)) hX dX6_isOwn_6 (by decide +kernel) ?_
  refine V_iand (pc := 7) hX dX6_isOwn_7 ?_
  refine V_iconst (pc := 8) (v := (nI 1)) hX dX6_isOwn_8 (by decide +kernel) ?_
  refine V_icmp_neS (pc := 9) (tgt := 16) hX dX6_isOwn_9 (by decide) (by omega) (fun h9 => ?_) (fun h9 => ?_)
  · refine V_iconst (pc := 16) (v := (nI 0)) hX dX6_isOwn_16 (by decide +kernel) ?_
    exact V_iret (pc := 17) (st := []) hX hr (by first | rfl | exact bI_nar _ | decide +kernel) dX6_isOwn_17 (⟨by rw [h9]; rfl, rfl⟩)
  · refine V_iconst (pc := 12) (v := (nI 1)) hX dX6_isOwn_12 (by decide +kernel) ?_
    refine V_goto (pc := 13) (tgt := 17) hX dX6_isOwn_13 (by decide) ?_
    exact V_iret (pc := 17) (st := []) hX hr (by first | rfl | exact bI_nar _ | decide +kernel) dX6_isOwn_17 (⟨by rw [h9]; rfl, rfl⟩)
set_option maxRecDepth 100000 in
set_option maxHeartbeats 4000000 in
theorem c_mhas (k t : Nat) (σ : Mem) (hk : k < 10) (ht : t < 12) : Cc yX6_has cX6_has 3 (some .boolean) 0 [.ref 52, .int (nI k), .int (nI t)] σ (rI (bI (bt (σ 57 k) t)) σ) := by
  refine Cc.intro (by decide +kernel) [some (.ref 52), some (.int (nI k)), some (.int (nI t))] (fun _ => rfl) rfl (fun _ => Nat.le_of_ble_eq_true rfl) ?_
  intro X hX hR hr
  refine V_aload_n (pc := 0) (i := 0) hX dX6_has_0 rfl rfl ?_
  refine V_getr (pc := 1) hX fX6_22 dX6_has_1 rfl rfl ?_
  refine V_iload_n (pc := 4) (i := 1) hX dX6_has_4 rfl rfl ?_
  refine V_iald (pc := 5) hX dX6_has_5 (rfl) (rfl) (by omega) (by decide) ?_
  refine V_iload_n (pc := 6) (i := 2) hX dX6_has_6 rfl rfl ?_
  refine V_ishr (pc := 7) hX dX6_has_7 ?_
  refine V_iconst (pc := 8) (v := (nI 1)) hX dX6_has_8 (by decide +kernel) ?_
  refine V_iand (pc := 9) hX dX6_has_9 ?_
  refine V_iconst (pc := 10) (v := (nI 1)) hX dX6_has_10 (by decide +kernel) ?_
  refine V_icmp_neS (pc := 11) (tgt := 18) hX dX6_has_11 (by decide) (by omega) (fun h11 => ?_) (fun h11 => ?_)
  · refine V_iconst (pc := 18) (v := (nI 0)) hX dX6_has_18 (by decide +kernel) ?_
    exact V_iret (pc := 19) (st := []) hX hr (by first | rfl | exact bI_nar _ | decide +kernel) dX6_has_19 (⟨by rw [h11]; rfl, rfl⟩)
  · refine V_iconst (pc := 14) (v := (nI 1)) hX dX6_has_14 (by decide +kernel) ?_
    refine V_goto (pc := 15) (tgt := 19) hX dX6_has_15 (by decide) ?_
    exact V_iret (pc := 19) (st := []) hX hr (by first | rfl | exact bI_nar _ | decide +kernel) dX6_has_19 (⟨by rw [h11]; rfl, rfl⟩)
set_option maxRecDepth 100000 in
set_option maxHeartbeats 4000000 in
theorem l_mfilled {s : Nat} {X : XC} {P : Option Value → Mem → Prop} {σ : Mem} (hX : Cok X RX6 cX6_filled 4) (hR : Rok X 0) (hr : Ret X (some .int) P) (hs : s < 10) (hp : P (some (.int (pf (σ 57 s) (σ 58) 12))) σ) (k : Nat) (hk : k ≤ 12) : Vw X 4 [some (.ref 52), some (.int (nI s)), some (.int (pf (σ 57 s) (σ 58) k)), some (.int (nI k))] [] σ := by
  refine V_iload_n (pc := 4) (i := 3) hX dX6_filled_4 rfl rfl ?_
  refine V_bipush (pc := 5) (v := (nI 12)) hX dX6_filled_5 (by decide +kernel) ?_
  refine V_icmp_geN (pc := 7) (tgt := 43) hX dX6_filled_7 (by decide) (by omega) (by omega) (fun h7 => ?_) (fun h7 => ?_)
  · obtain rfl : k = 12 := by omega
    refine V_iload_n (pc := 43) (i := 2) hX dX6_filled_43 rfl rfl ?_
    exact V_iret (pc := 44) (st := []) hX hr (by first | rfl | exact bI_nar _ | decide +kernel) dX6_filled_44 (hp)
  · refine V_iload_n (pc := 10) (i := 2) hX dX6_filled_10 rfl rfl ?_
    refine V_aload_n (pc := 11) (i := 0) hX dX6_filled_11 rfl rfl ?_
    refine V_getr (pc := 12) hX fX6_22 dX6_filled_12 rfl rfl ?_
    refine V_iload_n (pc := 15) (i := 1) hX dX6_filled_15 rfl rfl ?_
    refine V_iald (pc := 16) hX dX6_filled_16 (rfl) (rfl) (by omega) (by decide) ?_
    refine V_iload_n (pc := 17) (i := 3) hX dX6_filled_17 rfl rfl ?_
    refine V_ishr (pc := 18) hX dX6_filled_18 ?_
    refine V_iconst (pc := 19) (v := (nI 1)) hX dX6_filled_19 (by decide +kernel) ?_
    refine V_iand (pc := 20) hX dX6_filled_20 ?_
    refine V_iconst (pc := 21) (v := (nI 1)) hX dX6_filled_21 (by decide +kernel) ?_
    refine V_icmp_neS (pc := 22) (tgt := 34) hX dX6_filled_22 (by decide) (by omega) (fun h22 => ?_) (fun h22 => ?_)
    · refine V_iconst (pc := 34) (v := (nI 0)) hX dX6_filled_34 (by decide +kernel) ?_
      refine V_iadd (pc := 35) hX dX6_filled_35 ?_
      refine V_istore2 (pc := 36) hX dX6_filled_36 rfl ?_
      refine V_iinc3 (pc := 37) hX dX6_filled_37 rfl (iinc1 _) ?_
      refine V_goto (pc := 40) (tgt := 4) hX dX6_filled_40 (by decide) ?_
      have ih := l_mfilled hX hR hr hs hp (k + 1) (by omega)
      simp only [pf, h22, ↓reduceIte, Bool.false_eq_true] at ih
      rw [add0]
      exact ih
    · refine V_aload_n (pc := 25) (i := 0) hX dX6_filled_25 rfl rfl ?_
      refine V_getr (pc := 26) hX fX6_25 dX6_filled_26 rfl rfl ?_
      refine V_iload_n (pc := 29) (i := 3) hX dX6_filled_29 rfl rfl ?_
      refine V_iald (pc := 30) hX dX6_filled_30 (rfl) (rfl) (by omega) (by decide) ?_
      refine V_goto (pc := 31) (tgt := 35) hX dX6_filled_31 (by decide) ?_
      refine V_iadd (pc := 35) hX dX6_filled_35 ?_
      refine V_istore2 (pc := 36) hX dX6_filled_36 rfl ?_
      refine V_iinc3 (pc := 37) hX dX6_filled_37 rfl (iinc1 _) ?_
      refine V_goto (pc := 40) (tgt := 4) hX dX6_filled_40 (by decide) ?_
      have ih := l_mfilled hX hR hr hs hp (k + 1) (by omega)
      simp only [pf, h22, ↓reduceIte, Bool.false_eq_true] at ih
      exact ih
termination_by 12 - k
set_option maxRecDepth 100000 in
set_option maxHeartbeats 4000000 in
theorem c_mfilled (s : Nat) (σ : Mem) (hs : s < 10) : Cc yX6_filled cX6_filled 4 (some .int) 0 [.ref 52, .int (nI s)] σ (rI (pf (σ 57 s) (σ 58) 12) σ) := by
  refine Cc.intro (by decide +kernel) [some (.ref 52), some (.int (nI s)), none, none] (fun _ => rfl) rfl (fun _ => Nat.le_of_ble_eq_true rfl) ?_
  intro X hX hR hr
  refine V_iconst (pc := 0) (v := (nI 0)) hX dX6_filled_0 (by decide +kernel) ?_
  refine V_istore2 (pc := 1) hX dX6_filled_1 rfl ?_
  refine V_iconst (pc := 2) (v := (nI 0)) hX dX6_filled_2 (by decide +kernel) ?_
  refine V_istore3 (pc := 3) hX dX6_filled_3 rfl ?_
  exact l_mfilled hX hR hr hs ⟨rfl, rfl⟩ 0 (by omega)
/-- whether one of the first k sets has t; whether a bought one has; the least gap -/
def smf (th : Nat → Int32) (t : Nat) : Nat → Bool
  | 0 => false
  | k + 1 => if bt (th k) t then true else smf th t k
def owf (bo : Int32) (th : Nat → Int32) (t : Nat) : Nat → Bool
  | 0 => false
  | k + 1 => if bt (th k) t then owf bo th t k || bt bo k else owf bo th t k
def lgm (c th : Nat → Int32) (pr : Nat → Int32) (t : Nat) : Nat → Int32
  | 0 => nI 1000000
  | k + 1 => if bt (th k) t then imin (lgm c th pr t k) (c k - pf (th k) pr 12) else lgm c th pr t k
set_option maxRecDepth 100000 in
set_option maxHeartbeats 4000000 in
theorem l_mdem1 {n t : Nat} {z6 : Option Value} {X : XC} {P : Option Value → Mem → Prop} {σ : Mem} (hX : Cok X RX6 cX6_demanding 7) (hR : Rok X 1) (hr : Ret X (some .int) P) (hz : nol [z6] = true) (hn : σ 52 5 = nI n) (hn10 : n ≤ 10) (ht : t < 12)
    (kk : Vw X 112 [some (.ref 52), some (.int (nI t)), some (.int (bI (smf (σ 57) t n))), some (.int (bI (owf (σ 52 8) (σ 57) t n))), some (.int (lgm (σ 56) (σ 57) (σ 58) t n)), some (.int (nI n)), none] [] σ) (k : Nat) (hk : k ≤ n) :
    Vw X 26 [some (.ref 52), some (.int (nI t)), some (.int (bI (smf (σ 57) t k))), some (.int (bI (owf (σ 52 8) (σ 57) t k))), some (.int (lgm (σ 56) (σ 57) (σ 58) t k)), some (.int (nI k)), none] [] σ := by
  refine V_iload (pc := 26) (i := 5) hX dX6_demanding_26 rfl ?_
  refine V_aload_n (pc := 28) (i := 0) hX dX6_demanding_28 rfl rfl ?_
  refine V_getf (pc := 29) hX fX6_90 dX6_demanding_29 rfl rfl ?_
  rw [hn]
  refine V_icmp_geN (pc := 32) (tgt := 112) hX dX6_demanding_32 (by decide) (by omega) (by omega) (fun h32 => ?_) (fun h32 => ?_)
  · obtain rfl : k = n := by omega
    exact kk
  · refine V_aload_n (pc := 35) (i := 0) hX dX6_demanding_35 rfl rfl ?_
    refine V_iload (pc := 36) (i := 5) hX dX6_demanding_36 rfl ?_
    refine V_iload_n (pc := 38) (i := 1) hX dX6_demanding_38 rfl rfl ?_
    refine V_callVi (pc := 39) hX (hR.mono (by omega)) mX6_108 (c_mhas _ _ _ (by omega) (by omega)) dX6_demanding_39 rfl rfl rfl rfl (Nat.le_of_ble_eq_true rfl) ?_
    refine V_if_eqB (pc := 42) (tgt := 106) hX dX6_demanding_42 (by decide) (fun h42 => ?_) (fun h42 => ?_)
    · refine V_iinc5 (pc := 106) hX dX6_demanding_106 rfl (iinc1 _) ?_
      refine V_goto (pc := 109) (tgt := 26) hX dX6_demanding_109 (by decide) ?_
      have ih := l_mdem1 hX hR hr hz hn hn10 ht kk (k + 1) (by omega)
      simp only [smf, owf, lgm, h42, ↓reduceIte, Bool.false_eq_true] at ih
      exact ih
    · refine V_iconst (pc := 45) (v := (nI 1)) hX dX6_demanding_45 (by decide +kernel) ?_
      refine V_istore2 (pc := 46) hX dX6_demanding_46 rfl ?_
      refine V_iload_n (pc := 47) (i := 3) hX dX6_demanding_47 rfl rfl ?_
      refine V_if_neB (pc := 48) (tgt := 60) hX dX6_demanding_48 (by decide) (fun h48 => ?_) (fun h48 => ?_)
      · refine V_iconst (pc := 60) (v := (nI 1)) hX dX6_demanding_60 (by decide +kernel) ?_
        refine V_goto (pc := 61) (tgt := 65) hX dX6_demanding_61 (by decide) ?_
        refine V_istore3 (pc := 65) hX dX6_demanding_65 rfl ?_
        refine V_aload_n (pc := 66) (i := 0) hX dX6_demanding_66 rfl rfl ?_
        refine V_getr (pc := 67) hX fX6_19 dX6_demanding_67 rfl rfl ?_
        refine V_iload (pc := 70) (i := 5) hX dX6_demanding_70 rfl ?_
        refine V_iald (pc := 72) hX dX6_demanding_72 (rfl) (rfl) (by omega) (by decide) ?_
        refine V_aload_n (pc := 73) (i := 0) hX dX6_demanding_73 rfl rfl ?_
        refine V_iload (pc := 74) (i := 5) hX dX6_demanding_74 rfl ?_
        refine V_callVi (pc := 76) hX (hR.mono (by omega)) mX6_115 (c_mfilled _ _ (by omega)) dX6_demanding_76 rfl rfl rfl rfl (Nat.le_of_ble_eq_true rfl) ?_
        refine V_isub (pc := 79) hX dX6_demanding_79 ?_
        refine V_iload (pc := 80) (i := 4) hX dX6_demanding_80 rfl ?_
        refine V_icmp_ge (pc := 82) (tgt := 102) hX dX6_demanding_82 (by decide) (fun h82 => ?_) (fun h82 => ?_)
        · refine V_iload (pc := 102) (i := 4) hX dX6_demanding_102 rfl ?_
          refine V_istore4 (pc := 104) hX dX6_demanding_104 rfl ?_
          refine V_iinc5 (pc := 106) hX dX6_demanding_106 rfl (iinc1 _) ?_
          refine V_goto (pc := 109) (tgt := 26) hX dX6_demanding_109 (by decide) ?_
          have ih := l_mdem1 hX hR hr hz hn hn10 ht kk (k + 1) (by omega)
          simp only [smf, owf, lgm, h42, ↓reduceIte, Bool.false_eq_true] at ih
          first
            | rw [h48, Bool.true_or] at ih
            | rw [h48, h57, Bool.false_or] at ih
          first
            | rw [imin_ge h82] at ih
            | rw [imin_lt h82] at ih
          exact ih
        · refine V_aload_n (pc := 85) (i := 0) hX dX6_demanding_85 rfl rfl ?_
          refine V_getr (pc := 86) hX fX6_19 dX6_demanding_86 rfl rfl ?_
          refine V_iload (pc := 89) (i := 5) hX dX6_demanding_89 rfl ?_
          refine V_iald (pc := 91) hX dX6_demanding_91 (rfl) (rfl) (by omega) (by decide) ?_
          refine V_aload_n (pc := 92) (i := 0) hX dX6_demanding_92 rfl rfl ?_
          refine V_iload (pc := 93) (i := 5) hX dX6_demanding_93 rfl ?_
          refine V_callVi (pc := 95) hX (hR.mono (by omega)) mX6_115 (c_mfilled _ _ (by omega)) dX6_demanding_95 rfl rfl rfl rfl (Nat.le_of_ble_eq_true rfl) ?_
          refine V_isub (pc := 98) hX dX6_demanding_98 ?_
          refine V_goto (pc := 99) (tgt := 104) hX dX6_demanding_99 (by decide) ?_
          refine V_istore4 (pc := 104) hX dX6_demanding_104 rfl ?_
          refine V_iinc5 (pc := 106) hX dX6_demanding_106 rfl (iinc1 _) ?_
          refine V_goto (pc := 109) (tgt := 26) hX dX6_demanding_109 (by decide) ?_
          have ih := l_mdem1 hX hR hr hz hn hn10 ht kk (k + 1) (by omega)
          simp only [smf, owf, lgm, h42, ↓reduceIte, Bool.false_eq_true] at ih
          first
            | rw [h48, Bool.true_or] at ih
            | rw [h48, h57, Bool.false_or] at ih
          first
            | rw [imin_ge h82] at ih
            | rw [imin_lt h82] at ih
          exact ih
      · refine V_aload_n (pc := 51) (i := 0) hX dX6_demanding_51 rfl rfl ?_
        refine V_iload (pc := 52) (i := 5) hX dX6_demanding_52 rfl ?_
        refine V_callVi (pc := 54) hX (hR.mono (by omega)) mX6_112 (c_misOwn _ _ (by omega)) dX6_demanding_54 rfl rfl rfl rfl (Nat.le_of_ble_eq_true rfl) ?_
        refine V_if_eqB (pc := 57) (tgt := 64) hX dX6_demanding_57 (by decide) (fun h57 => ?_) (fun h57 => ?_)
        · refine V_iconst (pc := 64) (v := (nI 0)) hX dX6_demanding_64 (by decide +kernel) ?_
          refine V_istore3 (pc := 65) hX dX6_demanding_65 rfl ?_
          refine V_aload_n (pc := 66) (i := 0) hX dX6_demanding_66 rfl rfl ?_
          refine V_getr (pc := 67) hX fX6_19 dX6_demanding_67 rfl rfl ?_
          refine V_iload (pc := 70) (i := 5) hX dX6_demanding_70 rfl ?_
          refine V_iald (pc := 72) hX dX6_demanding_72 (rfl) (rfl) (by omega) (by decide) ?_
          refine V_aload_n (pc := 73) (i := 0) hX dX6_demanding_73 rfl rfl ?_
          refine V_iload (pc := 74) (i := 5) hX dX6_demanding_74 rfl ?_
          refine V_callVi (pc := 76) hX (hR.mono (by omega)) mX6_115 (c_mfilled _ _ (by omega)) dX6_demanding_76 rfl rfl rfl rfl (Nat.le_of_ble_eq_true rfl) ?_
          refine V_isub (pc := 79) hX dX6_demanding_79 ?_
          refine V_iload (pc := 80) (i := 4) hX dX6_demanding_80 rfl ?_
          refine V_icmp_ge (pc := 82) (tgt := 102) hX dX6_demanding_82 (by decide) (fun h82 => ?_) (fun h82 => ?_)
          · refine V_iload (pc := 102) (i := 4) hX dX6_demanding_102 rfl ?_
            refine V_istore4 (pc := 104) hX dX6_demanding_104 rfl ?_
            refine V_iinc5 (pc := 106) hX dX6_demanding_106 rfl (iinc1 _) ?_
            refine V_goto (pc := 109) (tgt := 26) hX dX6_demanding_109 (by decide) ?_
            have ih := l_mdem1 hX hR hr hz hn hn10 ht kk (k + 1) (by omega)
            simp only [smf, owf, lgm, h42, ↓reduceIte, Bool.false_eq_true] at ih
            first
              | rw [h48, Bool.true_or] at ih
              | rw [h48, h57, Bool.false_or] at ih
            first
              | rw [imin_ge h82] at ih
              | rw [imin_lt h82] at ih
            exact ih
          · refine V_aload_n (pc := 85) (i := 0) hX dX6_demanding_85 rfl rfl ?_
            refine V_getr (pc := 86) hX fX6_19 dX6_demanding_86 rfl rfl ?_
            refine V_iload (pc := 89) (i := 5) hX dX6_demanding_89 rfl ?_
            refine V_iald (pc := 91) hX dX6_demanding_91 (rfl) (rfl) (by omega) (by decide) ?_
            refine V_aload_n (pc := 92) (i := 0) hX dX6_demanding_92 rfl rfl ?_
            refine V_iload (pc := 93) (i := 5) hX dX6_demanding_93 rfl ?_
            refine V_callVi (pc := 95) hX (hR.mono (by omega)) mX6_115 (c_mfilled _ _ (by omega)) dX6_demanding_95 rfl rfl rfl rfl (Nat.le_of_ble_eq_true rfl) ?_
            refine V_isub (pc := 98) hX dX6_demanding_98 ?_
            refine V_goto (pc := 99) (tgt := 104) hX dX6_demanding_99 (by decide) ?_
            refine V_istore4 (pc := 104) hX dX6_demanding_104 rfl ?_
            refine V_iinc5 (pc := 106) hX dX6_demanding_106 rfl (iinc1 _) ?_
            refine V_goto (pc := 109) (tgt := 26) hX dX6_demanding_109 (by decide) ?_
            have ih := l_mdem1 hX hR hr hz hn hn10 ht kk (k + 1) (by omega)
            simp only [smf, owf, lgm, h42, ↓reduceIte, Bool.false_eq_true] at ih
            first
              | rw [h48, Bool.true_or] at ih
              | rw [h48, h57, Bool.false_or] at ih
            first
              | rw [imin_ge h82] at ih
              | rw [imin_lt h82] at ih
            exact ih
        · refine V_iconst (pc := 60) (v := (nI 1)) hX dX6_demanding_60 (by decide +kernel) ?_
          refine V_goto (pc := 61) (tgt := 65) hX dX6_demanding_61 (by decide) ?_
          refine V_istore3 (pc := 65) hX dX6_demanding_65 rfl ?_
          refine V_aload_n (pc := 66) (i := 0) hX dX6_demanding_66 rfl rfl ?_
          refine V_getr (pc := 67) hX fX6_19 dX6_demanding_67 rfl rfl ?_
          refine V_iload (pc := 70) (i := 5) hX dX6_demanding_70 rfl ?_
          refine V_iald (pc := 72) hX dX6_demanding_72 (rfl) (rfl) (by omega) (by decide) ?_
          refine V_aload_n (pc := 73) (i := 0) hX dX6_demanding_73 rfl rfl ?_
          refine V_iload (pc := 74) (i := 5) hX dX6_demanding_74 rfl ?_
          refine V_callVi (pc := 76) hX (hR.mono (by omega)) mX6_115 (c_mfilled _ _ (by omega)) dX6_demanding_76 rfl rfl rfl rfl (Nat.le_of_ble_eq_true rfl) ?_
          refine V_isub (pc := 79) hX dX6_demanding_79 ?_
          refine V_iload (pc := 80) (i := 4) hX dX6_demanding_80 rfl ?_
          refine V_icmp_ge (pc := 82) (tgt := 102) hX dX6_demanding_82 (by decide) (fun h82 => ?_) (fun h82 => ?_)
          · refine V_iload (pc := 102) (i := 4) hX dX6_demanding_102 rfl ?_
            refine V_istore4 (pc := 104) hX dX6_demanding_104 rfl ?_
            refine V_iinc5 (pc := 106) hX dX6_demanding_106 rfl (iinc1 _) ?_
            refine V_goto (pc := 109) (tgt := 26) hX dX6_demanding_109 (by decide) ?_
            have ih := l_mdem1 hX hR hr hz hn hn10 ht kk (k + 1) (by omega)
            simp only [smf, owf, lgm, h42, ↓reduceIte, Bool.false_eq_true] at ih
            first
              | rw [h48, Bool.true_or] at ih
              | rw [h48, h57, Bool.false_or] at ih
            first
              | rw [imin_ge h82] at ih
              | rw [imin_lt h82] at ih
            exact ih
          · refine V_aload_n (pc := 85) (i := 0) hX dX6_demanding_85 rfl rfl ?_
            refine V_getr (pc := 86) hX fX6_19 dX6_demanding_86 rfl rfl ?_
            refine V_iload (pc := 89) (i := 5) hX dX6_demanding_89 rfl ?_
            refine V_iald (pc := 91) hX dX6_demanding_91 (rfl) (rfl) (by omega) (by decide) ?_
            refine V_aload_n (pc := 92) (i := 0) hX dX6_demanding_92 rfl rfl ?_
            refine V_iload (pc := 93) (i := 5) hX dX6_demanding_93 rfl ?_
            refine V_callVi (pc := 95) hX (hR.mono (by omega)) mX6_115 (c_mfilled _ _ (by omega)) dX6_demanding_95 rfl rfl rfl rfl (Nat.le_of_ble_eq_true rfl) ?_
            refine V_isub (pc := 98) hX dX6_demanding_98 ?_
            refine V_goto (pc := 99) (tgt := 104) hX dX6_demanding_99 (by decide) ?_
            refine V_istore4 (pc := 104) hX dX6_demanding_104 rfl ?_
            refine V_iinc5 (pc := 106) hX dX6_demanding_106 rfl (iinc1 _) ?_
            refine V_goto (pc := 109) (tgt := 26) hX dX6_demanding_109 (by decide) ?_
            have ih := l_mdem1 hX hR hr hz hn hn10 ht kk (k + 1) (by omega)
            simp only [smf, owf, lgm, h42, ↓reduceIte, Bool.false_eq_true] at ih
            first
              | rw [h48, Bool.true_or] at ih
              | rw [h48, h57, Bool.false_or] at ih
            first
              | rw [imin_ge h82] at ih
              | rw [imin_lt h82] at ih
            exact ih
termination_by n - k
def mmB (σ : Mem) (t k : Nat) : Mem := mu σ 52 8 (buyB (σ 56) (σ 57) (σ 58) t (σ 52 8) k)
theorem mmB_0 (σ : Mem) (t : Nat) : mmB σ t 0 = σ := by
  unfold mmB buyB
  exact mu_self σ 52 8
theorem mmB_r {σ : Mem} {t k q : Nat} (h : q ≠ 52) : mmB σ t k q = σ q := (mu_ne h).symm
theorem mmB_c {σ : Mem} {t k j : Nat} (h : j ≠ 8) : mmB σ t k 52 j = σ 52 j := mu_ni h
theorem mmB_t {σ : Mem} {t k : Nat} (h1 : bt (σ 57 k) t = true) (h2 : pf (σ 57 k) (σ 58) 12 = σ 56 k) : mmB σ t (k + 1) = mu (mmB σ t k) 52 8 (mmB σ t k 52 8 ||| (nI 1 <<< (nI k &&& 31))) := by
  have ht : tight (σ 56) (σ 57) (σ 58) t k = true := by simp [tight, h1, h2]
  unfold mmB
  rw [mu_mu, mu_at]
  simp only [buyB, ht, ↓reduceIte]
theorem mmB_f {σ : Mem} {t k : Nat} (h1 : bt (σ 57 k) t = false ∨ pf (σ 57 k) (σ 58) 12 ≠ σ 56 k) : mmB σ t (k + 1) = mmB σ t k := by
  have ht : tight (σ 56) (σ 57) (σ 58) t k = false := by
    rcases h1 with h | h <;> simp [tight, h]
  unfold mmB
  simp only [buyB, ht, Bool.false_eq_true, ↓reduceIte]
set_option maxRecDepth 100000 in
set_option maxHeartbeats 4000000 in
theorem l_mdem2 {n t : Nat} {a b c : Int32} {X : XC} {P : Option Value → Mem → Prop} {σ : Mem} (hX : Cok X RX6 cX6_demanding 7) (hR : Rok X 1) (hr : Ret X (some .int) P) (hn : σ 52 5 = nI n) (hn10 : n ≤ 10) (ht : t < 12)
    (kk : Vw X 220 [some (.ref 52), some (.int (nI t)), some (.int a), some (.int b), some (.int c), some (.int (buyC (σ 56) (σ 57) (σ 58) t n)), some (.int (nI n))] [] (mmB σ t n)) (k : Nat) (hk : k ≤ n) :
    Vw X 154 [some (.ref 52), some (.int (nI t)), some (.int a), some (.int b), some (.int c), some (.int (buyC (σ 56) (σ 57) (σ 58) t k)), some (.int (nI k))] [] (mmB σ t k) := by
  have r56 : mmB σ t k 56 = σ 56 := mmB_r (by decide)
  have r57 : mmB σ t k 57 = σ 57 := mmB_r (by decide)
  have r58 : mmB σ t k 58 = σ 58 := mmB_r (by decide)
  have r5 : mmB σ t k 52 5 = nI n := by rw [mmB_c (by decide)]; exact hn
  refine V_iload (pc := 154) (i := 6) hX dX6_demanding_154 rfl ?_
  refine V_aload_n (pc := 156) (i := 0) hX dX6_demanding_156 rfl rfl ?_
  refine V_getf (pc := 157) hX fX6_90 dX6_demanding_157 rfl rfl ?_
  rw [r5]
  refine V_icmp_geN (pc := 160) (tgt := 220) hX dX6_demanding_160 (by decide) (by omega) (by omega) (fun h160 => ?_) (fun h160 => ?_)
  · obtain rfl : k = n := by omega
    exact kk
  · refine V_aload_n (pc := 163) (i := 0) hX dX6_demanding_163 rfl rfl ?_
    refine V_iload (pc := 164) (i := 6) hX dX6_demanding_164 rfl ?_
    refine V_iload_n (pc := 166) (i := 1) hX dX6_demanding_166 rfl rfl ?_
    refine V_callVi (pc := 167) hX (hR.mono (by omega)) mX6_108 (c_mhas _ _ _ (by omega) (by omega)) dX6_demanding_167 rfl rfl rfl rfl (Nat.le_of_ble_eq_true rfl) ?_
    refine V_if_eqB (pc := 170) (tgt := 214) hX dX6_demanding_170 (by decide) (fun h170 => ?_) (fun h170 => ?_)
    · refine V_iinc6 (pc := 214) hX dX6_demanding_214 rfl (iinc1 _) ?_
      refine V_goto (pc := 217) (tgt := 154) hX dX6_demanding_217 (by decide) ?_
      have ih := l_mdem2 hX hR hr hn hn10 ht kk (k + 1) (by omega)
      rw [r57] at h170
      rw [mmB_f (Or.inl h170)] at ih
      simp only [buyC, tight, h170, Bool.false_and, Bool.false_eq_true, ↓reduceIte] at ih
      exact ih
    · refine V_aload_n (pc := 173) (i := 0) hX dX6_demanding_173 rfl rfl ?_
      refine V_iload (pc := 174) (i := 6) hX dX6_demanding_174 rfl ?_
      refine V_callVi (pc := 176) hX (hR.mono (by omega)) mX6_115 (c_mfilled _ _ (by omega)) dX6_demanding_176 rfl rfl rfl rfl (Nat.le_of_ble_eq_true rfl) ?_
      refine V_aload_n (pc := 179) (i := 0) hX dX6_demanding_179 rfl rfl ?_
      refine V_getr (pc := 180) hX fX6_19 dX6_demanding_180 rfl rfl ?_
      refine V_iload (pc := 183) (i := 6) hX dX6_demanding_183 rfl ?_
      refine V_iald (pc := 185) hX dX6_demanding_185 (rfl) (rfl) (by omega) (by decide) ?_
      refine V_icmp_ne (pc := 186) (tgt := 214) hX dX6_demanding_186 (by decide) (fun h186 => ?_) (fun h186 => ?_)
      · refine V_iinc6 (pc := 214) hX dX6_demanding_214 rfl (iinc1 _) ?_
        refine V_goto (pc := 217) (tgt := 154) hX dX6_demanding_217 (by decide) ?_
        have ih := l_mdem2 hX hR hr hn hn10 ht kk (k + 1) (by omega)
        rw [r56, r57, r58] at h186
        rw [mmB_f (Or.inr h186)] at ih
        simp only [buyC, tight, decide_eq_false h186, Bool.and_false, Bool.false_eq_true, ↓reduceIte] at ih
        exact ih
      · refine V_aload_n (pc := 189) (i := 0) hX dX6_demanding_189 rfl rfl ?_
        refine V_dup (pc := 190) hX dX6_demanding_190 rfl ?_
        refine V_getf (pc := 191) hX fX6_93 dX6_demanding_191 rfl rfl ?_
        refine V_iconst (pc := 194) (v := (nI 1)) hX dX6_demanding_194 (by decide +kernel) ?_
        refine V_iload (pc := 195) (i := 6) hX dX6_demanding_195 rfl ?_
        refine V_ishl (pc := 197) hX dX6_demanding_197 ?_
        refine V_ior (pc := 198) hX dX6_demanding_198 ?_
        refine V_putf (pc := 199) hX fX6_93 gi6_8 dX6_demanding_199 rfl rfl ?_
        refine V_iload (pc := 202) (i := 5) hX dX6_demanding_202 rfl ?_
        refine V_aload_n (pc := 204) (i := 0) hX dX6_demanding_204 rfl rfl ?_
        refine V_getr (pc := 205) hX fX6_19 dX6_demanding_205 rfl rfl ?_
        refine V_iload (pc := 208) (i := 6) hX dX6_demanding_208 rfl ?_
        refine V_iald (pc := 210) hX dX6_demanding_210 (rfl) (rfl) (by omega) (by decide) ?_
        refine V_iadd (pc := 211) hX dX6_demanding_211 ?_
        refine V_istore5 (pc := 212) hX dX6_demanding_212 rfl ?_
        refine V_iinc6 (pc := 214) hX dX6_demanding_214 rfl (iinc1 _) ?_
        refine V_goto (pc := 217) (tgt := 154) hX dX6_demanding_217 (by decide) ?_
        have ih := l_mdem2 hX hR hr hn hn10 ht kk (k + 1) (by omega)
        rw [r57] at h170
        rw [r56, r57, r58] at h186
        rw [mmB_t h170 h186] at ih
        simp only [buyC, tight, h170, decide_eq_true h186, Bool.and_true, ↓reduceIte] at ih
        simp only [mu_f, upd_at, r56, r57, Nat.reduceEqDiff, ↓reduceIte]
        exact ih
termination_by n - k
def mask2 (σ : Mem) (t : Nat) : Mem := mu σ 52 9 (σ 52 9 ||| (nI 1 <<< (nI t &&& 31)))
def mraise2 (σ : Mem) (n t : Nat) : Mem := mu (mask2 σ t) 58 t (σ 58 t + lgm (σ 56) (σ 57) (σ 58) t n)
def mdemV (σ : Mem) (n t : Nat) : Int32 := if smf (σ 57) t n then (if owf (σ 52 8) (σ 57) t n then nI 0 else buyC (σ 56) (σ 57) (mraise2 σ n t 58) t n) else (-1000002)
def mdemM (σ : Mem) (n t : Nat) : Mem := if smf (σ 57) t n then (if owf (σ 52 8) (σ 57) t n then mask2 σ t else mu (mmB (mraise2 σ n t) t n) 52 11 (σ 52 11 + buyC (σ 56) (σ 57) (mraise2 σ n t 58) t n)) else σ
set_option maxRecDepth 100000 in
set_option maxHeartbeats 4000000 in
theorem c_mdemB (x : Int32) (σ : Mem) (hx : inr x 12 = false) : Cc yX6_demanding cX6_demanding 7 (some .int) 1 [.ref 52, .int x] σ (rI (-1000001) σ) := by
  refine Cc.intro (by decide +kernel) [some (.ref 52), some (.int x), none, none, none, none, none] (fun _ => rfl) rfl (fun _ => Nat.le_of_ble_eq_true rfl) ?_
  intro X hX hR hr
  have hx2 : inr2 x 0 11 = false := by rw [inr2_0]; exact hx
  refine V_iload_n (pc := 0) (i := 1) hX dX6_demanding_0 rfl rfl ?_
  refine V_i2l (pc := 1) hX dX6_demanding_1 ?_
  refine V_lconst (pc := 2) (v := lN 0) hX dX6_demanding_2 (by decide +kernel) ?_
  refine V_ldc2 (pc := 3) hX kX6_105 dX6_demanding_3 ?_
  refine V_callSi (pc := 6) hX (hR.mono (by omega)) mX6_75 (c_inN x 0 11 (by decide) (by decide) σ) dX6_demanding_6 rfl rfl rfl (Nat.le_of_ble_eq_true rfl) ?_
  refine V_if_neB (pc := 9) (tgt := 15) hX dX6_demanding_9 (by decide) (fun h9 => absurd h9 (by rw [hx2]; decide)) (fun h9 => ?_)
  refine V_ldc (pc := 12) hX kX6_85 dX6_demanding_12 ?_
  exact V_iret (pc := 14) (st := []) hX hr (by first | rfl | exact bI_nar _ | decide +kernel) dX6_demanding_14 (⟨rfl, rfl⟩)
set_option maxRecDepth 100000 in
set_option maxHeartbeats 4000000 in
theorem c_mdem (n t : Nat) (σ : Mem) (hn : σ 52 5 = nI n) (hn10 : n ≤ 10) (ht : t < 12) : Cc yX6_demanding cX6_demanding 7 (some .int) 1 [.ref 52, .int (nI t)] σ (rI (mdemV σ n t) (mdemM σ n t)) := by
  refine Cc.intro (by decide +kernel) [some (.ref 52), some (.int (nI t)), none, none, none, none, none] (fun _ => rfl) rfl (fun _ => Nat.le_of_ble_eq_true rfl) ?_
  intro X hX hR hr
  have hx2 : inr2 (nI t) 0 11 = true := by rw [inr2_0]; exact inr_nI ht (by decide)
  have a5 : mask2 σ t 52 5 = nI n := by rw [← hn]; exact mu_ni (by decide)
  have a56 : mask2 σ t 56 = σ 56 := (mu_ne (by decide)).symm
  have a57 : mask2 σ t 57 = σ 57 := (mu_ne (by decide)).symm
  have a58 : mask2 σ t 58 = σ 58 := (mu_ne (by decide)).symm
  have b52 : mraise2 σ n t 52 = mask2 σ t 52 := (mu_ne (by decide)).symm
  have b5 : mraise2 σ n t 52 5 = nI n := by rw [b52, a5]
  have b56 : mraise2 σ n t 56 = σ 56 := by rw [← a56]; exact (mu_ne (by decide)).symm
  have b57 : mraise2 σ n t 57 = σ 57 := by rw [← a57]; exact (mu_ne (by decide)).symm
  have b11 : mmB (mraise2 σ n t) t n 52 11 = σ 52 11 := by rw [mmB_c (by decide), b52]; exact mu_ni (by decide)
  have k220 : smf (σ 57) t n = true → owf (σ 52 8) (σ 57) t n = false → ∀ (a b c : Int32), Vw X 220 [some (.ref 52), some (.int (nI t)), some (.int a), some (.int b), some (.int c), some (.int (buyC (mraise2 σ n t 56) (mraise2 σ n t 57) (mraise2 σ n t 58) t n)), some (.int (nI n))] [] (mmB (mraise2 σ n t) t n) := by
    intro h1 h2 a b c
    rw [b56, b57]
    refine V_aload_n (pc := 220) (i := 0) hX dX6_demanding_220 rfl rfl ?_
    refine V_dup (pc := 221) hX dX6_demanding_221 rfl ?_
    refine V_getf (pc := 222) hX fX6_118 dX6_demanding_222 rfl rfl ?_
    refine V_iload (pc := 225) (i := 5) hX dX6_demanding_225 rfl ?_
    refine V_iadd (pc := 227) hX dX6_demanding_227 ?_
    refine V_putf (pc := 228) hX fX6_118 gi6_11 dX6_demanding_228 rfl rfl ?_
    refine V_iload (pc := 231) (i := 5) hX dX6_demanding_231 rfl ?_
    exact V_iret (pc := 233) (st := []) hX hr (by first | rfl | exact bI_nar _ | decide +kernel) dX6_demanding_233 (⟨by rw [mdemV, h1, h2]; rfl, by rw [mdemM, h1, h2, b11]; rfl⟩)
  have k112 : Vw X 112 [some (.ref 52), some (.int (nI t)), some (.int (bI (smf (σ 57) t n))), some (.int (bI (owf (σ 52 8) (σ 57) t n))), some (.int (lgm (σ 56) (σ 57) (σ 58) t n)), some (.int (nI n)), none] [] σ := by
    refine V_iload_n (pc := 112) (i := 2) hX dX6_demanding_112 rfl rfl ?_
    refine V_if_neB (pc := 113) (tgt := 119) hX dX6_demanding_113 (by decide) (fun h113 => ?_) (fun h113 => ?_)
    · refine V_aload_n (pc := 119) (i := 0) hX dX6_demanding_119 rfl rfl ?_
      refine V_dup (pc := 120) hX dX6_demanding_120 rfl ?_
      refine V_getf (pc := 121) hX fX6_100 dX6_demanding_121 rfl rfl ?_
      refine V_iconst (pc := 124) (v := (nI 1)) hX dX6_demanding_124 (by decide +kernel) ?_
      refine V_iload_n (pc := 125) (i := 1) hX dX6_demanding_125 rfl rfl ?_
      refine V_ishl (pc := 126) hX dX6_demanding_126 ?_
      refine V_ior (pc := 127) hX dX6_demanding_127 ?_
      refine V_putf (pc := 128) hX fX6_100 gi6_9 dX6_demanding_128 rfl rfl ?_
      refine Vw.mem (rfl : mask2 σ t = _) ?_
      refine V_iload_n (pc := 131) (i := 3) hX dX6_demanding_131 rfl rfl ?_
      refine V_if_eqB (pc := 132) (tgt := 137) hX dX6_demanding_132 (by decide) (fun h132 => ?_) (fun h132 => ?_)
      · refine V_aload_n (pc := 137) (i := 0) hX dX6_demanding_137 rfl rfl ?_
        refine V_getr (pc := 138) hX fX6_25 dX6_demanding_138 rfl rfl ?_
        refine V_iload_n (pc := 141) (i := 1) hX dX6_demanding_141 rfl rfl ?_
        refine V_dup2 (pc := 142) hX dX6_demanding_142 rfl rfl ?_
        refine V_iald (pc := 143) hX dX6_demanding_143 (rfl) (rfl) (by omega) (by decide) ?_
        refine V_iload (pc := 144) (i := 4) hX dX6_demanding_144 rfl ?_
        refine V_iadd (pc := 146) hX dX6_demanding_146 ?_
        refine V_iast (pc := 147) hX dX6_demanding_147 (rfl) (rfl) (by omega) (by decide) ?_
        refine Vw.mem (σ' := mraise2 σ n t) (by unfold mraise2; rw [a58]) ?_
        refine V_iconst (pc := 148) (v := (nI 0)) hX dX6_demanding_148 (by decide +kernel) ?_
        refine V_istore5 (pc := 149) hX dX6_demanding_149 rfl ?_
        refine V_iconst (pc := 151) (v := (nI 0)) hX dX6_demanding_151 (by decide +kernel) ?_
        refine V_istore6 (pc := 152) hX dX6_demanding_152 rfl ?_
        refine Vw.mem (mmB_0 (mraise2 σ n t) t) ?_
        exact l_mdem2 hX hR hr b5 hn10 ht (k220 h113 h132 _ _ _) 0 (by omega)
      · refine V_iconst (pc := 135) (v := (nI 0)) hX dX6_demanding_135 (by decide +kernel) ?_
        exact V_iret (pc := 136) (st := []) hX hr (by first | rfl | exact bI_nar _ | decide +kernel) dX6_demanding_136 (⟨by rw [mdemV, h113, h132]; rfl, by rw [mdemM, h113, h132]; rfl⟩)
    · refine V_ldc (pc := 116) hX kX6_103 dX6_demanding_116 ?_
      exact V_iret (pc := 118) (st := []) hX hr (by first | rfl | exact bI_nar _ | decide +kernel) dX6_demanding_118 (⟨by rw [mdemV, h113]; rfl, by rw [mdemM, h113]; rfl⟩)
  refine V_iload_n (pc := 0) (i := 1) hX dX6_demanding_0 rfl rfl ?_
  refine V_i2l (pc := 1) hX dX6_demanding_1 ?_
  refine V_lconst (pc := 2) (v := lN 0) hX dX6_demanding_2 (by decide +kernel) ?_
  refine V_ldc2 (pc := 3) hX kX6_105 dX6_demanding_3 ?_
  refine V_callSi (pc := 6) hX (hR.mono (by omega)) mX6_75 (c_inN _ 0 11 (by decide) (by decide) σ) dX6_demanding_6 rfl rfl rfl (Nat.le_of_ble_eq_true rfl) ?_
  refine V_if_neB (pc := 9) (tgt := 15) hX dX6_demanding_9 (by decide) (fun h9 => ?_) (fun h9 => absurd h9 (by rw [hx2]; decide))
  refine V_iconst (pc := 15) (v := (nI 0)) hX dX6_demanding_15 (by decide +kernel) ?_
  refine V_istore2 (pc := 16) hX dX6_demanding_16 rfl ?_
  refine V_iconst (pc := 17) (v := (nI 0)) hX dX6_demanding_17 (by decide +kernel) ?_
  refine V_istore3 (pc := 18) hX dX6_demanding_18 rfl ?_
  refine V_ldc (pc := 19) hX kX6_107 dX6_demanding_19 ?_
  refine V_istore4 (pc := 21) hX dX6_demanding_21 rfl ?_
  refine V_iconst (pc := 23) (v := (nI 0)) hX dX6_demanding_23 (by decide +kernel) ?_
  refine V_istore5 (pc := 24) hX dX6_demanding_24 rfl ?_
  exact l_mdem1 (z6 := none) hX hR hr rfl hn hn10 ht k112 0 (by omega)
end
section
/-- the things and the costs of the sets among the first k that the number s names -/
def allf (th : Nat → Int32) (s : Nat) : Nat → Int32
  | 0 => nI 0
  | k + 1 => if bt (nI s) k then allf th s k ||| th k else allf th s k
def sumf (c : Nat → Int32) (s : Nat) : Nat → Int32
  | 0 => nI 0
  | k + 1 => if bt (nI s) k then sumf c s k + c k else sumf c s k
def bestf (c th : Nat → Int32) (dem : Int32) (n : Nat) : Nat → Int32
  | 0 => (-1000000)
  | s + 1 => if dem &&& (allf th s n ^^^ (-1)) = 0 ∧ (bestf c th dem n s = (-1000000) ∨ sumf c s n < bestf c th dem n s) then sumf c s n else bestf c th dem n s
set_option maxRecDepth 100000 in
set_option maxHeartbeats 4000000 in
theorem l_best2 {n s : Nat} {b : Int32} {X : XC} {P : Option Value → Mem → Prop} {σ : Mem} (hX : Cok X RX6 cX6_bestOfSets 6) (hR : Rok X 0) (hr : Ret X (some .int) P) (hn : σ 52 5 = nI n) (hn10 : n ≤ 10)
    (kk : Vw X 70 [some (.ref 52), some (.int b), some (.int (nI s)), some (.int (allf (σ 57) s n)), some (.int (sumf (σ 56) s n)), some (.int (nI n))] [] σ) (k : Nat) (hk : k ≤ n) :
    Vw X 23 [some (.ref 52), some (.int b), some (.int (nI s)), some (.int (allf (σ 57) s k)), some (.int (sumf (σ 56) s k)), some (.int (nI k))] [] σ := by
  refine V_iload (pc := 23) (i := 5) hX dX6_bestOfSets_23 rfl ?_
  refine V_aload_n (pc := 25) (i := 0) hX dX6_bestOfSets_25 rfl rfl ?_
  refine V_getf (pc := 26) hX fX6_90 dX6_bestOfSets_26 rfl rfl ?_
  rw [hn]
  refine V_icmp_geN (pc := 29) (tgt := 70) hX dX6_bestOfSets_29 (by decide) (by omega) (by omega) (fun h29 => ?_) (fun h29 => ?_)
  · obtain rfl : k = n := by omega
    exact kk
  · refine V_iload_n (pc := 32) (i := 2) hX dX6_bestOfSets_32 rfl rfl ?_
    refine V_iload (pc := 33) (i := 5) hX dX6_bestOfSets_33 rfl ?_
    refine V_ishr (pc := 35) hX dX6_bestOfSets_35 ?_
    refine V_iconst (pc := 36) (v := (nI 1)) hX dX6_bestOfSets_36 (by decide +kernel) ?_
    refine V_iand (pc := 37) hX dX6_bestOfSets_37 ?_
    refine V_iconst (pc := 38) (v := (nI 1)) hX dX6_bestOfSets_38 (by decide +kernel) ?_
    refine V_icmp_neS (pc := 39) (tgt := 64) hX dX6_bestOfSets_39 (by decide) (by omega) (fun h39 => ?_) (fun h39 => ?_)
    · refine V_iinc5 (pc := 64) hX dX6_bestOfSets_64 rfl (iinc1 _) ?_
      refine V_goto (pc := 67) (tgt := 23) hX dX6_bestOfSets_67 (by decide) ?_
      have ih := l_best2 hX hR hr hn hn10 kk (k + 1) (by omega)
      simp only [allf, sumf, h39, ↓reduceIte, Bool.false_eq_true] at ih
      exact ih
    · refine V_iload_n (pc := 42) (i := 3) hX dX6_bestOfSets_42 rfl rfl ?_
      refine V_aload_n (pc := 43) (i := 0) hX dX6_bestOfSets_43 rfl rfl ?_
      refine V_getr (pc := 44) hX fX6_22 dX6_bestOfSets_44 rfl rfl ?_
      refine V_iload (pc := 47) (i := 5) hX dX6_bestOfSets_47 rfl ?_
      refine V_iald (pc := 49) hX dX6_bestOfSets_49 (rfl) (rfl) (by omega) (by decide) ?_
      refine V_ior (pc := 50) hX dX6_bestOfSets_50 ?_
      refine V_istore3 (pc := 51) hX dX6_bestOfSets_51 rfl ?_
      refine V_iload (pc := 52) (i := 4) hX dX6_bestOfSets_52 rfl ?_
      refine V_aload_n (pc := 54) (i := 0) hX dX6_bestOfSets_54 rfl rfl ?_
      refine V_getr (pc := 55) hX fX6_19 dX6_bestOfSets_55 rfl rfl ?_
      refine V_iload (pc := 58) (i := 5) hX dX6_bestOfSets_58 rfl ?_
      refine V_iald (pc := 60) hX dX6_bestOfSets_60 (rfl) (rfl) (by omega) (by decide) ?_
      refine V_iadd (pc := 61) hX dX6_bestOfSets_61 ?_
      refine V_istore4 (pc := 62) hX dX6_bestOfSets_62 rfl ?_
      refine V_iinc5 (pc := 64) hX dX6_bestOfSets_64 rfl (iinc1 _) ?_
      refine V_goto (pc := 67) (tgt := 23) hX dX6_bestOfSets_67 (by decide) ?_
      have ih := l_best2 hX hR hr hn hn10 kk (k + 1) (by omega)
      simp only [allf, sumf, h39, ↓reduceIte, Bool.false_eq_true] at ih
      exact ih
termination_by n - k
set_option maxRecDepth 100000 in
set_option maxHeartbeats 4000000 in
theorem l_best1 {n : Nat} {X : XC} {P : Option Value → Mem → Prop} {σ : Mem} (hX : Cok X RX6 cX6_bestOfSets 6) (hR : Rok X 0) (hr : Ret X (some .int) P) (hn : σ 52 5 = nI n) (hn10 : n ≤ 10) (hp : P (some (.int (bestf (σ 56) (σ 57) (σ 52 9) n (2 ^ n)))) σ) (s : Nat) (hs : s ≤ 2 ^ n) (z3 z4 z5 : Option Value) (hz : nol [z3, z4, z5] = true) :
    Vw X 5 [some (.ref 52), some (.int (bestf (σ 56) (σ 57) (σ 52 9) n s)), some (.int (nI s)), z3, z4, z5] [] σ := by
  have h1024 : 2 ^ n ≤ 1024 := Nat.pow_le_pow_right (n := 2) (by decide) hn10
  have hz3 : ∀ a : Int32, nol [some (Value.ref 52), some (.int a), some (.int (nI s)), z3, z4, z5] = true := fun _ => hz
  have hz4 : ∀ a b : Int32, nol [some (Value.ref 52), some (.int a), some (.int (nI s)), some (.int b), z4, z5] = true := fun _ _ => by
    cases z3 with
    | none => exact hz
    | some v => cases v <;> first | exact hz | (simp [nol] at hz)
  have hz5 : ∀ a b d : Int32, nol [some (Value.ref 52), some (.int a), some (.int (nI s)), some (.int b), some (.int d), z5] = true := fun _ _ _ => by
    have h2 : nol [z4, z5] = true := by
      cases z3 with
      | none => exact hz
      | some v => cases v <;> first | exact hz | (simp [nol] at hz)
    cases z4 with
    | none => exact h2
    | some v => cases v <;> first | exact h2 | (simp [nol] at h2)
  have k70 : s < 2 ^ n → Vw X 70 [some (.ref 52), some (.int (bestf (σ 56) (σ 57) (σ 52 9) n s)), some (.int (nI s)), some (.int (allf (σ 57) s n)), some (.int (sumf (σ 56) s n)), some (.int (nI n))] [] σ := by
    intro hlt
    refine V_aload_n (pc := 70) (i := 0) hX dX6_bestOfSets_70 rfl rfl ?_
    refine V_getf (pc := 71) hX fX6_100 dX6_bestOfSets_71 rfl rfl ?_
    refine V_iload_n (pc := 74) (i := 3) hX dX6_bestOfSets_74 rfl rfl ?_
    refine V_iconst (pc := 75) (v := (-1)) hX dX6_bestOfSets_75 (by decide +kernel) ?_
    refine V_ixor (pc := 76) hX dX6_bestOfSets_76 ?_
    refine V_iand (pc := 77) hX dX6_bestOfSets_77 ?_
    refine V_if_ne (pc := 78) (tgt := 98) hX dX6_bestOfSets_78 (by decide) (fun h78 => ?_) (fun h78 => ?_)
    · refine V_iload_n (pc := 98) (i := 1) hX dX6_bestOfSets_98 rfl rfl ?_
      refine V_istore1 (pc := 99) hX dX6_bestOfSets_99 rfl ?_
      refine V_iinc2 (pc := 100) hX dX6_bestOfSets_100 rfl (iinc1 _) ?_
      refine V_goto (pc := 103) (tgt := 5) hX dX6_bestOfSets_103 (by decide) ?_
      have ih := l_best1 hX hR hr hn hn10 hp (s + 1) (by omega) (some (.int (allf (σ 57) s n))) (some (.int (sumf (σ 56) s n))) (some (.int (nI n))) rfl
      rw [bestf, if_neg (fun q => h78 q.1)] at ih
      exact ih
    · refine V_iload_n (pc := 81) (i := 1) hX dX6_bestOfSets_81 rfl rfl ?_
      refine V_ldc (pc := 82) hX kX6_126 dX6_bestOfSets_82 ?_
      refine V_icmp_eq (pc := 84) (tgt := 93) hX dX6_bestOfSets_84 (by decide) (fun h84 => ?_) (fun h84 => ?_)
      · refine V_iload (pc := 93) (i := 4) hX dX6_bestOfSets_93 rfl ?_
        refine V_goto (pc := 95) (tgt := 99) hX dX6_bestOfSets_95 (by decide) ?_
        refine V_istore1 (pc := 99) hX dX6_bestOfSets_99 rfl ?_
        refine V_iinc2 (pc := 100) hX dX6_bestOfSets_100 rfl (iinc1 _) ?_
        refine V_goto (pc := 103) (tgt := 5) hX dX6_bestOfSets_103 (by decide) ?_
        have ih := l_best1 hX hR hr hn hn10 hp (s + 1) (by omega) (some (.int (allf (σ 57) s n))) (some (.int (sumf (σ 56) s n))) (some (.int (nI n))) rfl
        rw [bestf, if_pos ⟨h78, Or.inl h84⟩] at ih
        exact ih
      · refine V_iload (pc := 87) (i := 4) hX dX6_bestOfSets_87 rfl ?_
        refine V_iload_n (pc := 89) (i := 1) hX dX6_bestOfSets_89 rfl rfl ?_
        refine V_icmp_ge (pc := 90) (tgt := 98) hX dX6_bestOfSets_90 (by decide) (fun h90 => ?_) (fun h90 => ?_)
        · refine V_iload_n (pc := 98) (i := 1) hX dX6_bestOfSets_98 rfl rfl ?_
          refine V_istore1 (pc := 99) hX dX6_bestOfSets_99 rfl ?_
          refine V_iinc2 (pc := 100) hX dX6_bestOfSets_100 rfl (iinc1 _) ?_
          refine V_goto (pc := 103) (tgt := 5) hX dX6_bestOfSets_103 (by decide) ?_
          have ih := l_best1 hX hR hr hn hn10 hp (s + 1) (by omega) (some (.int (allf (σ 57) s n))) (some (.int (sumf (σ 56) s n))) (some (.int (nI n))) rfl
          rw [bestf, if_neg (fun q => q.2.elim h84 (fun q => Int32.not_le.mpr q h90))] at ih
          exact ih
        · refine V_iload (pc := 93) (i := 4) hX dX6_bestOfSets_93 rfl ?_
          refine V_goto (pc := 95) (tgt := 99) hX dX6_bestOfSets_95 (by decide) ?_
          refine V_istore1 (pc := 99) hX dX6_bestOfSets_99 rfl ?_
          refine V_iinc2 (pc := 100) hX dX6_bestOfSets_100 rfl (iinc1 _) ?_
          refine V_goto (pc := 103) (tgt := 5) hX dX6_bestOfSets_103 (by decide) ?_
          have ih := l_best1 hX hR hr hn hn10 hp (s + 1) (by omega) (some (.int (allf (σ 57) s n))) (some (.int (sumf (σ 56) s n))) (some (.int (nI n))) rfl
          rw [bestf, if_pos ⟨h78, Or.inr (Int32.not_le.mp h90)⟩] at ih
          exact ih
  refine V_iload_n (pc := 5) (i := 2) hX dX6_bestOfSets_5 rfl rfl ?_
  refine V_iconst (pc := 6) (v := (nI 1)) hX dX6_bestOfSets_6 (by decide +kernel) ?_
  refine V_aload_n (pc := 7) (i := 0) hX dX6_bestOfSets_7 rfl rfl ?_
  refine V_getf (pc := 8) hX fX6_90 dX6_bestOfSets_8 rfl rfl ?_
  refine V_ishl (pc := 11) hX dX6_bestOfSets_11 ?_
  rw [hn, shl1 (by omega)]
  refine V_icmp_geN (pc := 12) (tgt := 106) hX dX6_bestOfSets_12 (by decide) (by omega) (by omega) (fun h12 => ?_) (fun h12 => ?_)
  · obtain rfl : s = 2 ^ n := by omega
    refine V_iload_n (pc := 106) (i := 1) hX dX6_bestOfSets_106 rfl rfl ?_
    exact V_iret (pc := 107) (st := []) hX hr (by first | rfl | exact bI_nar _ | decide +kernel) dX6_bestOfSets_107 (hp)
  · refine V_iconst (pc := 15) (v := (nI 0)) hX dX6_bestOfSets_15 (by decide +kernel) ?_
    refine V_istore3 (pc := 16) hX dX6_bestOfSets_16 (hz3 _) ?_
    refine V_iconst (pc := 17) (v := (nI 0)) hX dX6_bestOfSets_17 (by decide +kernel) ?_
    refine V_istore4 (pc := 18) hX dX6_bestOfSets_18 (hz4 _ _) ?_
    refine V_iconst (pc := 20) (v := (nI 0)) hX dX6_bestOfSets_20 (by decide +kernel) ?_
    refine V_istore5 (pc := 21) hX dX6_bestOfSets_21 (hz5 _ _ _) ?_
    exact l_best2 hX hR hr hn hn10 (k70 h12) 0 (by omega)
termination_by 2 ^ n - s
set_option maxRecDepth 100000 in
set_option maxHeartbeats 4000000 in
theorem c_mbest (n : Nat) (σ : Mem) (hn : σ 52 5 = nI n) (hn10 : n ≤ 10) : Cc yX6_bestOfSets cX6_bestOfSets 6 (some .int) 0 [.ref 52] σ (rI (bestf (σ 56) (σ 57) (σ 52 9) n (2 ^ n)) σ) := by
  refine Cc.intro (by decide +kernel) [some (.ref 52), none, none, none, none, none] (fun _ => rfl) rfl (fun _ => Nat.le_of_ble_eq_true rfl) ?_
  intro X hX hR hr
  refine V_ldc (pc := 0) hX kX6_126 dX6_bestOfSets_0 ?_
  refine V_istore1 (pc := 2) hX dX6_bestOfSets_2 rfl ?_
  refine V_iconst (pc := 3) (v := (nI 0)) hX dX6_bestOfSets_3 (by decide +kernel) ?_
  refine V_istore2 (pc := 4) hX dX6_bestOfSets_4 rfl ?_
  exact l_best1 hX hR hr hn hn10 ⟨rfl, rfl⟩ 0 (Nat.zero_le _) none none none rfl
/-- how many of the first k bits are set -/
def popn (x : Int32) : Nat → Nat
  | 0 => 0
  | k + 1 => if bt x k then popn x k + 1 else popn x k
theorem popn_le (x : Int32) : ∀ k, popn x k ≤ k
  | 0 => Nat.le_refl _
  | k + 1 => by
    have := popn_le x k
    unfold popn
    split <;> omega
theorem popn_s (x : Int32) (k : Nat) : nI (popn x k) + bI (bt x k) = nI (popn x (k + 1)) := by
  have e : popn x (k + 1) = if bt x k then popn x k + 1 else popn x k := rfl
  rw [e]
  cases h : bt x k
  · exact add0 _
  · exact nI_1 _
set_option maxRecDepth 100000 in
set_option maxHeartbeats 4000000 in
theorem l_msize {x : Int32} {X : XC} {P : Option Value → Mem → Prop} {σ : Mem} (hX : Cok X RX6 cX6_size 3) (hR : Rok X 0) (hr : Ret X (some .int) P) (hp : P (some (.int (nI (popn x 12)))) σ) (k : Nat) (hk : k ≤ 12) : Vw X 4 [some (.int x), some (.int (nI (popn x k))), some (.int (nI k))] [] σ := by
  refine V_iload_n (pc := 4) (i := 2) hX dX6_size_4 rfl rfl ?_
  refine V_bipush (pc := 5) (v := (nI 12)) hX dX6_size_5 (by decide +kernel) ?_
  refine V_icmp_geN (pc := 7) (tgt := 24) hX dX6_size_7 (by decide) (by omega) (by omega) (fun h7 => ?_) (fun h7 => ?_)
  · obtain rfl : k = 12 := by omega
    refine V_iload_n (pc := 24) (i := 1) hX dX6_size_24 rfl rfl ?_
    exact V_iret (pc := 25) (st := []) hX hr (by first | rfl | exact bI_nar _ | decide +kernel) dX6_size_25 (hp)
  · refine V_iload_n (pc := 10) (i := 1) hX dX6_size_10 rfl rfl ?_
    refine V_iload_n (pc := 11) (i := 0) hX dX6_size_11 rfl rfl ?_
    refine V_iload_n (pc := 12) (i := 2) hX dX6_size_12 rfl rfl ?_
    refine V_ishr (pc := 13) hX dX6_size_13 ?_
    refine V_iconst (pc := 14) (v := (nI 1)) hX dX6_size_14 (by decide +kernel) ?_
    refine V_iand (pc := 15) hX dX6_size_15 ?_
    rw [sbit (by omega)]
    refine V_iadd (pc := 16) hX dX6_size_16 ?_
    rw [popn_s]
    refine V_istore1 (pc := 17) hX dX6_size_17 rfl ?_
    refine V_iinc2 (pc := 18) hX dX6_size_18 rfl (iinc1 _) ?_
    refine V_goto (pc := 21) (tgt := 4) hX dX6_size_21 (by decide) ?_
    exact l_msize hX hR hr hp (k + 1) (by omega)
termination_by 12 - k
set_option maxRecDepth 100000 in
set_option maxHeartbeats 4000000 in
theorem c_msize (x : Int32) (σ : Mem) : Cc yX6_size cX6_size 3 (some .int) 0 [.int x] σ (rI (nI (popn x 12)) σ) := by
  refine Cc.intro (by decide +kernel) [some (.int x), none, none] (fun _ => rfl) rfl (fun _ => Nat.le_of_ble_eq_true rfl) ?_
  intro X hX hR hr
  refine V_iconst (pc := 0) (v := (nI 0)) hX dX6_size_0 (by decide +kernel) ?_
  refine V_istore1 (pc := 1) hX dX6_size_1 rfl ?_
  refine V_iconst (pc := 2) (v := (nI 0)) hX dX6_size_2 (by decide +kernel) ?_
  refine V_istore2 (pc := 3) hX dX6_size_3 rfl ?_
  exact l_msize hX hR hr ⟨rfl, rfl⟩ 0 (by omega)
set_option maxRecDepth 100000 in
set_option maxHeartbeats 4000000 in
theorem c_mkindOf (s : Nat) (σ : Mem) (hs : s < 10) : Cc yX6_kindOf cX6_kindOf 2 (some .int) 1 [.ref 52, .int (nI s)] σ (rI (kindf (σ 52 8) s (pf (σ 57 s) (σ 58) 12) (σ 56 s)) σ) := by
  refine Cc.intro (by decide +kernel) [some (.ref 52), some (.int (nI s))] (fun _ => rfl) rfl (fun _ => Nat.le_of_ble_eq_true rfl) ?_
  intro X hX hR hr
  refine V_aload_n (pc := 0) (i := 0) hX dX6_kindOf_0 rfl rfl ?_
  refine V_iload_n (pc := 1) (i := 1) hX dX6_kindOf_1 rfl rfl ?_
  refine V_callVi (pc := 2) hX (hR.mono (by omega)) mX6_112 (c_misOwn _ _ hs) dX6_kindOf_2 rfl rfl rfl rfl (Nat.le_of_ble_eq_true rfl) ?_
  refine V_if_eqB (pc := 5) (tgt := 12) hX dX6_kindOf_5 (by decide) (fun h5 => ?_) (fun h5 => ?_)
  · refine V_iconst (pc := 12) (v := (nI 2)) hX dX6_kindOf_12 (by decide +kernel) ?_
    refine V_aload_n (pc := 13) (i := 0) hX dX6_kindOf_13 rfl rfl ?_
    refine V_iload_n (pc := 14) (i := 1) hX dX6_kindOf_14 rfl rfl ?_
    refine V_callVi (pc := 15) hX (hR.mono (by omega)) mX6_115 (c_mfilled _ _ hs) dX6_kindOf_15 rfl rfl rfl rfl (Nat.le_of_ble_eq_true rfl) ?_
    refine V_imul (pc := 18) hX dX6_kindOf_18 ?_
    refine V_aload_n (pc := 19) (i := 0) hX dX6_kindOf_19 rfl rfl ?_
    refine V_getr (pc := 20) hX fX6_19 dX6_kindOf_20 rfl rfl ?_
    refine V_iload_n (pc := 23) (i := 1) hX dX6_kindOf_23 rfl rfl ?_
    refine V_iald (pc := 24) hX dX6_kindOf_24 (rfl) (rfl) (by omega) (by decide) ?_
    refine V_icmp_lt (pc := 25) (tgt := 32) hX dX6_kindOf_25 (by decide) (fun h25 => ?_) (fun h25 => ?_)
    · refine V_iconst (pc := 32) (v := (nI 1)) hX dX6_kindOf_32 (by decide +kernel) ?_
      exact V_iret (pc := 33) (st := []) hX hr (by first | rfl | exact bI_nar _ | decide +kernel) dX6_kindOf_33 (⟨by simp only [kindf, h5, h25, Bool.false_eq_true, ↓reduceIte], rfl⟩)
    · refine V_iconst (pc := 28) (v := (nI 2)) hX dX6_kindOf_28 (by decide +kernel) ?_
      refine V_goto (pc := 29) (tgt := 33) hX dX6_kindOf_29 (by decide) ?_
      exact V_iret (pc := 33) (st := []) hX hr (by first | rfl | exact bI_nar _ | decide +kernel) dX6_kindOf_33 (⟨by simp only [kindf, h5, h25, Bool.false_eq_true, ↓reduceIte], rfl⟩)
  · refine V_iconst (pc := 8) (v := (nI 3)) hX dX6_kindOf_8 (by decide +kernel) ?_
    refine V_goto (pc := 9) (tgt := 33) hX dX6_kindOf_9 (by decide) ?_
    exact V_iret (pc := 33) (st := []) hX hr (by first | rfl | exact bI_nar _ | decide +kernel) dX6_kindOf_33 (⟨by simp only [kindf, h5, ↓reduceIte], rfl⟩)
end
section
/-! ===== public methods of SETS, the class's ===== -/
def tn (x : Int32) : Nat := x.toInt.toNat
theorem tn_nI {j : Nat} (h : j < 2 ^ 31) : tn (nI j) = j := by unfold tn; rw [nI_toInt h]; rfl
theorem tsw_out {x : Int32} (n : Nat) (h : ∀ j : Nat, j ≤ n → ¬ x = nI j) (hn : n < 2 ^ 31 := by decide) : x.toInt < 0 ∨ (n : Int) < x.toInt := by
  by_cases h1 : x.toInt < 0
  · exact Or.inl h1
  · by_cases h2 : (n : Int) < x.toInt
    · exact Or.inr h2
    · exact absurd (nI_of_toInt (j := x.toInt.toNat) (by omega) (by omega)) (h x.toInt.toNat (by omega))
def priceF (pr : Nat → Int32) (x : Int32) : Int32 := if inr x 12 then pr (tn x) else (-1000001)
def toldF (n : Nat) (c th pr : Nat → Int32) (bo x w : Int32) : Int32 := if inr x n then (if w = nI 0 then c (tn x) else if w = nI 1 then th (tn x) else if w = nI 2 then pf (th (tn x)) pr 12 else if w = nI 3 then bI (bt bo (tn x)) else (-1000001)) else (-1000001)
def kindF (n : Nat) (c th pr : Nat → Int32) (bo x : Int32) : Int32 := if inr x n then kindf bo (tn x) (pf (th (tn x)) pr 12) (c (tn x)) else (-1000001)
set_option maxRecDepth 100000 in
set_option maxHeartbeats 4000000 in
theorem c_price (x : Int32) (σ : Mem) : Cc yX5_price cX5_price 2 (some .int) 1 [.ref 0, .int x] σ (rI (priceF (σ 19) x) σ) := by
  refine Cc.intro (by decide +kernel) [some (.ref 0), some (.int x)] (fun _ => rfl) rfl (fun _ => Nat.le_of_ble_eq_true rfl) ?_
  intro X hX hR hr
  refine V_iload_n (pc := 0) (i := 1) hX dX5_price_0 rfl rfl ?_
  refine V_bipush (pc := 1) (v := (nI 12)) hX dX5_price_1 (by decide +kernel) ?_
  refine V_callSi (pc := 3) hX (hR.mono (by omega)) mX5_48 (c_isUnderN x 12 (by decide) _) dX5_price_3 rfl rfl rfl (Nat.le_of_ble_eq_true rfl) ?_
  refine V_if_eqB (pc := 6) (tgt := 21) hX dX5_price_6 (by decide) (fun h6 => ?_) (fun h6 => ?_)
  · refine V_ldc (pc := 21) hX kX5_52 dX5_price_21 ?_
    exact V_iret (pc := 23) (st := []) hX hr (by first | rfl | exact bI_nar _ | decide +kernel) dX5_price_23 (⟨by rw [priceF, h6]; rfl, rfl⟩)
  · obtain ⟨j, hj, rfl⟩ := inr_of h6 (by decide)
    refine V_aload_n (pc := 9) (i := 0) hX dX5_price_9 rfl rfl ?_
    refine V_getr (pc := 10) hX fX5_19 dX5_price_10 rfl rfl ?_
    refine V_getr (pc := 13) hX fX5_139 dX5_price_13 rfl rfl ?_
    refine V_iload_n (pc := 16) (i := 1) hX dX5_price_16 rfl rfl ?_
    refine V_iald (pc := 17) hX dX5_price_17 (rfl) (rfl) (by omega) (by decide) ?_
    refine V_goto (pc := 18) (tgt := 23) hX dX5_price_18 (by decide) ?_
    exact V_iret (pc := 23) (st := []) hX hr (by first | rfl | exact bI_nar _ | decide +kernel) dX5_price_23 (⟨by rw [priceF, h6, if_pos rfl, tn_nI (by omega)], rfl⟩)
theorem c_isSetN (x : Int32) (n : Nat) (σ : Mem) (hn : σ 2 3 = nI n) (hn10 : n ≤ 10) : Cc yX2_isSet cX2_isSet 2 (some .boolean) 1 [.ref 2, .int x] σ (rI (bI (inr x n)) σ) := by
  have h := c_isSet x σ
  rwa [inr_lt hn (by omega)] at h
set_option maxRecDepth 100000 in
set_option maxHeartbeats 4000000 in
theorem c_told (n : Nat) (x w : Int32) (σ : Mem) (hn : σ 2 3 = nI n) (hn10 : n ≤ 10) : Cc yX5_told cX5_told 3 (some .int) 4 [.ref 0, .int x, .int w] σ (rI (toldF n (σ 17) (σ 18) (σ 19) (σ 2 6) x w) σ) := by
  refine Cc.intro (by decide +kernel) [some (.ref 0), some (.int x), some (.int w)] (fun _ => rfl) rfl (fun _ => Nat.le_of_ble_eq_true rfl) ?_
  intro X hX hR hr
  refine V_aload_n (pc := 0) (i := 0) hX dX5_told_0 rfl rfl ?_
  refine V_getr (pc := 1) hX fX5_19 dX5_told_1 rfl rfl ?_
  refine V_iload_n (pc := 4) (i := 1) hX dX5_told_4 rfl rfl ?_
  refine V_callVi (pc := 5) hX (hR.mono (by omega)) mX5_123 (c_isSetN x n _ hn hn10) dX5_told_5 rfl rfl rfl rfl (Nat.le_of_ble_eq_true rfl) ?_
  refine V_if_neB (pc := 8) (tgt := 14) hX dX5_told_8 (by decide) (fun h8 => ?_) (fun h8 => ?_)
  · obtain ⟨j, hj, rfl⟩ := inr_of h8 (by omega)
    refine V_iload_n (pc := 14) (i := 2) hX dX5_told_14 rfl rfl ?_
    rcases Classical.em (w = nI 0) with e15_0 | e15_0
    · refine V_tableIn (pc := 15) (off := 29) (tgt := 44) hX dX5_told_15 (by rw [e15_0]; decide +kernel) (by rw [e15_0]; decide +kernel) (by rw [e15_0]; decide +kernel) (by decide) ?_
      refine V_aload_n (pc := 44) (i := 0) hX dX5_told_44 rfl rfl ?_
      refine V_getr (pc := 45) hX fX5_19 dX5_told_45 rfl rfl ?_
      refine V_getr (pc := 48) hX fX5_126 dX5_told_48 rfl rfl ?_
      refine V_iload_n (pc := 51) (i := 1) hX dX5_told_51 rfl rfl ?_
      refine V_iald (pc := 52) hX dX5_told_52 (rfl) (rfl) (by omega) (by decide) ?_
      exact V_iret (pc := 53) (st := []) hX hr (by first | rfl | exact bI_nar _ | decide +kernel) dX5_told_53 (⟨by rw [toldF, h8, if_pos rfl, tn_nI (by omega), if_pos e15_0], rfl⟩)
    · skip
      rcases Classical.em (w = nI 1) with e15_1 | e15_1
      · refine V_tableIn (pc := 15) (off := 39) (tgt := 54) hX dX5_told_15 (by rw [e15_1]; decide +kernel) (by rw [e15_1]; decide +kernel) (by rw [e15_1]; decide +kernel) (by decide) ?_
        refine V_aload_n (pc := 54) (i := 0) hX dX5_told_54 rfl rfl ?_
        refine V_getr (pc := 55) hX fX5_19 dX5_told_55 rfl rfl ?_
        refine V_getr (pc := 58) hX fX5_130 dX5_told_58 rfl rfl ?_
        refine V_iload_n (pc := 61) (i := 1) hX dX5_told_61 rfl rfl ?_
        refine V_iald (pc := 62) hX dX5_told_62 (rfl) (rfl) (by omega) (by decide) ?_
        exact V_iret (pc := 63) (st := []) hX hr (by first | rfl | exact bI_nar _ | decide +kernel) dX5_told_63 (⟨by rw [toldF, h8, if_pos rfl, tn_nI (by omega), if_neg e15_0, if_pos e15_1], rfl⟩)
      · skip
        rcases Classical.em (w = nI 2) with e15_2 | e15_2
        · refine V_tableIn (pc := 15) (off := 49) (tgt := 64) hX dX5_told_15 (by rw [e15_2]; decide +kernel) (by rw [e15_2]; decide +kernel) (by rw [e15_2]; decide +kernel) (by decide) ?_
          refine V_aload_n (pc := 64) (i := 0) hX dX5_told_64 rfl rfl ?_
          refine V_getr (pc := 65) hX fX5_19 dX5_told_65 rfl rfl ?_
          refine V_iload_n (pc := 68) (i := 1) hX dX5_told_68 rfl rfl ?_
          refine V_callVi (pc := 69) hX (hR.mono (by omega)) mX5_133 (c_filled _ (by omega) _) dX5_told_69 rfl rfl rfl rfl (Nat.le_of_ble_eq_true rfl) ?_
          exact V_iret (pc := 72) (st := []) hX hr (by first | rfl | exact bI_nar _ | decide +kernel) dX5_told_72 (⟨by rw [toldF, h8, if_pos rfl, tn_nI (by omega), if_neg e15_0, if_neg e15_1, if_pos e15_2], rfl⟩)
        · skip
          rcases Classical.em (w = nI 3) with e15_3 | e15_3
          · refine V_tableIn (pc := 15) (off := 58) (tgt := 73) hX dX5_told_15 (by rw [e15_3]; decide +kernel) (by rw [e15_3]; decide +kernel) (by rw [e15_3]; decide +kernel) (by decide) ?_
            refine V_aload_n (pc := 73) (i := 0) hX dX5_told_73 rfl rfl ?_
            refine V_getr (pc := 74) hX fX5_19 dX5_told_74 rfl rfl ?_
            refine V_iload_n (pc := 77) (i := 1) hX dX5_told_77 rfl rfl ?_
            refine V_callVi (pc := 78) hX (hR.mono (by omega)) mX5_136 (c_isBought _ (by omega) _) dX5_told_78 rfl rfl rfl rfl (Nat.le_of_ble_eq_true rfl) ?_
            refine V_if_eqB (pc := 81) (tgt := 88) hX dX5_told_81 (by decide) (fun h81 => ?_) (fun h81 => ?_)
            · refine V_iconst (pc := 88) (v := (nI 0)) hX dX5_told_88 (by decide +kernel) ?_
              exact V_iret (pc := 89) (st := []) hX hr (by first | rfl | exact bI_nar _ | decide +kernel) dX5_told_89 (⟨by rw [toldF, h8, if_pos rfl, tn_nI (by omega), if_neg e15_0, if_neg e15_1, if_neg e15_2, if_pos e15_3, h81]; rfl, rfl⟩)
            · refine V_iconst (pc := 84) (v := (nI 1)) hX dX5_told_84 (by decide +kernel) ?_
              refine V_goto (pc := 85) (tgt := 89) hX dX5_told_85 (by decide) ?_
              exact V_iret (pc := 89) (st := []) hX hr (by first | rfl | exact bI_nar _ | decide +kernel) dX5_told_89 (⟨by rw [toldF, h8, if_pos rfl, tn_nI (by omega), if_neg e15_0, if_neg e15_1, if_neg e15_2, if_pos e15_3, h81]; rfl, rfl⟩)
          · skip
            refine V_tableOut (pc := 15) (tgt := 90) hX dX5_told_15 (tsw_out 3 (by
                intro j hj
                rcases (show j = 0 ∨ j = 1 ∨ j = 2 ∨ j = 3 by omega) with rfl | rfl | rfl | rfl
                · exact e15_0
                · exact e15_1
                · exact e15_2
                · exact e15_3)) (by decide) ?_
            refine V_ldc (pc := 90) hX kX5_52 dX5_told_90 ?_
            exact V_iret (pc := 92) (st := []) hX hr (by first | rfl | exact bI_nar _ | decide +kernel) dX5_told_92 (⟨by rw [toldF, h8, if_pos rfl, tn_nI (by omega), if_neg e15_0, if_neg e15_1, if_neg e15_2, if_neg e15_3], rfl⟩)
  · refine V_ldc (pc := 11) hX kX5_52 dX5_told_11 ?_
    exact V_iret (pc := 13) (st := []) hX hr (by first | rfl | exact bI_nar _ | decide +kernel) dX5_told_13 (⟨by rw [toldF, h8]; rfl, rfl⟩)
set_option maxRecDepth 100000 in
set_option maxHeartbeats 4000000 in
theorem c_kind (n : Nat) (x : Int32) (σ : Mem) (hn : σ 2 3 = nI n) (hn10 : n ≤ 10) : Cc yX5_kind cX5_kind 2 (some .int) 5 [.ref 0, .int x] σ (rI (kindF n (σ 17) (σ 18) (σ 19) (σ 2 6) x) σ) := by
  refine Cc.intro (by decide +kernel) [some (.ref 0), some (.int x)] (fun _ => rfl) rfl (fun _ => Nat.le_of_ble_eq_true rfl) ?_
  intro X hX hR hr
  refine V_aload_n (pc := 0) (i := 0) hX dX5_kind_0 rfl rfl ?_
  refine V_getr (pc := 1) hX fX5_19 dX5_kind_1 rfl rfl ?_
  refine V_iload_n (pc := 4) (i := 1) hX dX5_kind_4 rfl rfl ?_
  refine V_callVi (pc := 5) hX (hR.mono (by omega)) mX5_123 (c_isSetN x n _ hn hn10) dX5_kind_5 rfl rfl rfl rfl (Nat.le_of_ble_eq_true rfl) ?_
  refine V_if_eqB (pc := 8) (tgt := 22) hX dX5_kind_8 (by decide) (fun h8 => ?_) (fun h8 => ?_)
  · refine V_ldc (pc := 22) hX kX5_52 dX5_kind_22 ?_
    exact V_iret (pc := 24) (st := []) hX hr (by first | rfl | exact bI_nar _ | decide +kernel) dX5_kind_24 (⟨by rw [kindF, h8]; rfl, rfl⟩)
  · obtain ⟨j, hj, rfl⟩ := inr_of h8 (by omega)
    refine V_aload_n (pc := 11) (i := 0) hX dX5_kind_11 rfl rfl ?_
    refine V_getr (pc := 12) hX fX5_19 dX5_kind_12 rfl rfl ?_
    refine V_iload_n (pc := 15) (i := 1) hX dX5_kind_15 rfl rfl ?_
    refine V_callVi (pc := 16) hX (hR.mono (by omega)) mX5_192 (c_kindOf _ _ (by omega)) dX5_kind_16 rfl rfl rfl rfl (Nat.le_of_ble_eq_true rfl) ?_
    refine V_goto (pc := 19) (tgt := 24) hX dX5_kind_19 (by decide) ?_
    exact V_iret (pc := 24) (st := []) hX hr (by first | rfl | exact bI_nar _ | decide +kernel) dX5_kind_24 (⟨by rw [kindF, h8, if_pos rfl, tn_nI (by omega)], rfl⟩)
def coversF (n : Nat) (c th pr : Nat → Int32) (paid dem bo w : Int32) : Int32 := if w = nI 0 then paid else if w = nI 1 then pf (nI 4095) pr 12 else if w = nI 2 then lff c th n n dem else if w = nI 3 then sharf dem th n 12 else if w = nI 4 then dem else if w = nI 5 then bo else (-1000001)
set_option maxRecDepth 100000 in
set_option maxHeartbeats 4000000 in
theorem c_covers (n : Nat) (w : Int32) (σ : Mem) (hn : σ 2 3 = nI n) (hn10 : n ≤ 10) : Cc yX5_covers cX5_covers 2 (some .int) 13 [.ref 0, .int w] σ (rI (coversF n (σ 17) (σ 18) (σ 19) (σ 2 8) (σ 2 5) (σ 2 6) w) σ) := by
  refine Cc.intro (by decide +kernel) [some (.ref 0), some (.int w)] (fun _ => rfl) rfl (fun _ => Nat.le_of_ble_eq_true rfl) ?_
  intro X hX hR hr
  refine V_iload_n (pc := 0) (i := 1) hX dX5_covers_0 rfl rfl ?_
  rcases Classical.em (w = nI 0) with e1_0 | e1_0
  · refine V_tableIn (pc := 1) (off := 39) (tgt := 40) hX dX5_covers_1 (by rw [e1_0]; decide +kernel) (by rw [e1_0]; decide +kernel) (by rw [e1_0]; decide +kernel) (by decide) ?_
    refine V_aload_n (pc := 40) (i := 0) hX dX5_covers_40 rfl rfl ?_
    refine V_getr (pc := 41) hX fX5_19 dX5_covers_41 rfl rfl ?_
    refine V_getf (pc := 44) hX fX5_107 dX5_covers_44 rfl rfl ?_
    exact V_iret (pc := 47) (st := []) hX hr (by first | rfl | exact bI_nar _ | decide +kernel) dX5_covers_47 (⟨by rw [coversF, if_pos e1_0], rfl⟩)
  · skip
    rcases Classical.em (w = nI 1) with e1_1 | e1_1
    · refine V_tableIn (pc := 1) (off := 47) (tgt := 48) hX dX5_covers_1 (by rw [e1_1]; decide +kernel) (by rw [e1_1]; decide +kernel) (by rw [e1_1]; decide +kernel) (by decide) ?_
      refine V_aload_n (pc := 48) (i := 0) hX dX5_covers_48 rfl rfl ?_
      refine V_getr (pc := 49) hX fX5_19 dX5_covers_49 rfl rfl ?_
      refine V_callVi (pc := 52) hX (hR.mono (by omega)) mX5_110 (c_pricesAdded _) dX5_covers_52 rfl rfl rfl rfl (Nat.le_of_ble_eq_true rfl) ?_
      exact V_iret (pc := 55) (st := []) hX hr (by first | rfl | exact bI_nar _ | decide +kernel) dX5_covers_55 (⟨by rw [coversF, if_neg e1_0, if_pos e1_1], rfl⟩)
    · skip
      rcases Classical.em (w = nI 2) with e1_2 | e1_2
      · refine V_tableIn (pc := 1) (off := 55) (tgt := 56) hX dX5_covers_1 (by rw [e1_2]; decide +kernel) (by rw [e1_2]; decide +kernel) (by rw [e1_2]; decide +kernel) (by decide) ?_
        refine V_aload_n (pc := 56) (i := 0) hX dX5_covers_56 rfl rfl ?_
        refine V_getr (pc := 57) hX fX5_19 dX5_covers_57 rfl rfl ?_
        refine V_callVi (pc := 60) hX (hR.mono (by omega)) mX5_114 (c_least n _ hn hn10) dX5_covers_60 rfl rfl rfl rfl (Nat.le_of_ble_eq_true rfl) ?_
        exact V_iret (pc := 63) (st := []) hX hr (by first | rfl | exact bI_nar _ | decide +kernel) dX5_covers_63 (⟨by rw [coversF, if_neg e1_0, if_neg e1_1, if_pos e1_2], rfl⟩)
      · skip
        rcases Classical.em (w = nI 3) with e1_3 | e1_3
        · refine V_tableIn (pc := 1) (off := 63) (tgt := 64) hX dX5_covers_1 (by rw [e1_3]; decide +kernel) (by rw [e1_3]; decide +kernel) (by rw [e1_3]; decide +kernel) (by decide) ?_
          refine V_aload_n (pc := 64) (i := 0) hX dX5_covers_64 rfl rfl ?_
          refine V_getr (pc := 65) hX fX5_19 dX5_covers_65 rfl rfl ?_
          refine V_callVi (pc := 68) hX (hR.mono (by omega)) mX5_117 (c_share n _ hn hn10) dX5_covers_68 rfl rfl rfl rfl (Nat.le_of_ble_eq_true rfl) ?_
          exact V_iret (pc := 71) (st := []) hX hr (by first | rfl | exact bI_nar _ | decide +kernel) dX5_covers_71 (⟨by rw [coversF, if_neg e1_0, if_neg e1_1, if_neg e1_2, if_pos e1_3], rfl⟩)
        · skip
          rcases Classical.em (w = nI 4) with e1_4 | e1_4
          · refine V_tableIn (pc := 1) (off := 71) (tgt := 72) hX dX5_covers_1 (by rw [e1_4]; decide +kernel) (by rw [e1_4]; decide +kernel) (by rw [e1_4]; decide +kernel) (by decide) ?_
            refine V_aload_n (pc := 72) (i := 0) hX dX5_covers_72 rfl rfl ?_
            refine V_getr (pc := 73) hX fX5_19 dX5_covers_73 rfl rfl ?_
            refine V_getf (pc := 76) hX fX5_83 dX5_covers_76 rfl rfl ?_
            exact V_iret (pc := 79) (st := []) hX hr (by first | rfl | exact bI_nar _ | decide +kernel) dX5_covers_79 (⟨by rw [coversF, if_neg e1_0, if_neg e1_1, if_neg e1_2, if_neg e1_3, if_pos e1_4], rfl⟩)
          · skip
            rcases Classical.em (w = nI 5) with e1_5 | e1_5
            · refine V_tableIn (pc := 1) (off := 79) (tgt := 80) hX dX5_covers_1 (by rw [e1_5]; decide +kernel) (by rw [e1_5]; decide +kernel) (by rw [e1_5]; decide +kernel) (by decide) ?_
              refine V_aload_n (pc := 80) (i := 0) hX dX5_covers_80 rfl rfl ?_
              refine V_getr (pc := 81) hX fX5_19 dX5_covers_81 rfl rfl ?_
              refine V_getf (pc := 84) hX fX5_120 dX5_covers_84 rfl rfl ?_
              exact V_iret (pc := 87) (st := []) hX hr (by first | rfl | exact bI_nar _ | decide +kernel) dX5_covers_87 (⟨by rw [coversF, if_neg e1_0, if_neg e1_1, if_neg e1_2, if_neg e1_3, if_neg e1_4, if_pos e1_5], rfl⟩)
            · skip
              refine V_tableOut (pc := 1) (tgt := 88) hX dX5_covers_1 (tsw_out 5 (by
                  intro j hj
                  rcases (show j = 0 ∨ j = 1 ∨ j = 2 ∨ j = 3 ∨ j = 4 ∨ j = 5 by omega) with rfl | rfl | rfl | rfl | rfl | rfl
                  · exact e1_0
                  · exact e1_1
                  · exact e1_2
                  · exact e1_3
                  · exact e1_4
                  · exact e1_5)) (by decide) ?_
              refine V_ldc (pc := 88) hX kX5_52 dX5_covers_88 ?_
              exact V_iret (pc := 90) (st := []) hX hr (by first | rfl | exact bI_nar _ | decide +kernel) dX5_covers_90 (⟨by rw [coversF, if_neg e1_0, if_neg e1_1, if_neg e1_2, if_neg e1_3, if_neg e1_4, if_neg e1_5], rfl⟩)
def demandV (σ : Mem) (n : Nat) (x : Int32) : Int32 := if inr x 12 then (if bt (σ 2 4) (tn x) then cmeetV σ n (tn x) else (-1000002)) else (-1000001)
def demandM (σ : Mem) (n : Nat) (x : Int32) : Mem := if inr x 12 then (if bt (σ 2 4) (tn x) then cmeetM σ n (tn x) else σ) else σ
set_option maxRecDepth 100000 in
set_option maxHeartbeats 4000000 in
theorem c_demand (n : Nat) (x : Int32) (σ : Mem) (hn : σ 2 3 = nI n) (hn10 : n ≤ 10) : Cc yX5_demand cX5_demand 2 (some .int) 6 [.ref 0, .int x] σ (rI (demandV σ n x) (demandM σ n x)) := by
  refine Cc.intro (by decide +kernel) [some (.ref 0), some (.int x)] (fun _ => rfl) rfl (fun _ => Nat.le_of_ble_eq_true rfl) ?_
  intro X hX hR hr
  refine V_iload_n (pc := 0) (i := 1) hX dX5_demand_0 rfl rfl ?_
  refine V_bipush (pc := 1) (v := (nI 12)) hX dX5_demand_1 (by decide +kernel) ?_
  refine V_callSi (pc := 3) hX (hR.mono (by omega)) mX5_48 (c_isUnderN x 12 (by decide) _) dX5_demand_3 rfl rfl rfl (Nat.le_of_ble_eq_true rfl) ?_
  refine V_if_neB (pc := 6) (tgt := 12) hX dX5_demand_6 (by decide) (fun h6 => ?_) (fun h6 => ?_)
  · obtain ⟨j, hj, rfl⟩ := inr_of h6 (by decide)
    refine V_aload_n (pc := 12) (i := 0) hX dX5_demand_12 rfl rfl ?_
    refine V_getr (pc := 13) hX fX5_19 dX5_demand_13 rfl rfl ?_
    refine V_iload_n (pc := 16) (i := 1) hX dX5_demand_16 rfl rfl ?_
    refine V_callVi (pc := 17) hX (hR.mono (by omega)) mX5_95 (c_isOffered _ (by omega) _) dX5_demand_17 rfl rfl rfl rfl (Nat.le_of_ble_eq_true rfl) ?_
    refine V_if_eqB (pc := 20) (tgt := 34) hX dX5_demand_20 (by decide) (fun h20 => ?_) (fun h20 => ?_)
    · refine V_ldc (pc := 34) hX kX5_86 dX5_demand_34 ?_
      exact V_iret (pc := 36) (st := []) hX hr (by first | rfl | exact bI_nar _ | decide +kernel) dX5_demand_36 (⟨by rw [demandV, h6, if_pos rfl, tn_nI (by omega), h20]; rfl, by rw [demandM, h6, if_pos rfl, tn_nI (by omega), h20]; rfl⟩)
    · refine V_aload_n (pc := 23) (i := 0) hX dX5_demand_23 rfl rfl ?_
      refine V_getr (pc := 24) hX fX5_19 dX5_demand_24 rfl rfl ?_
      refine V_iload_n (pc := 27) (i := 1) hX dX5_demand_27 rfl rfl ?_
      refine V_callVi (pc := 28) hX (hR.mono (by omega)) mX5_98 (c_meet n _ _ hn hn10 (by omega)) dX5_demand_28 rfl rfl rfl rfl (Nat.le_of_ble_eq_true rfl) ?_
      refine V_goto (pc := 31) (tgt := 36) hX dX5_demand_31 (by decide) ?_
      exact V_iret (pc := 36) (st := []) hX hr (by first | rfl | exact bI_nar _ | decide +kernel) dX5_demand_36 (⟨by rw [demandV, h6, if_pos rfl, tn_nI (by omega), h20]; rfl, by rw [demandM, h6, if_pos rfl, tn_nI (by omega), h20]; rfl⟩)
  · refine V_ldc (pc := 9) hX kX5_52 dX5_demand_9 ?_
    exact V_iret (pc := 11) (st := []) hX hr (by first | rfl | exact bI_nar _ | decide +kernel) dX5_demand_11 (⟨by rw [demandV, h6]; rfl, by rw [demandM, h6]; rfl⟩)
/-- offer: BAD, STATE, FULL, or the number -/
def offerF (n : Nat) (dem c th : Int32) : Int32 := if inr2 c 1 1000 && inr2 th 1 4095 then (if dem = 0 then (if n < 10 then nI n else (-1000003)) else (-1000002)) else (-1000001)
def offerM (σ : Mem) (n : Nat) (c th : Int32) : Mem := if inr2 c 1 1000 && inr2 th 1 4095 then (if σ 2 5 = 0 then (if n < 10 then caddM σ n c th else σ) else σ) else σ
set_option maxRecDepth 100000 in
set_option maxHeartbeats 4000000 in
theorem c_offer (n : Nat) (c th : Int32) (σ : Mem) (hn : σ 2 3 = nI n) (hn10 : n ≤ 10) : Cc yX5_offer cX5_offer 3 (some .int) 1 [.ref 0, .int c, .int th] σ (rI (offerF n (σ 2 5) c th) (offerM σ n c th)) := by
  refine Cc.intro (by decide +kernel) [some (.ref 0), some (.int c), some (.int th)] (fun _ => rfl) rfl (fun _ => Nat.le_of_ble_eq_true rfl) ?_
  intro X hX hR hr
  refine V_iload_n (pc := 0) (i := 1) hX dX5_offer_0 rfl rfl ?_
  refine V_iconst (pc := 1) (v := (nI 1)) hX dX5_offer_1 (by decide +kernel) ?_
  refine V_sipush (pc := 2) (v := (nI 1000)) hX dX5_offer_2 (by decide +kernel) ?_
  refine V_callSi (pc := 5) hX (hR.mono (by omega)) mX5_79 (c_isWithinN c 1 1000 (by decide) (by decide) _) dX5_offer_5 rfl rfl rfl (Nat.le_of_ble_eq_true rfl) ?_
  refine V_if_eqB (pc := 8) (tgt := 22) hX dX5_offer_8 (by decide) (fun h8 => ?_) (fun h8 => ?_)
  · refine V_ldc (pc := 22) hX kX5_52 dX5_offer_22 ?_
    exact V_iret (pc := 24) (st := []) hX hr (by first | rfl | exact bI_nar _ | decide +kernel) dX5_offer_24 (⟨by rw [offerF, h8]; rfl, by rw [offerM, h8]; rfl⟩)
  · refine V_iload_n (pc := 11) (i := 2) hX dX5_offer_11 rfl rfl ?_
    refine V_iconst (pc := 12) (v := (nI 1)) hX dX5_offer_12 (by decide +kernel) ?_
    refine V_sipush (pc := 13) (v := (nI 4095)) hX dX5_offer_13 (by decide +kernel) ?_
    refine V_callSi (pc := 16) hX (hR.mono (by omega)) mX5_79 (c_isWithinN th 1 4095 (by decide) (by decide) _) dX5_offer_16 rfl rfl rfl (Nat.le_of_ble_eq_true rfl) ?_
    refine V_if_neB (pc := 19) (tgt := 25) hX dX5_offer_19 (by decide) (fun h19 => ?_) (fun h19 => ?_)
    · refine V_aload_n (pc := 25) (i := 0) hX dX5_offer_25 rfl rfl ?_
      refine V_getr (pc := 26) hX fX5_19 dX5_offer_26 rfl rfl ?_
      refine V_getf (pc := 29) hX fX5_83 dX5_offer_29 rfl rfl ?_
      refine V_if_eq (pc := 32) (tgt := 38) hX dX5_offer_32 (by decide) (fun h32 => ?_) (fun h32 => ?_)
      · refine V_aload_n (pc := 38) (i := 0) hX dX5_offer_38 rfl rfl ?_
        refine V_getr (pc := 39) hX fX5_19 dX5_offer_39 rfl rfl ?_
        refine V_getf (pc := 42) hX fX5_87 dX5_offer_42 rfl rfl ?_
        refine V_bipush (pc := 45) (v := (nI 10)) hX dX5_offer_45 (by decide +kernel) ?_
        rw [hn]
        refine V_icmp_geN (pc := 47) (tgt := 62) hX dX5_offer_47 (by decide) (by omega) (by omega) (fun h47 => ?_) (fun h47 => ?_)
        · refine V_ldc (pc := 62) hX kX5_94 dX5_offer_62 ?_
          exact V_iret (pc := 64) (st := []) hX hr (by first | rfl | exact bI_nar _ | decide +kernel) dX5_offer_64 (⟨by rw [offerF, h8, h19, Bool.true_and, if_pos rfl, if_pos h32, if_neg (by omega)], by rw [offerM, h8, h19, Bool.true_and, if_pos rfl, if_pos h32, if_neg (by omega)]⟩)
        · refine V_aload_n (pc := 50) (i := 0) hX dX5_offer_50 rfl rfl ?_
          refine V_getr (pc := 51) hX fX5_19 dX5_offer_51 rfl rfl ?_
          refine V_iload_n (pc := 54) (i := 1) hX dX5_offer_54 rfl rfl ?_
          refine V_iload_n (pc := 55) (i := 2) hX dX5_offer_55 rfl rfl ?_
          refine V_callVi (pc := 56) hX (hR.mono (by omega)) mX5_90 (c_add n _ _ _ hn (by omega)) dX5_offer_56 rfl rfl rfl rfl (Nat.le_of_ble_eq_true rfl) ?_
          refine V_goto (pc := 59) (tgt := 64) hX dX5_offer_59 (by decide) ?_
          exact V_iret (pc := 64) (st := []) hX hr (by first | rfl | exact bI_nar _ | decide +kernel) dX5_offer_64 (⟨by rw [offerF, h8, h19, Bool.true_and, if_pos rfl, if_pos h32, if_pos h47], by rw [offerM, h8, h19, Bool.true_and, if_pos rfl, if_pos h32, if_pos h47]⟩)
      · refine V_ldc (pc := 35) hX kX5_86 dX5_offer_35 ?_
        exact V_iret (pc := 37) (st := []) hX hr (by first | rfl | exact bI_nar _ | decide +kernel) dX5_offer_37 (⟨by rw [offerF, h8, h19, Bool.true_and, if_pos rfl, if_neg h32], by rw [offerM, h8, h19, Bool.true_and, if_pos rfl, if_neg h32]⟩)
    · refine V_ldc (pc := 22) hX kX5_52 dX5_offer_22 ?_
      exact V_iret (pc := 24) (st := []) hX hr (by first | rfl | exact bI_nar _ | decide +kernel) dX5_offer_24 (⟨by rw [offerF, h8, h19]; rfl, by rw [offerM, h8, h19]; rfl⟩)
end
section
/-! ===== public methods of SETS, the reference's ===== -/
def m0 (σ : Mem) : Mem := mu σ 52 0 (nI 0)
theorem m0_r {σ : Mem} {q : Nat} (h : q ≠ 52) : m0 σ q = σ q := (mu_ne h).symm
theorem m0_c {σ : Mem} {j : Nat} (h : j ≠ 0) : m0 σ 52 j = σ 52 j := mu_ni h
set_option maxRecDepth 100000 in
set_option maxHeartbeats 4000000 in
theorem c_mprice (x : Int32) (σ : Mem) : Cc yX6_price cX6_price 2 (some .int) 1 [.ref 52, .int x] σ (rI (priceF (σ 58) x) (m0 σ)) := by
  refine Cc.intro (by decide +kernel) [some (.ref 52), some (.int x)] (fun _ => rfl) rfl (fun _ => Nat.le_of_ble_eq_true rfl) ?_
  intro X hX hR hr
  refine V_aload_n (pc := 0) (i := 0) hX dX6_price_0 rfl rfl ?_
  refine V_iconst (pc := 1) (v := (nI 0)) hX dX6_price_1 (by decide +kernel) ?_
  refine V_putf (pc := 2) hX fX6_66 gi6_0 dX6_price_2 rfl rfl ?_
  refine Vw.mem (rfl : m0 σ = _) ?_
  refine V_iload_n (pc := 5) (i := 1) hX dX6_price_5 rfl rfl ?_
  refine V_i2l (pc := 6) hX dX6_price_6 ?_
  refine V_lconst (pc := 7) (v := lN 0) hX dX6_price_7 (by decide +kernel) ?_
  refine V_ldc2 (pc := 8) hX kX6_105 dX6_price_8 ?_
  refine V_callSi (pc := 11) hX (hR.mono (by omega)) mX6_75 (c_inN x 0 11 (by decide) (by decide) _) dX6_price_11 rfl rfl rfl (Nat.le_of_ble_eq_true rfl) ?_
  refine V_if_eqB (pc := 14) (tgt := 26) hX dX6_price_14 (by decide) (fun h14 => ?_) (fun h14 => ?_)
  · rw [inr2_0] at h14
    refine V_ldc (pc := 26) hX kX6_85 dX6_price_26 ?_
    exact V_iret (pc := 28) (st := []) hX hr (by first | rfl | exact bI_nar _ | decide +kernel) dX6_price_28 (⟨by rw [priceF, h14]; rfl, rfl⟩)
  · rw [inr2_0] at h14
    obtain ⟨j, hj, rfl⟩ := inr_of h14 (by decide)
    refine V_aload_n (pc := 17) (i := 0) hX dX6_price_17 rfl rfl ?_
    refine V_getr (pc := 18) hX fX6_25 dX6_price_18 rfl rfl ?_
    refine V_iload_n (pc := 21) (i := 1) hX dX6_price_21 rfl rfl ?_
    refine V_iald (pc := 22) hX dX6_price_22 (rfl) (rfl) (by omega) (by decide) ?_
    refine V_goto (pc := 23) (tgt := 28) hX dX6_price_23 (by decide) ?_
    exact V_iret (pc := 28) (st := []) hX hr (by first | rfl | exact bI_nar _ | decide +kernel) dX6_price_28 (⟨by rw [priceF, h14, if_pos rfl, tn_nI (by omega), m0_r (by decide)], rfl⟩)
set_option maxRecDepth 100000 in
set_option maxHeartbeats 4000000 in
theorem c_mtold (n : Nat) (x w : Int32) (σ : Mem) (hn : σ 52 5 = nI n) (hn10 : n ≤ 10) : Cc yX6_told cX6_told 3 (some .int) 2 [.ref 52, .int x, .int w] σ (rI (toldF n (σ 56) (σ 57) (σ 58) (σ 52 8) x w) (m0 σ)) := by
  refine Cc.intro (by decide +kernel) [some (.ref 52), some (.int x), some (.int w)] (fun _ => rfl) rfl (fun _ => Nat.le_of_ble_eq_true rfl) ?_
  intro X hX hR hr
  have a5 : m0 σ 52 5 = nI n := by rw [m0_c (by decide)]; exact hn
  have a56 : m0 σ 56 = σ 56 := m0_r (by decide)
  have a57 : m0 σ 57 = σ 57 := m0_r (by decide)
  have a58 : m0 σ 58 = σ 58 := m0_r (by decide)
  have a8 : m0 σ 52 8 = σ 52 8 := m0_c (by decide)
  have w3 : inr2 w 0 3 = false → ¬ w = nI 0 ∧ ¬ w = nI 1 ∧ ¬ w = nI 2 ∧ ¬ w = nI 3 := fun h => by
    refine ⟨?_, ?_, ?_, ?_⟩ <;> (rintro rfl; exact absurd h (by decide +kernel))
  have w4 : inr2 w 0 3 = true → ¬ w = nI 0 → ¬ w = nI 1 → ¬ w = nI 2 → w = nI 3 := fun h h0 h1 h2 => by
    obtain ⟨j, -, hj, rfl⟩ := inr2_of h (by decide)
    rcases (show j = 0 ∨ j = 1 ∨ j = 2 ∨ j = 3 by omega) with rfl | rfl | rfl | rfl
    · exact absurd rfl h0
    · exact absurd rfl h1
    · exact absurd rfl h2
    · rfl
  have z0 : ∀ {z : Int32}, z = 0 ↔ z = nI 0 := fun {z} => by rw [nI_0]
  refine V_aload_n (pc := 0) (i := 0) hX dX6_told_0 rfl rfl ?_
  refine V_iconst (pc := 1) (v := (nI 0)) hX dX6_told_1 (by decide +kernel) ?_
  refine V_putf (pc := 2) hX fX6_66 gi6_0 dX6_told_2 rfl rfl ?_
  refine Vw.mem (rfl : m0 σ = _) ?_
  refine V_aload_n (pc := 5) (i := 0) hX dX6_told_5 rfl rfl ?_
  refine V_iload_n (pc := 6) (i := 1) hX dX6_told_6 rfl rfl ?_
  refine V_callVi (pc := 7) hX (hR.mono (by omega)) mX6_133 (c_misSet n _ _ a5 hn10) dX6_told_7 rfl rfl rfl rfl (Nat.le_of_ble_eq_true rfl) ?_
  refine V_if_eqB (pc := 10) (tgt := 25) hX dX6_told_10 (by decide) (fun h10 => ?_) (fun h10 => ?_)
  · refine V_ldc (pc := 25) hX kX6_85 dX6_told_25 ?_
    exact V_iret (pc := 27) (st := []) hX hr (by first | rfl | exact bI_nar _ | decide +kernel) dX6_told_27 (⟨by rw [toldF, h10]; rfl, rfl⟩)
  · obtain ⟨j, hj, rfl⟩ := inr_of h10 (by omega)
    refine V_iload_n (pc := 13) (i := 2) hX dX6_told_13 rfl rfl ?_
    refine V_i2l (pc := 14) hX dX6_told_14 ?_
    refine V_lconst (pc := 15) (v := lN 0) hX dX6_told_15 (by decide +kernel) ?_
    refine V_ldc2 (pc := 16) hX kX6_136 dX6_told_16 ?_
    refine V_callSi (pc := 19) hX (hR.mono (by omega)) mX6_75 (c_inN w 0 3 (by decide) (by decide) _) dX6_told_19 rfl rfl rfl (Nat.le_of_ble_eq_true rfl) ?_
    refine V_if_neB (pc := 22) (tgt := 28) hX dX6_told_22 (by decide) (fun h22 => ?_) (fun h22 => ?_)
    · refine V_iload_n (pc := 28) (i := 2) hX dX6_told_28 rfl rfl ?_
      refine V_if_ne (pc := 29) (tgt := 41) hX dX6_told_29 (by decide) (fun h29 => ?_) (fun h29 => ?_)
      · refine V_iload_n (pc := 41) (i := 2) hX dX6_told_41 rfl rfl ?_
        refine V_iconst (pc := 42) (v := (nI 1)) hX dX6_told_42 (by decide +kernel) ?_
        refine V_icmp_ne (pc := 43) (tgt := 55) hX dX6_told_43 (by decide) (fun h43 => ?_) (fun h43 => ?_)
        · refine V_iload_n (pc := 55) (i := 2) hX dX6_told_55 rfl rfl ?_
          refine V_iconst (pc := 56) (v := (nI 2)) hX dX6_told_56 (by decide +kernel) ?_
          refine V_icmp_ne (pc := 57) (tgt := 68) hX dX6_told_57 (by decide) (fun h57 => ?_) (fun h57 => ?_)
          · refine V_aload_n (pc := 68) (i := 0) hX dX6_told_68 rfl rfl ?_
            refine V_iload_n (pc := 69) (i := 1) hX dX6_told_69 rfl rfl ?_
            refine V_callVi (pc := 70) hX (hR.mono (by omega)) mX6_112 (c_misOwn _ _ (by omega)) dX6_told_70 rfl rfl rfl rfl (Nat.le_of_ble_eq_true rfl) ?_
            refine V_if_eqB (pc := 73) (tgt := 80) hX dX6_told_73 (by decide) (fun h73 => ?_) (fun h73 => ?_)
            · refine V_iconst (pc := 80) (v := (nI 0)) hX dX6_told_80 (by decide +kernel) ?_
              exact V_iret (pc := 81) (st := []) hX hr (by first | rfl | exact bI_nar _ | decide +kernel) dX6_told_81 (⟨by
  rw [toldF, h10, if_pos rfl, tn_nI (by omega), if_neg (fun q => h29 (z0.mpr q)), if_neg h43, if_neg h57, if_pos (w4 h22 (fun q => h29 (z0.mpr q)) h43 h57), ← a8, h73]; rfl, rfl⟩)
            · refine V_iconst (pc := 76) (v := (nI 1)) hX dX6_told_76 (by decide +kernel) ?_
              refine V_goto (pc := 77) (tgt := 81) hX dX6_told_77 (by decide) ?_
              exact V_iret (pc := 81) (st := []) hX hr (by first | rfl | exact bI_nar _ | decide +kernel) dX6_told_81 (⟨by
  rw [toldF, h10, if_pos rfl, tn_nI (by omega), if_neg (fun q => h29 (z0.mpr q)), if_neg h43, if_neg h57, if_pos (w4 h22 (fun q => h29 (z0.mpr q)) h43 h57), ← a8, h73]; rfl, rfl⟩)
          · refine V_aload_n (pc := 60) (i := 0) hX dX6_told_60 rfl rfl ?_
            refine V_iload_n (pc := 61) (i := 1) hX dX6_told_61 rfl rfl ?_
            refine V_callVi (pc := 62) hX (hR.mono (by omega)) mX6_115 (c_mfilled _ _ (by omega)) dX6_told_62 rfl rfl rfl rfl (Nat.le_of_ble_eq_true rfl) ?_
            refine V_goto (pc := 65) (tgt := 81) hX dX6_told_65 (by decide) ?_
            exact V_iret (pc := 81) (st := []) hX hr (by first | rfl | exact bI_nar _ | decide +kernel) dX6_told_81 (⟨by rw [toldF, h10, if_pos rfl, tn_nI (by omega), if_neg (fun q => h29 (z0.mpr q)), if_neg h43, if_pos h57, a57, a58], rfl⟩)
        · refine V_aload_n (pc := 46) (i := 0) hX dX6_told_46 rfl rfl ?_
          refine V_getr (pc := 47) hX fX6_22 dX6_told_47 rfl rfl ?_
          refine V_iload_n (pc := 50) (i := 1) hX dX6_told_50 rfl rfl ?_
          refine V_iald (pc := 51) hX dX6_told_51 (rfl) (rfl) (by omega) (by decide) ?_
          refine V_goto (pc := 52) (tgt := 81) hX dX6_told_52 (by decide) ?_
          exact V_iret (pc := 81) (st := []) hX hr (by first | rfl | exact bI_nar _ | decide +kernel) dX6_told_81 (⟨by rw [toldF, h10, if_pos rfl, tn_nI (by omega), if_neg (fun q => h29 (z0.mpr q)), if_pos h43, a57], rfl⟩)
      · refine V_aload_n (pc := 32) (i := 0) hX dX6_told_32 rfl rfl ?_
        refine V_getr (pc := 33) hX fX6_19 dX6_told_33 rfl rfl ?_
        refine V_iload_n (pc := 36) (i := 1) hX dX6_told_36 rfl rfl ?_
        refine V_iald (pc := 37) hX dX6_told_37 (rfl) (rfl) (by omega) (by decide) ?_
        refine V_goto (pc := 38) (tgt := 81) hX dX6_told_38 (by decide) ?_
        exact V_iret (pc := 81) (st := []) hX hr (by first | rfl | exact bI_nar _ | decide +kernel) dX6_told_81 (⟨by rw [toldF, h10, if_pos rfl, tn_nI (by omega), if_pos (z0.mp h29), a56], rfl⟩)
    · refine V_ldc (pc := 25) hX kX6_85 dX6_told_25 ?_
      exact V_iret (pc := 27) (st := []) hX hr (by first | rfl | exact bI_nar _ | decide +kernel) dX6_told_27 (⟨by rw [toldF, h10, if_pos rfl, if_neg (w3 h22).1, if_neg (w3 h22).2.1, if_neg (w3 h22).2.2.1, if_neg (w3 h22).2.2.2], rfl⟩)
set_option maxRecDepth 100000 in
set_option maxHeartbeats 4000000 in
theorem c_mkind (n : Nat) (x : Int32) (σ : Mem) (hn : σ 52 5 = nI n) (hn10 : n ≤ 10) : Cc yX6_kind cX6_kind 2 (some .int) 2 [.ref 52, .int x] σ (rI (kindF n (σ 56) (σ 57) (σ 58) (σ 52 8) x) (m0 σ)) := by
  refine Cc.intro (by decide +kernel) [some (.ref 52), some (.int x)] (fun _ => rfl) rfl (fun _ => Nat.le_of_ble_eq_true rfl) ?_
  intro X hX hR hr
  have a5 : m0 σ 52 5 = nI n := by rw [m0_c (by decide)]; exact hn
  have a56 : m0 σ 56 = σ 56 := m0_r (by decide)
  have a57 : m0 σ 57 = σ 57 := m0_r (by decide)
  have a58 : m0 σ 58 = σ 58 := m0_r (by decide)
  have a8 : m0 σ 52 8 = σ 52 8 := m0_c (by decide)
  refine V_aload_n (pc := 0) (i := 0) hX dX6_kind_0 rfl rfl ?_
  refine V_iconst (pc := 1) (v := (nI 0)) hX dX6_kind_1 (by decide +kernel) ?_
  refine V_putf (pc := 2) hX fX6_66 gi6_0 dX6_kind_2 rfl rfl ?_
  refine Vw.mem (rfl : m0 σ = _) ?_
  refine V_aload_n (pc := 5) (i := 0) hX dX6_kind_5 rfl rfl ?_
  refine V_iload_n (pc := 6) (i := 1) hX dX6_kind_6 rfl rfl ?_
  refine V_callVi (pc := 7) hX (hR.mono (by omega)) mX6_133 (c_misSet n _ _ a5 hn10) dX6_kind_7 rfl rfl rfl rfl (Nat.le_of_ble_eq_true rfl) ?_
  refine V_if_eqB (pc := 10) (tgt := 21) hX dX6_kind_10 (by decide) (fun h10 => ?_) (fun h10 => ?_)
  · refine V_ldc (pc := 21) hX kX6_85 dX6_kind_21 ?_
    exact V_iret (pc := 23) (st := []) hX hr (by first | rfl | exact bI_nar _ | decide +kernel) dX6_kind_23 (⟨by rw [kindF, h10]; rfl, rfl⟩)
  · obtain ⟨j, hj, rfl⟩ := inr_of h10 (by omega)
    refine V_aload_n (pc := 13) (i := 0) hX dX6_kind_13 rfl rfl ?_
    refine V_iload_n (pc := 14) (i := 1) hX dX6_kind_14 rfl rfl ?_
    refine V_callVi (pc := 15) hX (hR.mono (by omega)) mX6_190 (c_mkindOf _ _ (by omega)) dX6_kind_15 rfl rfl rfl rfl (Nat.le_of_ble_eq_true rfl) ?_
    refine V_goto (pc := 18) (tgt := 23) hX dX6_kind_18 (by decide) ?_
    exact V_iret (pc := 23) (st := []) hX hr (by first | rfl | exact bI_nar _ | decide +kernel) dX6_kind_23 (⟨by rw [kindF, h10, if_pos rfl, tn_nI (by omega), a56, a57, a58, a8], rfl⟩)
def mdemandV (σ : Mem) (n : Nat) (x : Int32) : Int32 := if inr x 12 then mdemV σ n (tn x) else (-1000001)
def mdemandM (σ : Mem) (n : Nat) (x : Int32) : Mem := if inr x 12 then mdemM σ n (tn x) else σ
theorem c_mdemG (n : Nat) (x : Int32) (σ : Mem) (hn : σ 52 5 = nI n) (hn10 : n ≤ 10) : Cc yX6_demanding cX6_demanding 7 (some .int) 1 [.ref 52, .int x] σ (rI (mdemandV σ n x) (mdemandM σ n x)) := by
  cases h : inr x 12 with
  | false =>
    have h2 := c_mdemB x σ h
    rw [mdemandV, mdemandM, h]
    exact h2
  | true =>
    obtain ⟨j, hj, rfl⟩ := inr_of h (by decide)
    have h2 := c_mdem n j σ hn hn10 hj
    rw [mdemandV, mdemandM, h, if_pos rfl, if_pos rfl, tn_nI (by omega)]
    exact h2
set_option maxRecDepth 100000 in
set_option maxHeartbeats 4000000 in
theorem c_mdemand (n : Nat) (x : Int32) (σ : Mem) (hn : σ 52 5 = nI n) (hn10 : n ≤ 10) : Cc yX6_demand cX6_demand 2 (some .int) 2 [.ref 52, .int x] σ (rI (mdemandV (m0 σ) n x) (mdemandM (m0 σ) n x)) := by
  refine Cc.intro (by decide +kernel) [some (.ref 52), some (.int x)] (fun _ => rfl) rfl (fun _ => Nat.le_of_ble_eq_true rfl) ?_
  intro X hX hR hr
  refine V_aload_n (pc := 0) (i := 0) hX dX6_demand_0 rfl rfl ?_
  refine V_iconst (pc := 1) (v := (nI 0)) hX dX6_demand_1 (by decide +kernel) ?_
  refine V_putf (pc := 2) hX fX6_66 gi6_0 dX6_demand_2 rfl rfl ?_
  refine Vw.mem (rfl : m0 σ = _) ?_
  refine V_aload_n (pc := 5) (i := 0) hX dX6_demand_5 rfl rfl ?_
  refine V_iload_n (pc := 6) (i := 1) hX dX6_demand_6 rfl rfl ?_
  refine V_callVi (pc := 7) hX (hR.mono (by omega)) mX6_121 (c_mdemG n x _ (by rw [m0_c (by decide)]; exact hn) hn10) dX6_demand_7 rfl rfl rfl rfl (Nat.le_of_ble_eq_true rfl) ?_
  exact V_iret (pc := 10) (st := []) hX hr (by first | rfl | exact bI_nar _ | decide +kernel) dX6_demand_10 (⟨rfl, rfl⟩)
def maddM (σ : Mem) (n : Nat) (c th : Int32) : Mem := mu (mu (mu σ 56 n c) 57 n th) 52 5 (nI (n + 1))
def mofferM (σ : Mem) (n : Nat) (c th : Int32) : Mem := if inr2 c 1 1000 && inr2 th 1 4095 then (if σ 52 9 = 0 then (if n < 10 then maddM σ n c th else σ) else σ) else σ
set_option maxRecDepth 100000 in
set_option maxHeartbeats 4000000 in
theorem c_moffer (n : Nat) (c th : Int32) (σ : Mem) (hn : σ 52 5 = nI n) (hn10 : n ≤ 10) : Cc yX6_offer cX6_offer 3 (some .int) 1 [.ref 52, .int c, .int th] σ (rI (offerF n (σ 52 9) c th) (mofferM (m0 σ) n c th)) := by
  refine Cc.intro (by decide +kernel) [some (.ref 52), some (.int c), some (.int th)] (fun _ => rfl) rfl (fun _ => Nat.le_of_ble_eq_true rfl) ?_
  intro X hX hR hr
  have a5 : m0 σ 52 5 = nI n := by rw [m0_c (by decide)]; exact hn
  have a9 : m0 σ 52 9 = σ 52 9 := m0_c (by decide)
  refine V_aload_n (pc := 0) (i := 0) hX dX6_offer_0 rfl rfl ?_
  refine V_iconst (pc := 1) (v := (nI 0)) hX dX6_offer_1 (by decide +kernel) ?_
  refine V_putf (pc := 2) hX fX6_66 gi6_0 dX6_offer_2 rfl rfl ?_
  refine Vw.mem (rfl : m0 σ = _) ?_
  refine V_iload_n (pc := 5) (i := 1) hX dX6_offer_5 rfl rfl ?_
  refine V_i2l (pc := 6) hX dX6_offer_6 ?_
  refine V_lconst (pc := 7) (v := lN 1) hX dX6_offer_7 (by decide +kernel) ?_
  refine V_ldc2 (pc := 8) hX kX6_96 dX6_offer_8 ?_
  refine V_callSi (pc := 11) hX (hR.mono (by omega)) mX6_75 (c_inN c 1 1000 (by decide) (by decide) _) dX6_offer_11 rfl rfl rfl (Nat.le_of_ble_eq_true rfl) ?_
  refine V_if_eqB (pc := 14) (tgt := 29) hX dX6_offer_14 (by decide) (fun h14 => ?_) (fun h14 => ?_)
  · refine V_ldc (pc := 29) hX kX6_85 dX6_offer_29 ?_
    exact V_iret (pc := 31) (st := []) hX hr (by first | rfl | exact bI_nar _ | decide +kernel) dX6_offer_31 (⟨by rw [offerF, h14]; rfl, by rw [mofferM, h14]; rfl⟩)
  · refine V_iload_n (pc := 17) (i := 2) hX dX6_offer_17 rfl rfl ?_
    refine V_i2l (pc := 18) hX dX6_offer_18 ?_
    refine V_lconst (pc := 19) (v := lN 1) hX dX6_offer_19 (by decide +kernel) ?_
    refine V_ldc2 (pc := 20) hX kX6_98 dX6_offer_20 ?_
    refine V_callSi (pc := 23) hX (hR.mono (by omega)) mX6_75 (c_inN th 1 4095 (by decide) (by decide) _) dX6_offer_23 rfl rfl rfl (Nat.le_of_ble_eq_true rfl) ?_
    refine V_if_neB (pc := 26) (tgt := 32) hX dX6_offer_26 (by decide) (fun h26 => ?_) (fun h26 => ?_)
    · refine V_aload_n (pc := 32) (i := 0) hX dX6_offer_32 rfl rfl ?_
      refine V_getf (pc := 33) hX fX6_100 dX6_offer_33 rfl rfl ?_
      refine V_if_eq (pc := 36) (tgt := 42) hX dX6_offer_36 (by decide) (fun h36 => ?_) (fun h36 => ?_)
      · refine V_aload_n (pc := 42) (i := 0) hX dX6_offer_42 rfl rfl ?_
        refine V_getf (pc := 43) hX fX6_90 dX6_offer_43 rfl rfl ?_
        refine V_bipush (pc := 46) (v := (nI 10)) hX dX6_offer_46 (by decide +kernel) ?_
        rw [a5]
        refine V_icmp_neN (pc := 48) (tgt := 54) hX dX6_offer_48 (by decide) (by omega) (by omega) (fun h48 => ?_) (fun h48 => ?_)
        · refine V_aload_n (pc := 54) (i := 0) hX dX6_offer_54 rfl rfl ?_
          refine V_getr (pc := 55) hX fX6_19 dX6_offer_55 rfl rfl ?_
          refine V_aload_n (pc := 58) (i := 0) hX dX6_offer_58 rfl rfl ?_
          refine V_getf (pc := 59) hX fX6_90 dX6_offer_59 rfl rfl ?_
          rw [a5]
          refine V_iload_n (pc := 62) (i := 1) hX dX6_offer_62 rfl rfl ?_
          refine V_iast (pc := 63) hX dX6_offer_63 (rfl) (rfl) (by omega) (by decide) ?_
          refine V_aload_n (pc := 64) (i := 0) hX dX6_offer_64 rfl rfl ?_
          refine V_getr (pc := 65) hX fX6_22 dX6_offer_65 rfl rfl ?_
          refine V_aload_n (pc := 68) (i := 0) hX dX6_offer_68 rfl rfl ?_
          refine V_getf (pc := 69) hX fX6_90 dX6_offer_69 rfl rfl ?_
          simp only [mu_f, Nat.reduceEqDiff, ↓reduceIte, a5]
          refine V_iload_n (pc := 72) (i := 2) hX dX6_offer_72 rfl rfl ?_
          refine V_iast (pc := 73) hX dX6_offer_73 (rfl) (rfl) (by omega) (by decide) ?_
          refine V_aload_n (pc := 74) (i := 0) hX dX6_offer_74 rfl rfl ?_
          refine V_dup (pc := 75) hX dX6_offer_75 rfl ?_
          refine V_getf (pc := 76) hX fX6_90 dX6_offer_76 rfl rfl ?_
          simp only [mu_f, Nat.reduceEqDiff, ↓reduceIte, a5]
          refine V_iconst (pc := 79) (v := (nI 1)) hX dX6_offer_79 (by decide +kernel) ?_
          refine V_iadd (pc := 80) hX dX6_offer_80 ?_
          rw [nI_add]
          refine V_putf (pc := 81) hX fX6_90 gi6_5 dX6_offer_81 rfl rfl ?_
          refine V_aload_n (pc := 84) (i := 0) hX dX6_offer_84 rfl rfl ?_
          refine V_getf (pc := 85) hX fX6_90 dX6_offer_85 rfl rfl ?_
          refine V_iconst (pc := 88) (v := (nI 1)) hX dX6_offer_88 (by decide +kernel) ?_
          refine V_isub (pc := 89) hX dX6_offer_89 ?_
          simp only [mu_at]
          rw [pk_sub (by omega)]
          exact V_iret (pc := 90) (st := []) hX hr (by first | rfl | exact bI_nar _ | decide +kernel) dX6_offer_90 (⟨by rw [offerF, h14, h26, Bool.true_and, if_pos rfl, ← a9, if_pos h36, if_pos (by omega)]; rfl, by rw [mofferM, h14, h26, Bool.true_and, if_pos rfl, if_pos h36, if_pos (by omega)]; rfl⟩)
        · refine V_ldc (pc := 51) hX kX6_104 dX6_offer_51 ?_
          exact V_iret (pc := 53) (st := []) hX hr (by first | rfl | exact bI_nar _ | decide +kernel) dX6_offer_53 (⟨by rw [offerF, h14, h26, Bool.true_and, if_pos rfl, ← a9, if_pos h36, if_neg (by omega)], by rw [mofferM, h14, h26, Bool.true_and, if_pos rfl, if_pos h36, if_neg (by omega)]⟩)
      · refine V_ldc (pc := 39) hX kX6_103 dX6_offer_39 ?_
        exact V_iret (pc := 41) (st := []) hX hr (by first | rfl | exact bI_nar _ | decide +kernel) dX6_offer_41 (⟨by rw [offerF, h14, h26, Bool.true_and, if_pos rfl, ← a9, if_neg h36], by rw [mofferM, h14, h26, Bool.true_and, if_pos rfl, if_neg h36]⟩)
    · refine V_ldc (pc := 29) hX kX6_85 dX6_offer_29 ?_
      exact V_iret (pc := 31) (st := []) hX hr (by first | rfl | exact bI_nar _ | decide +kernel) dX6_offer_31 (⟨by rw [offerF, h14, h26]; rfl, by rw [mofferM, h14, h26]; rfl⟩)
end
section
/-! ===== SHEETS, the class's: 15 lanes, 16 sizes (-1: missing), rows 7 .. 14 ===== -/
set_option maxRecDepth 100000 in
set_option maxHeartbeats 4000000 in
theorem c_isMissing (s : Nat) (σ : Mem) (hs : s < 8) : Cc yX3_isMissing cX3_isMissing 2 (some .boolean) 0 [.ref 1, .int (nI s)] σ (rI (bI (decide (σ 16 s = (-1)))) σ) := by
  refine Cc.intro (by decide +kernel) [some (.ref 1), some (.int (nI s))] (fun _ => rfl) rfl (fun _ => Nat.le_of_ble_eq_true rfl) ?_
  intro X hX hR hr
  refine V_aload_n (pc := 0) (i := 0) hX dX3_isMissing_0 rfl rfl ?_
  refine V_getr (pc := 1) hX fX3_20 dX3_isMissing_1 rfl rfl ?_
  refine V_iload_n (pc := 4) (i := 1) hX dX3_isMissing_4 rfl rfl ?_
  refine V_iald (pc := 5) hX dX3_isMissing_5 (rfl) (rfl) (by omega) (by decide) ?_
  refine V_iconst (pc := 6) (v := (-1)) hX dX3_isMissing_6 (by decide +kernel) ?_
  refine V_icmp_ne (pc := 7) (tgt := 14) hX dX3_isMissing_7 (by decide) (fun h7 => ?_) (fun h7 => ?_)
  · refine V_iconst (pc := 14) (v := (nI 0)) hX dX3_isMissing_14 (by decide +kernel) ?_
    exact V_iret (pc := 15) (st := []) hX hr (by first | rfl | exact bI_nar _ | decide +kernel) dX3_isMissing_15 (⟨by rw [decide_eq_false h7]; rfl, rfl⟩)
  · refine V_iconst (pc := 10) (v := (nI 1)) hX dX3_isMissing_10 (by decide +kernel) ?_
    refine V_goto (pc := 11) (tgt := 15) hX dX3_isMissing_11 (by decide) ?_
    exact V_iret (pc := 15) (st := []) hX hr (by first | rfl | exact bI_nar _ | decide +kernel) dX3_isMissing_15 (⟨by rw [decide_eq_true h7]; rfl, rfl⟩)
def rowF (sz i n : Int32) : Bool := decide (0 ≤ i ∧ 0 ≤ n ∧ i ≤ sz - n)
set_option maxRecDepth 100000 in
set_option maxHeartbeats 4000000 in
theorem c_isRow (s : Nat) (i n : Int32) (σ : Mem) (hs : s < 8) : Cc yX3_isRow cX3_isRow 4 (some .boolean) 0 [.ref 1, .int (nI s), .int i, .int n] σ (rI (bI (rowF (σ 16 s) i n)) σ) := by
  refine Cc.intro (by decide +kernel) [some (.ref 1), some (.int (nI s)), some (.int i), some (.int n)] (fun _ => rfl) rfl (fun _ => Nat.le_of_ble_eq_true rfl) ?_
  intro X hX hR hr
  refine V_iload_n (pc := 0) (i := 2) hX dX3_isRow_0 rfl rfl ?_
  refine V_if_lt (pc := 1) (tgt := 24) hX dX3_isRow_1 (by decide) (fun h1 => ?_) (fun h1 => ?_)
  · refine V_iconst (pc := 24) (v := (nI 0)) hX dX3_isRow_24 (by decide +kernel) ?_
    exact V_iret (pc := 25) (st := []) hX hr (by first | rfl | exact bI_nar _ | decide +kernel) dX3_isRow_25 (⟨by rw [rowF, decide_eq_false (fun q => Int32.not_le.mpr h1 q.1)]; rfl, rfl⟩)
  · refine V_iload_n (pc := 4) (i := 3) hX dX3_isRow_4 rfl rfl ?_
    refine V_if_lt (pc := 5) (tgt := 24) hX dX3_isRow_5 (by decide) (fun h5 => ?_) (fun h5 => ?_)
    · refine V_iconst (pc := 24) (v := (nI 0)) hX dX3_isRow_24 (by decide +kernel) ?_
      exact V_iret (pc := 25) (st := []) hX hr (by first | rfl | exact bI_nar _ | decide +kernel) dX3_isRow_25 (⟨by rw [rowF, decide_eq_false (fun q => Int32.not_le.mpr h5 q.2.1)]; rfl, rfl⟩)
    · refine V_iload_n (pc := 8) (i := 2) hX dX3_isRow_8 rfl rfl ?_
      refine V_aload_n (pc := 9) (i := 0) hX dX3_isRow_9 rfl rfl ?_
      refine V_getr (pc := 10) hX fX3_20 dX3_isRow_10 rfl rfl ?_
      refine V_iload_n (pc := 13) (i := 1) hX dX3_isRow_13 rfl rfl ?_
      refine V_iald (pc := 14) hX dX3_isRow_14 (rfl) (rfl) (by omega) (by decide) ?_
      refine V_iload_n (pc := 15) (i := 3) hX dX3_isRow_15 rfl rfl ?_
      refine V_isub (pc := 16) hX dX3_isRow_16 ?_
      refine V_icmp_gt (pc := 17) (tgt := 24) hX dX3_isRow_17 (by decide) (fun h17 => ?_) (fun h17 => ?_)
      · refine V_iconst (pc := 24) (v := (nI 0)) hX dX3_isRow_24 (by decide +kernel) ?_
        exact V_iret (pc := 25) (st := []) hX hr (by first | rfl | exact bI_nar _ | decide +kernel) dX3_isRow_25 (⟨by rw [rowF, decide_eq_false (fun q => Int32.not_le.mpr h17 q.2.2)]; rfl, rfl⟩)
      · refine V_iconst (pc := 20) (v := (nI 1)) hX dX3_isRow_20 (by decide +kernel) ?_
        refine V_goto (pc := 21) (tgt := 25) hX dX3_isRow_21 (by decide) ?_
        exact V_iret (pc := 25) (st := []) hX hr (by first | rfl | exact bI_nar _ | decide +kernel) dX3_isRow_25 (⟨by rw [rowF, decide_eq_true ⟨Int32.not_lt.mp h1, Int32.not_lt.mp h5, Int32.not_lt.mp h17⟩]; rfl, rfl⟩)
/-- the finding for a row of one sheet, and of a copy -/
def fiF (sz i n : Int32) : Int32 := if sz = (-1) then nI 1 else if rowF sz i n then nI 0 else nI 2
def fpF (sa sb la lb i j n : Int32) : Int32 := if sa = (-1) ∨ sb = (-1) then nI 1 else if la = lb then (if rowF sa i n ∧ rowF sb j n then nI 0 else nI 2) else nI 5
set_option maxRecDepth 100000 in
set_option maxHeartbeats 4000000 in
theorem c_findItems (s : Nat) (i n : Int32) (σ : Mem) (hs : s < 8) : Cc yX3_findItems cX3_findItems 4 (some .int) 1 [.ref 1, .int (nI s), .int i, .int n] σ (rI (fiF (σ 16 s) i n) σ) := by
  refine Cc.intro (by decide +kernel) [some (.ref 1), some (.int (nI s)), some (.int i), some (.int n)] (fun _ => rfl) rfl (fun _ => Nat.le_of_ble_eq_true rfl) ?_
  intro X hX hR hr
  refine V_aload_n (pc := 0) (i := 0) hX dX3_findItems_0 rfl rfl ?_
  refine V_iload_n (pc := 1) (i := 1) hX dX3_findItems_1 rfl rfl ?_
  refine V_callVi (pc := 2) hX (hR.mono (by omega)) mX3_23 (c_isMissing _ _ hs) dX3_findItems_2 rfl rfl rfl rfl (Nat.le_of_ble_eq_true rfl) ?_
  refine V_if_eqB (pc := 5) (tgt := 10) hX dX3_findItems_5 (by decide) (fun h5 => ?_) (fun h5 => ?_)
  · refine V_aload_n (pc := 10) (i := 0) hX dX3_findItems_10 rfl rfl ?_
    refine V_iload_n (pc := 11) (i := 1) hX dX3_findItems_11 rfl rfl ?_
    refine V_iload_n (pc := 12) (i := 2) hX dX3_findItems_12 rfl rfl ?_
    refine V_iload_n (pc := 13) (i := 3) hX dX3_findItems_13 rfl rfl ?_
    refine V_callVi (pc := 14) hX (hR.mono (by omega)) mX3_27 (c_isRow _ _ _ _ hs) dX3_findItems_14 rfl rfl rfl rfl (Nat.le_of_ble_eq_true rfl) ?_
    refine V_if_eqB (pc := 17) (tgt := 24) hX dX3_findItems_17 (by decide) (fun h17 => ?_) (fun h17 => ?_)
    · refine V_iconst (pc := 24) (v := (nI 2)) hX dX3_findItems_24 (by decide +kernel) ?_
      exact V_iret (pc := 25) (st := []) hX hr (by first | rfl | exact bI_nar _ | decide +kernel) dX3_findItems_25 (⟨by rw [fiF, if_neg (of_decide_eq_false h5), h17]; rfl, rfl⟩)
    · refine V_iconst (pc := 20) (v := (nI 0)) hX dX3_findItems_20 (by decide +kernel) ?_
      refine V_goto (pc := 21) (tgt := 25) hX dX3_findItems_21 (by decide) ?_
      exact V_iret (pc := 25) (st := []) hX hr (by first | rfl | exact bI_nar _ | decide +kernel) dX3_findItems_25 (⟨by rw [fiF, if_neg (of_decide_eq_false h5), h17]; rfl, rfl⟩)
  · refine V_iconst (pc := 8) (v := (nI 1)) hX dX3_findItems_8 (by decide +kernel) ?_
    exact V_iret (pc := 9) (st := []) hX hr (by first | rfl | exact bI_nar _ | decide +kernel) dX3_findItems_9 (⟨by rw [fiF, if_pos (of_decide_eq_true h5)], rfl⟩)
set_option maxRecDepth 100000 in
set_option maxHeartbeats 4000000 in
theorem c_findPair (a b : Nat) (i j n : Int32) (σ : Mem) (ha : a < 8) (hb : b < 8) : Cc yX3_findPair cX3_findPair 6 (some .int) 1 [.ref 1, .int (nI a), .int i, .int (nI b), .int j, .int n] σ (rI (fpF (σ 16 a) (σ 16 b) (σ 15 a) (σ 15 b) i j n) σ) := by
  refine Cc.intro (by decide +kernel) [some (.ref 1), some (.int (nI a)), some (.int i), some (.int (nI b)), some (.int j), some (.int n)] (fun _ => rfl) rfl (fun _ => Nat.le_of_ble_eq_true rfl) ?_
  intro X hX hR hr
  refine V_aload_n (pc := 0) (i := 0) hX dX3_findPair_0 rfl rfl ?_
  refine V_iload_n (pc := 1) (i := 1) hX dX3_findPair_1 rfl rfl ?_
  refine V_callVi (pc := 2) hX (hR.mono (by omega)) mX3_23 (c_isMissing _ _ ha) dX3_findPair_2 rfl rfl rfl rfl (Nat.le_of_ble_eq_true rfl) ?_
  refine V_if_neB (pc := 5) (tgt := 16) hX dX3_findPair_5 (by decide) (fun h5 => ?_) (fun h5 => ?_)
  · refine V_iconst (pc := 16) (v := (nI 1)) hX dX3_findPair_16 (by decide +kernel) ?_
    exact V_iret (pc := 17) (st := []) hX hr (by first | rfl | exact bI_nar _ | decide +kernel) dX3_findPair_17 (⟨by rw [fpF, if_pos (Or.inl (of_decide_eq_true h5))], rfl⟩)
  · refine V_aload_n (pc := 8) (i := 0) hX dX3_findPair_8 rfl rfl ?_
    refine V_iload_n (pc := 9) (i := 3) hX dX3_findPair_9 rfl rfl ?_
    refine V_callVi (pc := 10) hX (hR.mono (by omega)) mX3_23 (c_isMissing _ _ hb) dX3_findPair_10 rfl rfl rfl rfl (Nat.le_of_ble_eq_true rfl) ?_
    refine V_if_eqB (pc := 13) (tgt := 18) hX dX3_findPair_13 (by decide) (fun h13 => ?_) (fun h13 => ?_)
    · refine V_aload_n (pc := 18) (i := 0) hX dX3_findPair_18 rfl rfl ?_
      refine V_getr (pc := 19) hX fX3_16 dX3_findPair_19 rfl rfl ?_
      refine V_iload_n (pc := 22) (i := 1) hX dX3_findPair_22 rfl rfl ?_
      refine V_iald (pc := 23) hX dX3_findPair_23 (rfl) (rfl) (by omega) (by decide) ?_
      refine V_aload_n (pc := 24) (i := 0) hX dX3_findPair_24 rfl rfl ?_
      refine V_getr (pc := 25) hX fX3_16 dX3_findPair_25 rfl rfl ?_
      refine V_iload_n (pc := 28) (i := 3) hX dX3_findPair_28 rfl rfl ?_
      refine V_iald (pc := 29) hX dX3_findPair_29 (rfl) (rfl) (by omega) (by decide) ?_
      refine V_icmp_eq (pc := 30) (tgt := 35) hX dX3_findPair_30 (by decide) (fun h30 => ?_) (fun h30 => ?_)
      · refine V_aload_n (pc := 35) (i := 0) hX dX3_findPair_35 rfl rfl ?_
        refine V_iload_n (pc := 36) (i := 1) hX dX3_findPair_36 rfl rfl ?_
        refine V_iload_n (pc := 37) (i := 2) hX dX3_findPair_37 rfl rfl ?_
        refine V_iload (pc := 38) (i := 5) hX dX3_findPair_38 rfl ?_
        refine V_callVi (pc := 40) hX (hR.mono (by omega)) mX3_27 (c_isRow _ _ _ _ ha) dX3_findPair_40 rfl rfl rfl rfl (Nat.le_of_ble_eq_true rfl) ?_
        refine V_if_eqB (pc := 43) (tgt := 62) hX dX3_findPair_43 (by decide) (fun h43 => ?_) (fun h43 => ?_)
        · refine V_iconst (pc := 62) (v := (nI 2)) hX dX3_findPair_62 (by decide +kernel) ?_
          exact V_iret (pc := 63) (st := []) hX hr (by first | rfl | exact bI_nar _ | decide +kernel) dX3_findPair_63 (⟨by rw [fpF, if_neg (fun q => q.elim (of_decide_eq_false h5) (of_decide_eq_false h13)), if_pos h30, if_neg (fun q => absurd (h43.symm.trans q.1) (by decide))], rfl⟩)
        · refine V_aload_n (pc := 46) (i := 0) hX dX3_findPair_46 rfl rfl ?_
          refine V_iload_n (pc := 47) (i := 3) hX dX3_findPair_47 rfl rfl ?_
          refine V_iload (pc := 48) (i := 4) hX dX3_findPair_48 rfl ?_
          refine V_iload (pc := 50) (i := 5) hX dX3_findPair_50 rfl ?_
          refine V_callVi (pc := 52) hX (hR.mono (by omega)) mX3_27 (c_isRow _ _ _ _ hb) dX3_findPair_52 rfl rfl rfl rfl (Nat.le_of_ble_eq_true rfl) ?_
          refine V_if_eqB (pc := 55) (tgt := 62) hX dX3_findPair_55 (by decide) (fun h55 => ?_) (fun h55 => ?_)
          · refine V_iconst (pc := 62) (v := (nI 2)) hX dX3_findPair_62 (by decide +kernel) ?_
            exact V_iret (pc := 63) (st := []) hX hr (by first | rfl | exact bI_nar _ | decide +kernel) dX3_findPair_63 (⟨by rw [fpF, if_neg (fun q => q.elim (of_decide_eq_false h5) (of_decide_eq_false h13)), if_pos h30, if_neg (fun q => absurd (h55.symm.trans q.2) (by decide))], rfl⟩)
          · refine V_iconst (pc := 58) (v := (nI 0)) hX dX3_findPair_58 (by decide +kernel) ?_
            refine V_goto (pc := 59) (tgt := 63) hX dX3_findPair_59 (by decide) ?_
            exact V_iret (pc := 63) (st := []) hX hr (by first | rfl | exact bI_nar _ | decide +kernel) dX3_findPair_63 (⟨by rw [fpF, if_neg (fun q => q.elim (of_decide_eq_false h5) (of_decide_eq_false h13)), if_pos h30, if_pos ⟨h43, h55⟩], rfl⟩)
      · refine V_iconst (pc := 33) (v := (nI 5)) hX dX3_findPair_33 (by decide +kernel) ?_
        exact V_iret (pc := 34) (st := []) hX hr (by first | rfl | exact bI_nar _ | decide +kernel) dX3_findPair_34 (⟨by rw [fpF, if_neg (fun q => q.elim (of_decide_eq_false h5) (of_decide_eq_false h13)), if_neg h30], rfl⟩)
    · refine V_iconst (pc := 16) (v := (nI 1)) hX dX3_findPair_16 (by decide +kernel) ?_
      exact V_iret (pc := 17) (st := []) hX hr (by first | rfl | exact bI_nar _ | decide +kernel) dX3_findPair_17 (⟨by rw [fpF, if_pos (Or.inr (of_decide_eq_true h13))], rfl⟩)
/-- the row of a sheet, its first k items 0 -/
def clrf (f : Nat → Int32) (k : Nat) : Nat → Int32 := fun i => if i < k then nI 0 else f i
theorem clrf_0 (f : Nat → Int32) : clrf f 0 = f := by funext i; simp [clrf]
theorem clrf_s (f : Nat → Int32) (k : Nat) : upd (clrf f k) k (nI 0) = clrf f (k + 1) := by
  funext i
  simp only [upd, clrf]
  by_cases h : i = k
  · subst h; simp
  · by_cases h2 : i < k
    · simp [h, h2, Nat.lt_succ_of_lt h2]
    · simp [h, h2, show ¬ i < k + 1 by omega]
theorem mf_id (σ : Mem) (p : Nat) : mf σ p (σ p) = σ := by
  funext q j
  simp only [mf]
  split
  · rename_i h; rw [h]
  · rfl
theorem mf_mu (σ : Mem) (p i : Nat) (g : Nat → Int32) (v : Int32) : mu (mf σ p g) p i v = mf σ p (upd g i v) := by
  funext q j
  simp only [mu, mf, upd]
  by_cases h : q = p <;> by_cases h2 : j = i <;> simp [h, h2, upd]
theorem mf_at (σ : Mem) (p : Nat) (g : Nat → Int32) (q : Nat) : mf σ p g q = if q = p then g else σ q := rfl
set_option maxRecDepth 100000 in
set_option maxHeartbeats 4000000 in
theorem l_lay {s n : Nat} {x : Int32} {X : XC} {P : Option Value → Mem → Prop} {σ : Mem} (hX : Cok X RX3 cX3_lay 5) (hR : Rok X 0) (hr : Ret X (some .int) P) (hs : s < 8) (hn : n ≤ 60) (kk : Vw X 25 [some (.ref 1), some (.int (nI s)), some (.int x), some (.int (nI n)), some (.int (nI n))] [] (mf σ (7 + s) (clrf (σ (7 + s)) n))) (k : Nat) (hk : k ≤ n) :
    Vw X 3 [some (.ref 1), some (.int (nI s)), some (.int x), some (.int (nI n)), some (.int (nI k))] [] (mf σ (7 + s) (clrf (σ (7 + s)) k)) := by
  refine V_iload (pc := 3) (i := 4) hX dX3_lay_3 rfl ?_
  refine V_iload_n (pc := 5) (i := 3) hX dX3_lay_5 rfl rfl ?_
  refine V_icmp_geN (pc := 6) (tgt := 25) hX dX3_lay_6 (by decide) (by omega) (by omega) (fun h6 => ?_) (fun h6 => ?_)
  · obtain rfl : k = n := by omega
    exact kk
  · refine V_aload_n (pc := 9) (i := 0) hX dX3_lay_9 rfl rfl ?_
    refine V_getr (pc := 10) hX fX3_11 dX3_lay_10 rfl rfl ?_
    refine V_iload_n (pc := 13) (i := 1) hX dX3_lay_13 rfl rfl ?_
    refine V_aald (pc := 14) hX dX3_lay_14 (rfl) (rfl) (by omega) (by decide) ?_
    refine V_iload (pc := 15) (i := 4) hX dX3_lay_15 rfl ?_
    refine V_iconst (pc := 17) (v := (nI 0)) hX dX3_lay_17 (by decide +kernel) ?_
    refine V_iast (pc := 18) hX dX3_lay_18 (shp_items hs) (rfl) (by omega) (by decide) ?_
    refine V_iinc4 (pc := 19) hX dX3_lay_19 rfl (iinc1 _) ?_
    refine V_goto (pc := 22) (tgt := 3) hX dX3_lay_22 (by decide) ?_
    have ih := l_lay hX hR hr hs hn kk (k + 1) (by omega)
    rw [mf_mu, clrf_s]
    exact ih
termination_by n - k
def layM (σ : Mem) (s : Nat) (lane : Int32) (n : Nat) : Mem := mu (mu (mf σ (7 + s) (clrf (σ (7 + s)) n)) 15 s lane) 16 s (nI n)
set_option maxRecDepth 100000 in
set_option maxHeartbeats 4000000 in
theorem c_lay (s n : Nat) (lane : Int32) (σ : Mem) (hs : s < 8) (hn : n ≤ 60) : Cc yX3_lay cX3_lay 5 (some .int) 0 [.ref 1, .int (nI s), .int lane, .int (nI n)] σ (rI (nI n) (layM σ s lane n)) := by
  refine Cc.intro (by decide +kernel) [some (.ref 1), some (.int (nI s)), some (.int lane), some (.int (nI n)), none] (fun _ => rfl) rfl (fun _ => Nat.le_of_ble_eq_true rfl) ?_
  intro X hX hR hr
  have k25 : Vw X 25 [some (.ref 1), some (.int (nI s)), some (.int lane), some (.int (nI n)), some (.int (nI n))] [] (mf σ (7 + s) (clrf (σ (7 + s)) n)) := by
    refine V_aload_n (pc := 25) (i := 0) hX dX3_lay_25 rfl rfl ?_
    refine V_getr (pc := 26) hX fX3_16 dX3_lay_26 rfl rfl ?_
    refine V_iload_n (pc := 29) (i := 1) hX dX3_lay_29 rfl rfl ?_
    refine V_iload_n (pc := 30) (i := 2) hX dX3_lay_30 rfl rfl ?_
    refine V_iast (pc := 31) hX dX3_lay_31 (rfl) (rfl) (by omega) (by decide) ?_
    refine V_aload_n (pc := 32) (i := 0) hX dX3_lay_32 rfl rfl ?_
    refine V_getr (pc := 33) hX fX3_20 dX3_lay_33 rfl rfl ?_
    refine V_iload_n (pc := 36) (i := 1) hX dX3_lay_36 rfl rfl ?_
    refine V_iload_n (pc := 37) (i := 3) hX dX3_lay_37 rfl rfl ?_
    refine V_iast (pc := 38) hX dX3_lay_38 (rfl) (rfl) (by omega) (by decide) ?_
    refine V_iload_n (pc := 39) (i := 3) hX dX3_lay_39 rfl rfl ?_
    exact V_iret (pc := 40) (st := []) hX hr (by first | rfl | exact bI_nar _ | decide +kernel) dX3_lay_40 (⟨rfl, rfl⟩)
  refine V_iconst (pc := 0) (v := (nI 0)) hX dX3_lay_0 (by decide +kernel) ?_
  refine V_istore4 (pc := 1) hX dX3_lay_1 rfl ?_
  refine Vw.mem (show mf σ (7 + s) (clrf (σ (7 + s)) 0) = σ by rw [clrf_0, mf_id]) ?_
  exact l_lay hX hR hr hs hn k25 0 (by omega)
def fitF (lane v : Int32) : Int32 := if lane = nI 0 then v.toInt8.toInt32 else if lane = nI 1 then v.toInt16.toInt32 else v
set_option maxRecDepth 100000 in
set_option maxHeartbeats 4000000 in
theorem c_fit (l v : Int32) (σ : Mem) : Cc yX3_fit cX3_fit 2 (some .int) 0 [.int l, .int v] σ (rI (fitF l v) σ) := by
  refine Cc.intro (by decide +kernel) [some (.int l), some (.int v)] (fun _ => rfl) rfl (fun _ => Nat.le_of_ble_eq_true rfl) ?_
  intro X hX hR hr
  refine V_iload_n (pc := 0) (i := 0) hX dX3_fit_0 rfl rfl ?_
  rcases Classical.em (l = nI 0) with e1_0 | e1_0
  · refine V_lookup (pc := 1) (off := 27) (tgt := 28) hX dX3_fit_1 (by decide) (by rw [e1_0]; decide +kernel) (by decide) ?_
    refine V_iload_n (pc := 28) (i := 1) hX dX3_fit_28 rfl rfl ?_
    refine V_i2b (pc := 29) hX dX3_fit_29 ?_
    exact V_iret (pc := 30) (st := []) hX hr (by first | rfl | exact bI_nar _ | decide +kernel) dX3_fit_30 (⟨by rw [fitF, if_pos e1_0], rfl⟩)
  · skip
    rcases Classical.em (l = nI 1) with e1_1 | e1_1
    · refine V_lookup (pc := 1) (off := 30) (tgt := 31) hX dX3_fit_1 (by decide) (by rw [e1_1]; decide +kernel) (by decide) ?_
      refine V_iload_n (pc := 31) (i := 1) hX dX3_fit_31 rfl rfl ?_
      refine V_i2s (pc := 32) hX dX3_fit_32 ?_
      exact V_iret (pc := 33) (st := []) hX hr (by first | rfl | exact bI_nar _ | decide +kernel) dX3_fit_33 (⟨by rw [fitF, if_neg e1_0, if_pos e1_1], rfl⟩)
    · skip
      refine V_lookup (pc := 1) (off := 33) (tgt := 34) hX dX3_fit_1 (by decide) (by show Op.lookupswitch.offset [(0, 27), (1, 30)] _ _ = _; rw [lv_osw e1_0 (by decide +kernel), lv_osw e1_1 (by decide +kernel)]; rfl) (by decide) ?_
      refine V_iload_n (pc := 34) (i := 1) hX dX3_fit_34 rfl rfl ?_
      exact V_iret (pc := 35) (st := []) hX hr (by first | rfl | exact bI_nar _ | decide +kernel) dX3_fit_35 (⟨by rw [fitF, if_neg e1_0, if_neg e1_1], rfl⟩)
set_option maxRecDepth 100000 in
set_option maxHeartbeats 4000000 in
theorem c_put (s i : Nat) (v : Int32) (σ : Mem) (hs : s < 8) (hi : i < 60) : Cc yX3_put cX3_put 4 (some .int) 1 [.ref 1, .int (nI s), .int (nI i), .int v] σ (rI (fitF (σ 15 s) v) (mu σ (7 + s) i (fitF (σ 15 s) v))) := by
  refine Cc.intro (by decide +kernel) [some (.ref 1), some (.int (nI s)), some (.int (nI i)), some (.int v)] (fun _ => rfl) rfl (fun _ => Nat.le_of_ble_eq_true rfl) ?_
  intro X hX hR hr
  refine V_aload_n (pc := 0) (i := 0) hX dX3_put_0 rfl rfl ?_
  refine V_getr (pc := 1) hX fX3_11 dX3_put_1 rfl rfl ?_
  refine V_iload_n (pc := 4) (i := 1) hX dX3_put_4 rfl rfl ?_
  refine V_aald (pc := 5) hX dX3_put_5 (rfl) (rfl) (by omega) (by decide) ?_
  refine V_iload_n (pc := 6) (i := 2) hX dX3_put_6 rfl rfl ?_
  refine V_aload_n (pc := 7) (i := 0) hX dX3_put_7 rfl rfl ?_
  refine V_getr (pc := 8) hX fX3_16 dX3_put_8 rfl rfl ?_
  refine V_iload_n (pc := 11) (i := 1) hX dX3_put_11 rfl rfl ?_
  refine V_iald (pc := 12) hX dX3_put_12 (rfl) (rfl) (by omega) (by decide) ?_
  refine V_iload_n (pc := 13) (i := 3) hX dX3_put_13 rfl rfl ?_
  refine V_callSi (pc := 14) hX (hR.mono (by omega)) mX3_31 (c_fit _ _ _) dX3_put_14 rfl rfl rfl (Nat.le_of_ble_eq_true rfl) ?_
  refine V_iast (pc := 17) hX dX3_put_17 (shp_items hs) (rfl) (by omega) (by decide) ?_
  refine V_aload_n (pc := 18) (i := 0) hX dX3_put_18 rfl rfl ?_
  refine V_getr (pc := 19) hX fX3_11 dX3_put_19 rfl rfl ?_
  refine V_iload_n (pc := 22) (i := 1) hX dX3_put_22 rfl rfl ?_
  refine V_aald (pc := 23) hX dX3_put_23 (rfl) (rfl) (by omega) (by decide) ?_
  refine V_iload_n (pc := 24) (i := 2) hX dX3_put_24 rfl rfl ?_
  refine V_iald (pc := 25) hX dX3_put_25 (shp_items hs) (rfl) (by omega) (by decide) ?_
  exact V_iret (pc := 26) (st := []) hX hr (by first | rfl | exact bI_nar _ | decide +kernel) dX3_put_26 (⟨by rw [mu_at], rfl⟩)
set_option maxRecDepth 100000 in
set_option maxHeartbeats 4000000 in
theorem c_item (s i : Nat) (σ : Mem) (hs : s < 8) (hi : i < 60) : Cc yX3_item cX3_item 3 (some .int) 0 [.ref 1, .int (nI s), .int (nI i)] σ (rI (σ (7 + s) i) σ) := by
  refine Cc.intro (by decide +kernel) [some (.ref 1), some (.int (nI s)), some (.int (nI i))] (fun _ => rfl) rfl (fun _ => Nat.le_of_ble_eq_true rfl) ?_
  intro X hX hR hr
  refine V_aload_n (pc := 0) (i := 0) hX dX3_item_0 rfl rfl ?_
  refine V_getr (pc := 1) hX fX3_11 dX3_item_1 rfl rfl ?_
  refine V_iload_n (pc := 4) (i := 1) hX dX3_item_4 rfl rfl ?_
  refine V_aald (pc := 5) hX dX3_item_5 (rfl) (rfl) (by omega) (by decide) ?_
  refine V_iload_n (pc := 6) (i := 2) hX dX3_item_6 rfl rfl ?_
  refine V_iald (pc := 7) hX dX3_item_7 (shp_items hs) (rfl) (by omega) (by decide) ?_
  exact V_iret (pc := 8) (st := []) hX hr (by first | rfl | exact bI_nar _ | decide +kernel) dX3_item_8 (⟨rfl, rfl⟩)
set_option maxRecDepth 100000 in
set_option maxHeartbeats 4000000 in
theorem c_remove (s : Nat) (σ : Mem) (hs : s < 8) : Cc yX3_remove cX3_remove 3 (some .int) 0 [.ref 1, .int (nI s)] σ (rI (σ 16 s) (mu σ 16 s (-1))) := by
  refine Cc.intro (by decide +kernel) [some (.ref 1), some (.int (nI s)), none] (fun _ => rfl) rfl (fun _ => Nat.le_of_ble_eq_true rfl) ?_
  intro X hX hR hr
  refine V_aload_n (pc := 0) (i := 0) hX dX3_remove_0 rfl rfl ?_
  refine V_getr (pc := 1) hX fX3_20 dX3_remove_1 rfl rfl ?_
  refine V_iload_n (pc := 4) (i := 1) hX dX3_remove_4 rfl rfl ?_
  refine V_iald (pc := 5) hX dX3_remove_5 (rfl) (rfl) (by omega) (by decide) ?_
  refine V_istore2 (pc := 6) hX dX3_remove_6 rfl ?_
  refine V_aload_n (pc := 7) (i := 0) hX dX3_remove_7 rfl rfl ?_
  refine V_getr (pc := 8) hX fX3_20 dX3_remove_8 rfl rfl ?_
  refine V_iload_n (pc := 11) (i := 1) hX dX3_remove_11 rfl rfl ?_
  refine V_iconst (pc := 12) (v := (-1)) hX dX3_remove_12 (by decide +kernel) ?_
  refine V_iast (pc := 13) hX dX3_remove_13 (rfl) (rfl) (by omega) (by decide) ?_
  refine V_iload_n (pc := 14) (i := 2) hX dX3_remove_14 rfl rfl ?_
  exact V_iret (pc := 15) (st := []) hX hr (by first | rfl | exact bI_nar _ | decide +kernel) dX3_remove_15 (⟨rfl, rfl⟩)
def presf (sz : Nat → Int32) : Nat → Nat
  | 0 => 0
  | k + 1 => if sz k = (-1) then presf sz k else presf sz k + 1
set_option maxRecDepth 100000 in
set_option maxHeartbeats 4000000 in
theorem l_present {X : XC} {P : Option Value → Mem → Prop} {σ : Mem} (hX : Cok X RX3 cX3_present 3) (hR : Rok X 1) (hr : Ret X (some .int) P) (hp : P (some (.int (nI (presf (σ 16) 8)))) σ) (k : Nat) (hk : k ≤ 8) : Vw X 4 [some (.ref 1), some (.int (nI (presf (σ 16) k))), some (.int (nI k))] [] σ := by
  refine V_iload_n (pc := 4) (i := 2) hX dX3_present_4 rfl rfl ?_
  refine V_bipush (pc := 5) (v := (nI 8)) hX dX3_present_5 (by decide +kernel) ?_
  refine V_icmp_geN (pc := 7) (tgt := 27) hX dX3_present_7 (by decide) (by omega) (by omega) (fun h7 => ?_) (fun h7 => ?_)
  · obtain rfl : k = 8 := by omega
    refine V_iload_n (pc := 27) (i := 1) hX dX3_present_27 rfl rfl ?_
    exact V_iret (pc := 28) (st := []) hX hr (by first | rfl | exact bI_nar _ | decide +kernel) dX3_present_28 (hp)
  · refine V_aload_n (pc := 10) (i := 0) hX dX3_present_10 rfl rfl ?_
    refine V_iload_n (pc := 11) (i := 2) hX dX3_present_11 rfl rfl ?_
    refine V_callVi (pc := 12) hX (hR.mono (by omega)) mX3_23 (c_isMissing _ _ (by omega)) dX3_present_12 rfl rfl rfl rfl (Nat.le_of_ble_eq_true rfl) ?_
    refine V_if_neB (pc := 15) (tgt := 21) hX dX3_present_15 (by decide) (fun h15 => ?_) (fun h15 => ?_)
    · refine V_iinc2 (pc := 21) hX dX3_present_21 rfl (iinc1 _) ?_
      refine V_goto (pc := 24) (tgt := 4) hX dX3_present_24 (by decide) ?_
      have ih := l_present hX hR hr hp (k + 1) (by omega)
      rw [presf, if_pos (of_decide_eq_true h15)] at ih
      exact ih
    · refine V_iinc1 (pc := 18) hX dX3_present_18 rfl (iinc1 _) ?_
      refine V_iinc2 (pc := 21) hX dX3_present_21 rfl (iinc1 _) ?_
      refine V_goto (pc := 24) (tgt := 4) hX dX3_present_24 (by decide) ?_
      have ih := l_present hX hR hr hp (k + 1) (by omega)
      rw [presf, if_neg (of_decide_eq_false h15)] at ih
      exact ih
termination_by 8 - k
set_option maxRecDepth 100000 in
set_option maxHeartbeats 4000000 in
theorem c_present (σ : Mem) : Cc yX3_present cX3_present 3 (some .int) 1 [.ref 1] σ (rI (nI (presf (σ 16) 8)) σ) := by
  refine Cc.intro (by decide +kernel) [some (.ref 1), none, none] (fun _ => rfl) rfl (fun _ => Nat.le_of_ble_eq_true rfl) ?_
  intro X hX hR hr
  refine V_iconst (pc := 0) (v := (nI 0)) hX dX3_present_0 (by decide +kernel) ?_
  refine V_istore1 (pc := 1) hX dX3_present_1 rfl ?_
  refine V_iconst (pc := 2) (v := (nI 0)) hX dX3_present_2 (by decide +kernel) ?_
  refine V_istore2 (pc := 3) hX dX3_present_3 rfl ?_
  exact l_present hX hR hr ⟨rfl, rfl⟩ 0 (by omega)
end
section
theorem lw_ac_na : Cond.native arraycopyName ∈ lw_w := lw_mem 309 (by decide +kernel) (by decide +kernel)
theorem lw_ac_st : Cond.static arraycopyName ∈ lw_w := lw_mem 308 (by decide +kernel) (by decide +kernel)
theorem lw_ac_in : Cond.initialized "java/lang/System" ∈ lw_w := lw_mem 56 (by decide +kernel) (by decide +kernel)
theorem lw_ac_fw : nativeFrameWords "java/lang/System" "arraycopy" 5 ≤ 21 := by decide +kernel
theorem V_copyi {X : XC} {own : String} {cc : ByteArray} {nL pc : Nat} {ls : List (Option Value)} {st : List Value} {σ : Mem} {index a0 a1 n0 n1 sp dp n : Nat} (hX : Cok X own cc nL) (hR : Rok X 1) (hw : Cond.methodLink own index arraycopyName ∈ lw_w) (hd : decode cc pc = .ok (.invokestatic index, 3)) (hs0 : shp[a0]? = some (.inr (.inl (0, n0)))) (hs1 : shp[a1]? = some (.inr (.inl (0, n1)))) (h0 : sp + n ≤ n0) (h1 : dp + n ≤ n1) (hn0 : n0 < 2 ^ 31) (hn1 : n1 < 2 ^ 31) (hnl : ls.length = nL) (hcat : csum st ≤ 8)
    (kk : Vw X (pc + 3) ls st (mf σ a1 (va_cpy (σ a0) (σ a1) sp dp n))) : Vw X pc ls (.int (nI n) :: .int (nI dp) :: .ref a1 :: .int (nI sp) :: .ref a0 :: st) σ := by
  obtain ⟨p, l, e, R, s, m, args, below, meth, c, cells, slots, Q, A, D, ad, cs, H0⟩ := X
  intro H locs lsA hP hS hl
  obtain ⟨hx, hb, hml, hown, hts, hK, hinj, hA, hcl, hsl⟩ := hX
  have he0 := wl_at (ad := ad) (cs := cs) (σ := σ) hs0
  have he1 := wl_at (ad := ad) (cs := cs) (σ := σ) hs1
  have csp : (nI sp).toNatClampNeg = sp := nI_clamp (by omega)
  have cdp : (nI dp).toNatClampNeg = dp := nI_clamp (by omega)
  have cn : (nI n).toNatClampNeg = n := nI_clamp (by omega)
  have hset : (wl ad cs σ 0 shp).set a1 (ad a1, .inl (cs 0, n1, .inl (va_cpy (σ a0) (σ a1) (nI sp).toNatClampNeg (nI dp).toNatClampNeg (nI n).toNatClampNeg))) = wl ad cs (mf σ a1 (va_cpy (σ a0) (σ a1) sp dp n)) 0 shp := wl_set hs1 (fun q hq => mf_ne hq) (by rw [csp, cdp, cn]; simp only [ent, mf_row])
  refine va_copyi hx hb (by rw [hml, ← hnl]; exact hl.1.symm) hown (hts _ hw) (hts _ lw_ac_na) (hts _ lw_ac_st) (hts _ lw_ac_in) hK hP (wl_D hinj hA) hS a0 a1 0 0 he0 he1 rfl rfl rfl (nI_pos (by omega)) (nI_pos (by omega)) (nI_pos (by omega)) (by rw [csp, cn]; exact h0) (by rw [cdp, cn]; exact h1) (fun _ _ => rfl) hR.1 (by rw [csum_map]; have := hR.2; have := lw_ac_fw; omega) hd (fun H1 locs1 hP1 _ hS1 => kk H1 locs1 lsA (by rw [← hset]; exact hP1) hS1 hl)
end
section
set_option maxRecDepth 100000 in
set_option maxHeartbeats 4000000 in
theorem c_move (a b i j n : Nat) (σ : Mem) (ha : a < 8) (hb : b < 8) (h0 : i + n ≤ 60) (h1 : j + n ≤ 60) : Cc yX3_move cX3_move 6 (some .int) 1 [.ref 1, .int (nI a), .int (nI i), .int (nI b), .int (nI j), .int (nI n)] σ (rI (nI n) (mf σ (7 + b) (va_cpy (σ (7 + a)) (σ (7 + b)) i j n))) := by
  refine Cc.intro (by decide +kernel) [some (.ref 1), some (.int (nI a)), some (.int (nI i)), some (.int (nI b)), some (.int (nI j)), some (.int (nI n))] (fun _ => rfl) rfl (fun _ => Nat.le_of_ble_eq_true rfl) ?_
  intro X hX hR hr
  refine V_aload_n (pc := 0) (i := 0) hX dX3_move_0 rfl rfl ?_
  refine V_getr (pc := 1) hX fX3_11 dX3_move_1 rfl rfl ?_
  refine V_iload_n (pc := 4) (i := 1) hX dX3_move_4 rfl rfl ?_
  refine V_aald (pc := 5) hX dX3_move_5 (rfl) (rfl) (by omega) (by decide) ?_
  refine V_iload_n (pc := 6) (i := 2) hX dX3_move_6 rfl rfl ?_
  refine V_aload_n (pc := 7) (i := 0) hX dX3_move_7 rfl rfl ?_
  refine V_getr (pc := 8) hX fX3_11 dX3_move_8 rfl rfl ?_
  refine V_iload_n (pc := 11) (i := 3) hX dX3_move_11 rfl rfl ?_
  refine V_aald (pc := 12) hX dX3_move_12 (rfl) (rfl) (by omega) (by decide) ?_
  refine V_iload (pc := 13) (i := 4) hX dX3_move_13 rfl ?_
  refine V_iload (pc := 15) (i := 5) hX dX3_move_15 rfl ?_
  refine V_copyi (pc := 17) hX hR mX3_35 dX3_move_17 (shp_items ha) (shp_items hb) h0 h1 (by decide) (by decide) rfl (Nat.le_of_ble_eq_true rfl) ?_
  refine V_iload (pc := 20) (i := 5) hX dX3_move_20 rfl ?_
  exact V_iret (pc := 22) (st := []) hX hr (by first | rfl | exact bI_nar _ | decide +kernel) dX3_move_22 (⟨rfl, rfl⟩)
theorem nI_of60 {m : Int32} (h0 : ¬ m < 0) (h : m ≤ nI 60) : ∃ j : Nat, j ≤ 60 ∧ m = nI j := nI_of2 (nI_toInt (by decide)) h0 h
/-- a sheet's size is told by a number, or it is missing -/
def szok (σ : Mem) : Prop := ∀ s, s < 8 → σ 16 s = (-1) ∨ ∃ m : Nat, m ≤ 60 ∧ σ 16 s = nI m
def rowM (sz i n : Int32) : Bool := decide (0 ≤ i.toInt ∧ 0 ≤ n.toInt ∧ i.toInt + n.toInt ≤ sz.toInt)
theorem rowF_eq {i n : Int32} {m : Nat} (hm : m ≤ 60) : rowF (nI m) i n = rowM (nI m) i n := by
  unfold rowF rowM
  rw [decide_eq_decide]
  have e := nI_toInt (n := m) (by omega)
  by_cases h : 0 ≤ n.toInt
  · have b1 := Int32.toInt_lt n
    have b2 := Int32.le_toInt n
    have hs : (nI m - n).toInt = (m : Int) - n.toInt := by
      rw [Int32.toInt_sub, e]
      exact Int.bmod_eq_of_le (by omega) (by omega)
    simp only [Int32.le_iff_toInt_le, hs, e, Int32.toInt_zero]
    omega
  · simp only [Int32.le_iff_toInt_le, Int32.toInt_zero]
    omega
theorem rowM_of {m : Nat} {i n : Int32} (hm : m ≤ 60) (h : rowM (nI m) i n = true) : ∃ i' n' : Nat, i = nI i' ∧ n = nI n' ∧ i' + n' ≤ m := by
  have h1 := of_decide_eq_true h
  rw [nI_toInt (by omega)] at h1
  exact ⟨i.toInt.toNat, n.toInt.toNat, nI_of_toInt (by omega) (by omega), nI_of_toInt (by omega) (by omega), by omega⟩
theorem fiF_0 {sz i n : Int32} (h : fiF sz i n = 0) : ¬ sz = (-1) ∧ rowF sz i n = true := by
  unfold fiF at h
  by_cases h1 : sz = (-1)
  · rw [if_pos h1] at h; exact absurd h (by decide +kernel)
  · rw [if_neg h1] at h
    cases h2 : rowF sz i n
    · rw [h2] at h; exact absurd h (by decide +kernel)
    · exact ⟨h1, rfl⟩
theorem fpF_0 {sa sb la lb i j n : Int32} (h : fpF sa sb la lb i j n = 0) : (¬ sa = (-1) ∧ ¬ sb = (-1)) ∧ la = lb ∧ rowF sa i n = true ∧ rowF sb j n = true := by
  unfold fpF at h
  by_cases h1 : sa = (-1) ∨ sb = (-1)
  · rw [if_pos h1] at h; exact absurd h (by decide +kernel)
  · rw [if_neg h1] at h
    by_cases h2 : la = lb
    · rw [if_pos h2] at h
      by_cases h3 : rowF sa i n = true ∧ rowF sb j n = true
      · exact ⟨⟨fun q => h1 (Or.inl q), fun q => h1 (Or.inr q)⟩, h2, h3.1, h3.2⟩
      · rw [if_neg h3] at h; exact absurd h (by decide +kernel)
    · rw [if_neg h2] at h; exact absurd h (by decide +kernel)
theorem sz_row {σ : Mem} (hz : szok σ) {s : Nat} (hs : s < 8) {i n : Int32} (h1 : ¬ σ 16 s = (-1)) (h2 : rowF (σ 16 s) i n = true) : ∃ m i' n' : Nat, m ≤ 60 ∧ σ 16 s = nI m ∧ i = nI i' ∧ n = nI n' ∧ i' + n' ≤ m := by
  rcases hz s hs with h | ⟨m, hm, e⟩
  · exact absurd h h1
  · rw [e, rowF_eq hm] at h2
    obtain ⟨i', n', a, b, c⟩ := rowM_of hm h2
    exact ⟨m, i', n', hm, e, a, b, c⟩
def shOK (x l m : Int32) : Bool := inr x 8 && inr l 3 && decide (m ≤ nI 60)
def sheetF (x l m : Int32) : Int32 := if shOK x l m then (if m < 0 then (-1000014) else m) else (-1000001)
def sheetM (σ : Mem) (x l m : Int32) : Mem := if shOK x l m then (if m < 0 then mu σ 0 5 (nI 4) else layM (mu σ 0 5 (nI 0)) (tn x) l (tn m)) else σ
set_option maxRecDepth 100000 in
set_option maxHeartbeats 4000000 in
theorem c_sheet (x l m : Int32) (σ : Mem) : Cc yX5_sheet cX5_sheet 4 (some .int) 1 [.ref 0, .int x, .int l, .int m] σ (rI (sheetF x l m) (sheetM σ x l m)) := by
  refine Cc.intro (by decide +kernel) [some (.ref 0), some (.int x), some (.int l), some (.int m)] (fun _ => rfl) rfl (fun _ => Nat.le_of_ble_eq_true rfl) ?_
  intro X hX hR hr
  refine V_iload_n (pc := 0) (i := 1) hX dX5_sheet_0 rfl rfl ?_
  refine V_bipush (pc := 1) (v := (nI 8)) hX dX5_sheet_1 (by decide +kernel) ?_
  refine V_callSi (pc := 3) hX (hR.mono (by omega)) mX5_48 (c_isUnderN x 8 (by decide) _) dX5_sheet_3 rfl rfl rfl (Nat.le_of_ble_eq_true rfl) ?_
  refine V_if_eqB (pc := 6) (tgt := 23) hX dX5_sheet_6 (by decide) (fun h6 => ?_) (fun h6 => ?_)
  · refine V_ldc (pc := 23) hX kX5_52 dX5_sheet_23 ?_
    exact V_iret (pc := 25) (st := []) hX hr (by first | rfl | exact bI_nar _ | decide +kernel) dX5_sheet_25 (⟨by rw [sheetF, shOK, h6]; rfl, by rw [sheetM, shOK, h6]; rfl⟩)
  · refine V_iload_n (pc := 9) (i := 2) hX dX5_sheet_9 rfl rfl ?_
    refine V_iconst (pc := 10) (v := (nI 3)) hX dX5_sheet_10 (by decide +kernel) ?_
    refine V_callSi (pc := 11) hX (hR.mono (by omega)) mX5_48 (c_isUnderN l 3 (by decide) _) dX5_sheet_11 rfl rfl rfl (Nat.le_of_ble_eq_true rfl) ?_
    refine V_if_eqB (pc := 14) (tgt := 23) hX dX5_sheet_14 (by decide) (fun h14 => ?_) (fun h14 => ?_)
    · refine V_ldc (pc := 23) hX kX5_52 dX5_sheet_23 ?_
      exact V_iret (pc := 25) (st := []) hX hr (by first | rfl | exact bI_nar _ | decide +kernel) dX5_sheet_25 (⟨by rw [sheetF, shOK, h6, h14]; rfl, by rw [sheetM, shOK, h6, h14]; rfl⟩)
    · refine V_iload_n (pc := 17) (i := 3) hX dX5_sheet_17 rfl rfl ?_
      refine V_bipush (pc := 18) (v := (nI 60)) hX dX5_sheet_18 (by decide +kernel) ?_
      refine V_icmp_le (pc := 20) (tgt := 26) hX dX5_sheet_20 (by decide) (fun h20 => ?_) (fun h20 => ?_)
      · obtain ⟨s, hs, rfl⟩ := inr_of h6 (by decide)
        refine V_aload_n (pc := 26) (i := 0) hX dX5_sheet_26 rfl rfl ?_
        refine V_iload_n (pc := 27) (i := 3) hX dX5_sheet_27 rfl rfl ?_
        refine V_if_ge (pc := 28) (tgt := 35) hX dX5_sheet_28 (by decide) (fun h28 => ?_) (fun h28 => ?_)
        · obtain ⟨j, hj, rfl⟩ := nI_of60 (Int32.not_lt.mpr h28) h20
          refine V_iconst (pc := 35) (v := (nI 0)) hX dX5_sheet_35 (by decide +kernel) ?_
          refine V_putf (pc := 36) hX fX5_44 gi5_5 dX5_sheet_36 rfl rfl ?_
          refine V_aload_n (pc := 39) (i := 0) hX dX5_sheet_39 rfl rfl ?_
          refine V_getf (pc := 40) hX fX5_44 dX5_sheet_40 rfl rfl ?_
          rw [mu_at]
          refine V_if_ne (pc := 43) (tgt := 59) hX dX5_sheet_43 (by decide) (fun h43 => absurd h43 (by intro q; exact q (by decide +kernel))) (fun h43 => ?_)
          refine V_aload_n (pc := 46) (i := 0) hX dX5_sheet_46 rfl rfl ?_
          refine V_getr (pc := 47) hX fX5_10 dX5_sheet_47 rfl rfl ?_
          refine V_iload_n (pc := 50) (i := 1) hX dX5_sheet_50 rfl rfl ?_
          refine V_iload_n (pc := 51) (i := 2) hX dX5_sheet_51 rfl rfl ?_
          refine V_iload_n (pc := 52) (i := 3) hX dX5_sheet_52 rfl rfl ?_
          refine V_callVi (pc := 53) hX (hR.mono (by omega)) mX5_53 (c_lay _ _ _ _ hs hj) dX5_sheet_53 rfl rfl rfl rfl (Nat.le_of_ble_eq_true rfl) ?_
          refine V_goto (pc := 56) (tgt := 66) hX dX5_sheet_56 (by decide) ?_
          exact V_iret (pc := 66) (st := []) hX hr (by first | rfl | exact bI_nar _ | decide +kernel) dX5_sheet_66 (⟨by rw [sheetF, shOK, h6, h14, decide_eq_true h20, Bool.true_and, Bool.true_and, if_pos rfl, if_neg (Int32.not_lt.mpr h28)], by rw [sheetM, shOK, h6, h14, decide_eq_true h20, Bool.true_and, Bool.true_and, if_pos rfl, if_neg (Int32.not_lt.mpr h28), tn_nI (by omega), tn_nI (by omega)]⟩)
        · refine V_iconst (pc := 31) (v := (nI 4)) hX dX5_sheet_31 (by decide +kernel) ?_
          refine V_goto (pc := 32) (tgt := 36) hX dX5_sheet_32 (by decide) ?_
          refine V_putf (pc := 36) hX fX5_44 gi5_5 dX5_sheet_36 rfl rfl ?_
          refine V_aload_n (pc := 39) (i := 0) hX dX5_sheet_39 rfl rfl ?_
          refine V_getf (pc := 40) hX fX5_44 dX5_sheet_40 rfl rfl ?_
          rw [mu_at]
          refine V_if_ne (pc := 43) (tgt := 59) hX dX5_sheet_43 (by decide) (fun _ => ?_) (fun h => absurd h (by decide +kernel))
          refine V_ldc (pc := 59) hX kX5_57 dX5_sheet_59 ?_
          refine V_aload_n (pc := 61) (i := 0) hX dX5_sheet_61 rfl rfl ?_
          refine V_getf (pc := 62) hX fX5_44 dX5_sheet_62 rfl rfl ?_
          rw [mu_at]
          refine V_isub (pc := 65) hX dX5_sheet_65 ?_
          exact V_iret (pc := 66) (st := []) hX hr rfl dX5_sheet_66 ⟨by rw [sheetF, shOK, h6, h14, decide_eq_true h20, Bool.true_and, Bool.true_and, if_pos rfl, if_pos (Int32.not_le.mp h28)]; decide +kernel, by rw [sheetM, shOK, h6, h14, decide_eq_true h20, Bool.true_and, Bool.true_and, if_pos rfl, if_pos (Int32.not_le.mp h28)]⟩
      · refine V_ldc (pc := 23) hX kX5_52 dX5_sheet_23 ?_
        exact V_iret (pc := 25) (st := []) hX hr (by first | rfl | exact bI_nar _ | decide +kernel) dX5_sheet_25 (⟨by rw [sheetF, shOK, h6, h14, decide_eq_false h20]; rfl, by rw [sheetM, shOK, h6, h14, decide_eq_false h20]; rfl⟩)
def setV (σ : Mem) (x i v : Int32) : Int32 := if inr x 8 then (if fiF (σ 16 (tn x)) i (nI 1) = 0 then fitF (σ 15 (tn x)) v else (-1000010) - fiF (σ 16 (tn x)) i (nI 1)) else (-1000001)
def setM (σ : Mem) (x i v : Int32) : Mem := if inr x 8 then (if fiF (σ 16 (tn x)) i (nI 1) = 0 then mu (mu σ 0 5 (nI 0)) (7 + tn x) (tn i) (fitF (σ 15 (tn x)) v) else mu σ 0 5 (fiF (σ 16 (tn x)) i (nI 1))) else σ
set_option maxRecDepth 100000 in
set_option maxHeartbeats 4000000 in
theorem c_set (x i v : Int32) (σ : Mem) (hz : szok σ) : Cc yX5_set cX5_set 4 (some .int) 2 [.ref 0, .int x, .int i, .int v] σ (rI (setV σ x i v) (setM σ x i v)) := by
  refine Cc.intro (by decide +kernel) [some (.ref 0), some (.int x), some (.int i), some (.int v)] (fun _ => rfl) rfl (fun _ => Nat.le_of_ble_eq_true rfl) ?_
  intro X hX hR hr
  refine V_iload_n (pc := 0) (i := 1) hX dX5_set_0 rfl rfl ?_
  refine V_bipush (pc := 1) (v := (nI 8)) hX dX5_set_1 (by decide +kernel) ?_
  refine V_callSi (pc := 3) hX (hR.mono (by omega)) mX5_48 (c_isUnderN x 8 (by decide) _) dX5_set_3 rfl rfl rfl (Nat.le_of_ble_eq_true rfl) ?_
  refine V_if_neB (pc := 6) (tgt := 12) hX dX5_set_6 (by decide) (fun h6 => ?_) (fun h6 => ?_)
  · obtain ⟨s, hs, rfl⟩ := inr_of h6 (by decide)
    refine V_aload_n (pc := 12) (i := 0) hX dX5_set_12 rfl rfl ?_
    refine V_aload_n (pc := 13) (i := 0) hX dX5_set_13 rfl rfl ?_
    refine V_getr (pc := 14) hX fX5_10 dX5_set_14 rfl rfl ?_
    refine V_iload_n (pc := 17) (i := 1) hX dX5_set_17 rfl rfl ?_
    refine V_iload_n (pc := 18) (i := 2) hX dX5_set_18 rfl rfl ?_
    refine V_iconst (pc := 19) (v := (nI 1)) hX dX5_set_19 (by decide +kernel) ?_
    refine V_callVi (pc := 20) hX (hR.mono (by omega)) mX5_58 (c_findItems _ _ _ _ hs) dX5_set_20 rfl rfl rfl rfl (Nat.le_of_ble_eq_true rfl) ?_
    refine V_putf (pc := 23) hX fX5_44 gi5_5 dX5_set_23 rfl rfl ?_
    refine V_aload_n (pc := 26) (i := 0) hX dX5_set_26 rfl rfl ?_
    refine V_getf (pc := 27) hX fX5_44 dX5_set_27 rfl rfl ?_
    rw [mu_at]
    refine V_if_ne (pc := 30) (tgt := 46) hX dX5_set_30 (by decide) (fun h30 => ?_) (fun h30 => ?_)
    · refine V_ldc (pc := 46) hX kX5_57 dX5_set_46 ?_
      refine V_aload_n (pc := 48) (i := 0) hX dX5_set_48 rfl rfl ?_
      refine V_getf (pc := 49) hX fX5_44 dX5_set_49 rfl rfl ?_
      rw [mu_at]
      refine V_isub (pc := 52) hX dX5_set_52 ?_
      exact V_iret (pc := 53) (st := []) hX hr (by first | rfl | exact bI_nar _ | decide +kernel) dX5_set_53 (⟨by rw [setV, h6, if_pos rfl, tn_nI (by omega), if_neg h30], by rw [setM, h6, if_pos rfl, tn_nI (by omega), if_neg h30]⟩)
    · obtain ⟨h1, h2⟩ := fiF_0 h30
      obtain ⟨m, i', n', hm, e1, rfl, e3, hl⟩ := sz_row hz hs h1 h2
      obtain rfl : n' = 1 := by
        have := congrArg Int32.toInt e3
        have h4 : i' + n' ≤ m := hl
        rw [nI_toInt (by decide), nI_toInt (by omega)] at this
        omega
      have e15 : mu σ 0 5 (fiF (σ 16 s) (nI i') (nI 1)) 15 = σ 15 := (mu_ne (by decide)).symm
      refine V_aload_n (pc := 33) (i := 0) hX dX5_set_33 rfl rfl ?_
      refine V_getr (pc := 34) hX fX5_10 dX5_set_34 rfl rfl ?_
      refine V_iload_n (pc := 37) (i := 1) hX dX5_set_37 rfl rfl ?_
      refine V_iload_n (pc := 38) (i := 2) hX dX5_set_38 rfl rfl ?_
      refine V_iload_n (pc := 39) (i := 3) hX dX5_set_39 rfl rfl ?_
      refine V_callVi (pc := 40) hX (hR.mono (by omega)) mX5_61 (c_put _ _ _ _ hs (by omega)) dX5_set_40 rfl rfl rfl rfl (Nat.le_of_ble_eq_true rfl) ?_
      refine V_goto (pc := 43) (tgt := 53) hX dX5_set_43 (by decide) ?_
      exact V_iret (pc := 53) (st := []) hX hr (by first | rfl | exact bI_nar _ | decide +kernel) dX5_set_53 (⟨by rw [setV, h6, if_pos rfl, tn_nI (by omega), if_pos h30, e15], by rw [setM, h6, if_pos rfl, tn_nI (by omega), if_pos h30, tn_nI (by omega), e15, h30, nI_0]⟩)
  · refine V_ldc (pc := 9) hX kX5_52 dX5_set_9 ?_
    exact V_iret (pc := 11) (st := []) hX hr (by first | rfl | exact bI_nar _ | decide +kernel) dX5_set_11 (⟨by rw [setV, h6]; rfl, by rw [setM, h6]; rfl⟩)
def cpOK (a b : Int32) : Bool := inr a 8 && inr b 8
def cpf (σ : Mem) (a b i j n : Int32) : Int32 := fpF (σ 16 (tn a)) (σ 16 (tn b)) (σ 15 (tn a)) (σ 15 (tn b)) i j n
def copyV (σ : Mem) (a i b j n : Int32) : Int32 := if cpOK a b then (if cpf σ a b i j n = 0 then n else (-1000010) - cpf σ a b i j n) else (-1000001)
def copyM (σ : Mem) (a i b j n : Int32) : Mem := if cpOK a b then (if cpf σ a b i j n = 0 then mf (mu σ 0 5 (nI 0)) (7 + tn b) (va_cpy (σ (7 + tn a)) (σ (7 + tn b)) (tn i) (tn j) (tn n)) else mu σ 0 5 (cpf σ a b i j n)) else σ
set_option maxRecDepth 100000 in
set_option maxHeartbeats 4000000 in
theorem c_copy (a i b j n : Int32) (σ : Mem) (hz : szok σ) : Cc yX5_copy cX5_copy 6 (some .int) 2 [.ref 0, .int a, .int i, .int b, .int j, .int n] σ (rI (copyV σ a i b j n) (copyM σ a i b j n)) := by
  refine Cc.intro (by decide +kernel) [some (.ref 0), some (.int a), some (.int i), some (.int b), some (.int j), some (.int n)] (fun _ => rfl) rfl (fun _ => Nat.le_of_ble_eq_true rfl) ?_
  intro X hX hR hr
  refine V_iload_n (pc := 0) (i := 1) hX dX5_copy_0 rfl rfl ?_
  refine V_bipush (pc := 1) (v := (nI 8)) hX dX5_copy_1 (by decide +kernel) ?_
  refine V_callSi (pc := 3) hX (hR.mono (by omega)) mX5_48 (c_isUnderN a 8 (by decide) _) dX5_copy_3 rfl rfl rfl (Nat.le_of_ble_eq_true rfl) ?_
  refine V_if_eqB (pc := 6) (tgt := 18) hX dX5_copy_6 (by decide) (fun h6 => ?_) (fun h6 => ?_)
  · refine V_ldc (pc := 18) hX kX5_52 dX5_copy_18 ?_
    exact V_iret (pc := 20) (st := []) hX hr (by first | rfl | exact bI_nar _ | decide +kernel) dX5_copy_20 (⟨by rw [copyV, cpOK, h6]; rfl, by rw [copyM, cpOK, h6]; rfl⟩)
  · refine V_iload_n (pc := 9) (i := 3) hX dX5_copy_9 rfl rfl ?_
    refine V_bipush (pc := 10) (v := (nI 8)) hX dX5_copy_10 (by decide +kernel) ?_
    refine V_callSi (pc := 12) hX (hR.mono (by omega)) mX5_48 (c_isUnderN b 8 (by decide) _) dX5_copy_12 rfl rfl rfl (Nat.le_of_ble_eq_true rfl) ?_
    refine V_if_neB (pc := 15) (tgt := 21) hX dX5_copy_15 (by decide) (fun h15 => ?_) (fun h15 => ?_)
    · obtain ⟨a', ha, rfl⟩ := inr_of h6 (by decide)
      obtain ⟨b', hb, rfl⟩ := inr_of h15 (by decide)
      have ec : cpf σ (nI a') (nI b') i j n = fpF (σ 16 a') (σ 16 b') (σ 15 a') (σ 15 b') i j n := by rw [cpf, tn_nI (by omega), tn_nI (by omega)]
      have eo : cpOK (nI a') (nI b') = true := by rw [cpOK, h6, h15]; rfl
      refine V_aload_n (pc := 21) (i := 0) hX dX5_copy_21 rfl rfl ?_
      refine V_aload_n (pc := 22) (i := 0) hX dX5_copy_22 rfl rfl ?_
      refine V_getr (pc := 23) hX fX5_10 dX5_copy_23 rfl rfl ?_
      refine V_iload_n (pc := 26) (i := 1) hX dX5_copy_26 rfl rfl ?_
      refine V_iload_n (pc := 27) (i := 2) hX dX5_copy_27 rfl rfl ?_
      refine V_iload_n (pc := 28) (i := 3) hX dX5_copy_28 rfl rfl ?_
      refine V_iload (pc := 29) (i := 4) hX dX5_copy_29 rfl ?_
      refine V_iload (pc := 31) (i := 5) hX dX5_copy_31 rfl ?_
      refine V_callVi (pc := 33) hX (hR.mono (by omega)) mX5_64 (c_findPair _ _ _ _ _ _ ha hb) dX5_copy_33 rfl rfl rfl rfl (Nat.le_of_ble_eq_true rfl) ?_
      refine V_putf (pc := 36) hX fX5_44 gi5_5 dX5_copy_36 rfl rfl ?_
      refine V_aload_n (pc := 39) (i := 0) hX dX5_copy_39 rfl rfl ?_
      refine V_getf (pc := 40) hX fX5_44 dX5_copy_40 rfl rfl ?_
      rw [mu_at, ← ec]
      refine V_if_ne (pc := 43) (tgt := 63) hX dX5_copy_43 (by decide) (fun h43 => ?_) (fun h43 => ?_)
      · refine V_ldc (pc := 63) hX kX5_57 dX5_copy_63 ?_
        refine V_aload_n (pc := 65) (i := 0) hX dX5_copy_65 rfl rfl ?_
        refine V_getf (pc := 66) hX fX5_44 dX5_copy_66 rfl rfl ?_
        rw [mu_at]
        refine V_isub (pc := 69) hX dX5_copy_69 ?_
        exact V_iret (pc := 70) (st := []) hX hr (by first | rfl | exact bI_nar _ | decide +kernel) dX5_copy_70 (⟨by rw [copyV, eo, if_pos rfl, if_neg h43], by rw [copyM, eo, if_pos rfl, if_neg h43, ec]⟩)
      · obtain ⟨⟨h1, h2⟩, -, h3, h4⟩ := fpF_0 (ec ▸ h43)
        obtain ⟨m1, i', n', hm1, e1, rfl, rfl, hl1⟩ := sz_row hz ha h1 h3
        obtain ⟨m2, j', n2, hm2, e2, rfl, e5, hl2⟩ := sz_row hz hb h2 h4
        obtain rfl : n' = n2 := by
          have := congrArg Int32.toInt e5
          rw [nI_toInt (by omega), nI_toInt (by omega)] at this
          omega
        have ea : mu σ 0 5 (cpf σ (nI a') (nI b') (nI i') (nI j') (nI n')) (7 + a') = σ (7 + a') := (mu_ne (by omega)).symm
        have eb : mu σ 0 5 (cpf σ (nI a') (nI b') (nI i') (nI j') (nI n')) (7 + b') = σ (7 + b') := (mu_ne (by omega)).symm
        refine V_aload_n (pc := 46) (i := 0) hX dX5_copy_46 rfl rfl ?_
        refine V_getr (pc := 47) hX fX5_10 dX5_copy_47 rfl rfl ?_
        refine V_iload_n (pc := 50) (i := 1) hX dX5_copy_50 rfl rfl ?_
        refine V_iload_n (pc := 51) (i := 2) hX dX5_copy_51 rfl rfl ?_
        refine V_iload_n (pc := 52) (i := 3) hX dX5_copy_52 rfl rfl ?_
        refine V_iload (pc := 53) (i := 4) hX dX5_copy_53 rfl ?_
        refine V_iload (pc := 55) (i := 5) hX dX5_copy_55 rfl ?_
        refine V_callVi (pc := 57) hX (hR.mono (by omega)) mX5_68 (c_move _ _ _ _ _ _ ha hb (by omega) (by omega)) dX5_copy_57 rfl rfl rfl rfl (Nat.le_of_ble_eq_true rfl) ?_
        refine V_goto (pc := 60) (tgt := 70) hX dX5_copy_60 (by decide) ?_
        exact V_iret (pc := 70) (st := []) hX hr (by first | rfl | exact bI_nar _ | decide +kernel) dX5_copy_70 (⟨by rw [copyV, eo, if_pos rfl, if_pos h43], by rw [copyM, eo, if_pos rfl, if_pos h43, ea, eb, h43, tn_nI (by omega), tn_nI (by omega), tn_nI (by omega), tn_nI (by omega), tn_nI (by omega)]; rfl⟩)
    · refine V_ldc (pc := 18) hX kX5_52 dX5_copy_18 ?_
      exact V_iret (pc := 20) (st := []) hX hr (by first | rfl | exact bI_nar _ | decide +kernel) dX5_copy_20 (⟨by rw [copyV, cpOK, h6, h15]; rfl, by rw [copyM, cpOK, h6, h15]; rfl⟩)
def dropV (σ : Mem) (x : Int32) : Int32 := if inr x 8 then (if σ 16 (tn x) = (-1) then (-1000011) else σ 16 (tn x)) else (-1000001)
def dropM (σ : Mem) (x : Int32) : Mem := if inr x 8 then (if σ 16 (tn x) = (-1) then mu σ 0 5 (nI 1) else mu (mu σ 0 5 (nI 0)) 16 (tn x) (-1)) else σ
set_option maxRecDepth 100000 in
set_option maxHeartbeats 4000000 in
theorem c_drop (x : Int32) (σ : Mem) : Cc yX5_drop cX5_drop 2 (some .int) 1 [.ref 0, .int x] σ (rI (dropV σ x) (dropM σ x)) := by
  refine Cc.intro (by decide +kernel) [some (.ref 0), some (.int x)] (fun _ => rfl) rfl (fun _ => Nat.le_of_ble_eq_true rfl) ?_
  intro X hX hR hr
  refine V_iload_n (pc := 0) (i := 1) hX dX5_drop_0 rfl rfl ?_
  refine V_bipush (pc := 1) (v := (nI 8)) hX dX5_drop_1 (by decide +kernel) ?_
  refine V_callSi (pc := 3) hX (hR.mono (by omega)) mX5_48 (c_isUnderN x 8 (by decide) _) dX5_drop_3 rfl rfl rfl (Nat.le_of_ble_eq_true rfl) ?_
  refine V_if_neB (pc := 6) (tgt := 12) hX dX5_drop_6 (by decide) (fun h6 => ?_) (fun h6 => ?_)
  · obtain ⟨s, hs, rfl⟩ := inr_of h6 (by decide)
    refine V_aload_n (pc := 12) (i := 0) hX dX5_drop_12 rfl rfl ?_
    refine V_aload_n (pc := 13) (i := 0) hX dX5_drop_13 rfl rfl ?_
    refine V_getr (pc := 14) hX fX5_10 dX5_drop_14 rfl rfl ?_
    refine V_iload_n (pc := 17) (i := 1) hX dX5_drop_17 rfl rfl ?_
    refine V_callVi (pc := 18) hX (hR.mono (by omega)) mX5_71 (c_isMissing _ _ hs) dX5_drop_18 rfl rfl rfl rfl (Nat.le_of_ble_eq_true rfl) ?_
    refine V_if_eqB (pc := 21) (tgt := 28) hX dX5_drop_21 (by decide) (fun h21 => ?_) (fun h21 => ?_)
    · refine V_iconst (pc := 28) (v := (nI 0)) hX dX5_drop_28 (by decide +kernel) ?_
      refine V_putf (pc := 29) hX fX5_44 gi5_5 dX5_drop_29 rfl rfl ?_
      refine V_aload_n (pc := 32) (i := 0) hX dX5_drop_32 rfl rfl ?_
      refine V_getf (pc := 33) hX fX5_44 dX5_drop_33 rfl rfl ?_
      rw [mu_at]
      refine V_if_ne (pc := 36) (tgt := 50) hX dX5_drop_36 (by decide) (fun h36 => absurd h36 (by intro q; exact q (by decide +kernel))) (fun h36 => ?_)
      refine V_aload_n (pc := 39) (i := 0) hX dX5_drop_39 rfl rfl ?_
      refine V_getr (pc := 40) hX fX5_10 dX5_drop_40 rfl rfl ?_
      refine V_iload_n (pc := 43) (i := 1) hX dX5_drop_43 rfl rfl ?_
      refine V_callVi (pc := 44) hX (hR.mono (by omega)) mX5_75 (c_remove _ _ hs) dX5_drop_44 rfl rfl rfl rfl (Nat.le_of_ble_eq_true rfl) ?_
      refine V_goto (pc := 47) (tgt := 57) hX dX5_drop_47 (by decide) ?_
      exact V_iret (pc := 57) (st := []) hX hr (by first | rfl | exact bI_nar _ | decide +kernel) dX5_drop_57 (⟨by rw [dropV, h6, if_pos rfl, tn_nI (by omega), if_neg (of_decide_eq_false h21)]; rfl, by rw [dropM, h6, if_pos rfl, tn_nI (by omega), if_neg (of_decide_eq_false h21)]⟩)
    · refine V_iconst (pc := 24) (v := (nI 1)) hX dX5_drop_24 (by decide +kernel) ?_
      refine V_goto (pc := 25) (tgt := 29) hX dX5_drop_25 (by decide) ?_
      refine V_putf (pc := 29) hX fX5_44 gi5_5 dX5_drop_29 rfl rfl ?_
      refine V_aload_n (pc := 32) (i := 0) hX dX5_drop_32 rfl rfl ?_
      refine V_getf (pc := 33) hX fX5_44 dX5_drop_33 rfl rfl ?_
      rw [mu_at]
      refine V_if_ne (pc := 36) (tgt := 50) hX dX5_drop_36 (by decide) (fun _ => ?_) (fun h => absurd h (by decide +kernel))
      refine V_ldc (pc := 50) hX kX5_57 dX5_drop_50 ?_
      refine V_aload_n (pc := 52) (i := 0) hX dX5_drop_52 rfl rfl ?_
      refine V_getf (pc := 53) hX fX5_44 dX5_drop_53 rfl rfl ?_
      rw [mu_at]
      refine V_isub (pc := 56) hX dX5_drop_56 ?_
      exact V_iret (pc := 57) (st := []) hX hr rfl dX5_drop_57 ⟨by rw [dropV, h6, if_pos rfl, tn_nI (by omega), if_pos (of_decide_eq_true h21)]; decide +kernel, by rw [dropM, h6, if_pos rfl, tn_nI (by omega), if_pos (of_decide_eq_true h21)]⟩
  · refine V_ldc (pc := 9) hX kX5_52 dX5_drop_9 ?_
    exact V_iret (pc := 11) (st := []) hX hr (by first | rfl | exact bI_nar _ | decide +kernel) dX5_drop_11 (⟨by rw [dropV, h6]; rfl, by rw [dropM, h6]; rfl⟩)
end
section
/-! ===== DEMANDS of a sheet's items, the class's ===== -/
theorem mask_p {σ : Mem} {t q : Nat} (h : q ≠ 2) : mask σ t q = σ q := mask_r h
theorem cmeetM_r {σ : Mem} {n t q : Nat} (h : q ≠ 2) (h2 : q ≠ 19) : cmeetM σ n t q = σ q := by
  unfold cmeetM
  split
  · exact mask_r h
  · rw [← mu_ne h, mbuy_r h, mraise_r h2, mask_r h]
theorem cmeetM_c {σ : Mem} {n t : Nat} : cmeetM σ n t 2 3 = σ 2 3 := by
  unfold cmeetM
  split
  · exact mask_c (by decide)
  · rw [mu_ni (by decide), mbuy_c (by decide) (by decide), mraise_r (by decide), mask_c (by decide)]
theorem cmeetM_4 {σ : Mem} {n t : Nat} : cmeetM σ n t 2 4 = σ 2 4 := by
  unfold cmeetM
  split
  · exact mask_c (by decide)
  · rw [mu_ni (by decide), mbuy_c (by decide) (by decide), mraise_r (by decide), mask_c (by decide)]
theorem demandM_r {σ : Mem} {n q : Nat} {x : Int32} (h : q ≠ 2) (h2 : q ≠ 19) : demandM σ n x q = σ q := by
  unfold demandM
  split
  · split
    · exact cmeetM_r h h2
    · rfl
  · rfl
theorem demandM_c {σ : Mem} {n : Nat} {x : Int32} : demandM σ n x 2 3 = σ 2 3 := by
  unfold demandM
  split
  · split
    · exact cmeetM_c
    · rfl
  · rfl
/-- one demand among many: what is paid, nothing where it is refused -/
def dstV (σ : Mem) (n : Nat) (x : Int32) : Int32 := if inr x 12 then (if bt (σ 2 4) (tn x) then cmeetV σ n (tn x) else nI 0) else nI 0
def dfM (σ : Mem) (n : Nat) (it : Nat → Int32) : Nat → Mem
  | 0 => σ
  | k + 1 => demandM (dfM σ n it k) n (it k)
def dfV (σ : Mem) (n : Nat) (it : Nat → Int32) : Nat → Int32
  | 0 => nI 0
  | k + 1 => dfV σ n it k + dstV (dfM σ n it k) n (it k)
theorem dfM_r {σ : Mem} {n q : Nat} {it : Nat → Int32} (h : q ≠ 2) (h2 : q ≠ 19) : ∀ k, dfM σ n it k q = σ q
  | 0 => rfl
  | k + 1 => by rw [dfM, demandM_r h h2, dfM_r h h2 k]
theorem dfM_c {σ : Mem} {n : Nat} {it : Nat → Int32} : ∀ k, dfM σ n it k 2 3 = σ 2 3
  | 0 => rfl
  | k + 1 => by rw [dfM, demandM_c, dfM_c k]
set_option maxRecDepth 100000 in
set_option maxHeartbeats 4000000 in
theorem l_meetItems {s i m n : Nat} {z : Option Value} {X : XC} {P : Option Value → Mem → Prop} {σ : Mem} (hX : Cok X RX5 cX5_meetItems 7) (hR : Rok X 6) (hr : Ret X (some .int) P) (hz : nol [z] = true) (hn : σ 2 3 = nI n) (hn10 : n ≤ 10) (hs : s < 8) (hi : i + m ≤ 60) (hp : P (some (.int (dfV σ n (fun k => σ (7 + s) (i + k)) m))) (dfM σ n (fun k => σ (7 + s) (i + k)) m)) (k : Nat) (hk : k ≤ m) :
    Vw X 6 [some (.ref 0), some (.int (nI s)), some (.int (nI i)), some (.int (nI m)), some (.int (dfV σ n (fun k => σ (7 + s) (i + k)) k)), some (.int (nI (i + k))), z] [] (dfM σ n (fun k => σ (7 + s) (i + k)) k) := by
  have it : dfM σ n (fun k => σ (7 + s) (i + k)) k (7 + s) (i + k) = σ (7 + s) (i + k) := by rw [dfM_r (by omega) (by omega)]
  have hc : dfM σ n (fun k => σ (7 + s) (i + k)) k 2 3 = nI n := by rw [dfM_c]; exact hn
  have ih := fun (h : k < m) => l_meetItems hX hR hr (z := some (.int (σ (7 + s) (i + k)))) rfl hn hn10 hs hi hp (k + 1) (by omega)
  refine V_iload (pc := 6) (i := 5) hX dX5_meetItems_6 rfl ?_
  refine V_iload_n (pc := 8) (i := 2) hX dX5_meetItems_8 rfl rfl ?_
  refine V_iload_n (pc := 9) (i := 3) hX dX5_meetItems_9 rfl rfl ?_
  refine V_iadd (pc := 10) hX dX5_meetItems_10 ?_
  rw [nI_add]
  refine V_icmp_geN (pc := 11) (tgt := 68) hX dX5_meetItems_11 (by decide) (by omega) (by omega) (fun h11 => ?_) (fun h11 => ?_)
  · obtain rfl : k = m := by omega
    refine V_iload (pc := 68) (i := 4) hX dX5_meetItems_68 rfl ?_
    exact V_iret (pc := 70) (st := []) hX hr (by first | rfl | exact bI_nar _ | decide +kernel) dX5_meetItems_70 (hp)
  · refine V_aload_n (pc := 14) (i := 0) hX dX5_meetItems_14 rfl rfl ?_
    refine V_getr (pc := 15) hX fX5_10 dX5_meetItems_15 rfl rfl ?_
    refine V_iload_n (pc := 18) (i := 1) hX dX5_meetItems_18 rfl rfl ?_
    refine V_iload (pc := 19) (i := 5) hX dX5_meetItems_19 rfl ?_
    refine V_callVi (pc := 21) hX (hR.mono (by omega)) mX5_104 (c_item _ _ _ hs (by omega)) dX5_meetItems_21 rfl rfl rfl rfl (Nat.le_of_ble_eq_true rfl) ?_
    rw [it]
    refine V_istore6 (pc := 24) hX dX5_meetItems_24 hz ?_
    have ihk := ih (by omega)
    refine V_iload (pc := 26) (i := 6) hX dX5_meetItems_26 rfl ?_
    refine V_bipush (pc := 28) (v := (nI 12)) hX dX5_meetItems_28 (by decide +kernel) ?_
    refine V_callSi (pc := 30) hX (hR.mono (by omega)) mX5_48 (c_isUnderN _ 12 (by decide) _) dX5_meetItems_30 rfl rfl rfl (Nat.le_of_ble_eq_true rfl) ?_
    refine V_if_eqB (pc := 33) (tgt := 62) hX dX5_meetItems_33 (by decide) (fun h33 => ?_) (fun h33 => ?_)
    · refine V_iinc5 (pc := 62) hX dX5_meetItems_62 rfl (iinc1 _) ?_
      refine V_goto (pc := 65) (tgt := 6) hX dX5_meetItems_65 (by decide) ?_
      simp only [dfV, dfM, dstV, demandM, h33, Bool.false_eq_true, ↓reduceIte] at ihk
      rw [add0] at ihk
      exact ihk
    · obtain ⟨t, ht, et⟩ := inr_of h33 (by decide)
      rw [et] at h33 ihk ⊢
      have e1 : tn (nI t) = t := tn_nI (by omega)
      refine V_aload_n (pc := 36) (i := 0) hX dX5_meetItems_36 rfl rfl ?_
      refine V_getr (pc := 37) hX fX5_19 dX5_meetItems_37 rfl rfl ?_
      refine V_iload (pc := 40) (i := 6) hX dX5_meetItems_40 rfl ?_
      refine V_callVi (pc := 42) hX (hR.mono (by omega)) mX5_95 (c_isOffered _ ht _) dX5_meetItems_42 rfl rfl rfl rfl (Nat.le_of_ble_eq_true rfl) ?_
      refine V_if_eqB (pc := 45) (tgt := 62) hX dX5_meetItems_45 (by decide) (fun h45 => ?_) (fun h45 => ?_)
      · refine V_iinc5 (pc := 62) hX dX5_meetItems_62 rfl (iinc1 _) ?_
        refine V_goto (pc := 65) (tgt := 6) hX dX5_meetItems_65 (by decide) ?_
        simp only [dfV, dfM, dstV, demandM, et, h33, e1, h45, Bool.false_eq_true, ↓reduceIte] at ihk
        rw [add0] at ihk
        exact ihk
      · refine V_iload (pc := 48) (i := 4) hX dX5_meetItems_48 rfl ?_
        refine V_aload_n (pc := 50) (i := 0) hX dX5_meetItems_50 rfl rfl ?_
        refine V_getr (pc := 51) hX fX5_19 dX5_meetItems_51 rfl rfl ?_
        refine V_iload (pc := 54) (i := 6) hX dX5_meetItems_54 rfl ?_
        refine V_callVi (pc := 56) hX (hR.mono (by omega)) mX5_98 (c_meet n _ _ hc hn10 ht) dX5_meetItems_56 rfl rfl rfl rfl (Nat.le_of_ble_eq_true rfl) ?_
        refine V_iadd (pc := 59) hX dX5_meetItems_59 ?_
        refine V_istore4 (pc := 60) hX dX5_meetItems_60 rfl ?_
        refine V_iinc5 (pc := 62) hX dX5_meetItems_62 rfl (iinc1 _) ?_
        refine V_goto (pc := 65) (tgt := 6) hX dX5_meetItems_65 (by decide) ?_
        simp only [dfV, dfM, dstV, demandM, et, h33, e1, h45, Bool.false_eq_true, ↓reduceIte] at ihk
        exact ihk
termination_by m - k
set_option maxRecDepth 100000 in
set_option maxHeartbeats 4000000 in
theorem c_meetItems (s i m n : Nat) (σ : Mem) (hn : σ 2 3 = nI n) (hn10 : n ≤ 10) (hs : s < 8) (hi : i + m ≤ 60) : Cc yX5_meetItems cX5_meetItems 7 (some .int) 6 [.ref 0, .int (nI s), .int (nI i), .int (nI m)] σ (rI (dfV σ n (fun k => σ (7 + s) (i + k)) m) (dfM σ n (fun k => σ (7 + s) (i + k)) m)) := by
  refine Cc.intro (by decide +kernel) [some (.ref 0), some (.int (nI s)), some (.int (nI i)), some (.int (nI m)), none, none, none] (fun _ => rfl) rfl (fun _ => Nat.le_of_ble_eq_true rfl) ?_
  intro X hX hR hr
  refine V_iconst (pc := 0) (v := (nI 0)) hX dX5_meetItems_0 (by decide +kernel) ?_
  refine V_istore4 (pc := 1) hX dX5_meetItems_1 rfl ?_
  refine V_iload_n (pc := 3) (i := 2) hX dX5_meetItems_3 rfl rfl ?_
  refine V_istore5 (pc := 4) hX dX5_meetItems_4 rfl ?_
  exact l_meetItems (z := none) hX hR hr rfl hn hn10 hs hi ⟨rfl, rfl⟩ 0 (by omega)
def dsOK (x m : Int32) : Bool := inr x 8 && inr2 m 1 60
def demandsV (σ : Mem) (n : Nat) (x i m : Int32) : Int32 := if dsOK x m then (if fiF (σ 16 (tn x)) i m = 0 then dfV (mu σ 0 5 (nI 0)) n (fun k => σ (7 + tn x) (tn i + k)) (tn m) else (-1000010) - fiF (σ 16 (tn x)) i m) else (-1000001)
def demandsM (σ : Mem) (n : Nat) (x i m : Int32) : Mem := if dsOK x m then (if fiF (σ 16 (tn x)) i m = 0 then dfM (mu σ 0 5 (nI 0)) n (fun k => σ (7 + tn x) (tn i + k)) (tn m) else mu σ 0 5 (fiF (σ 16 (tn x)) i m)) else σ
set_option maxRecDepth 100000 in
set_option maxHeartbeats 4000000 in
theorem c_demands (n : Nat) (x i m : Int32) (σ : Mem) (hn : σ 2 3 = nI n) (hn10 : n ≤ 10) (hz : szok σ) : Cc yX5_demands cX5_demands 4 (some .int) 7 [.ref 0, .int x, .int i, .int m] σ (rI (demandsV σ n x i m) (demandsM σ n x i m)) := by
  refine Cc.intro (by decide +kernel) [some (.ref 0), some (.int x), some (.int i), some (.int m)] (fun _ => rfl) rfl (fun _ => Nat.le_of_ble_eq_true rfl) ?_
  intro X hX hR hr
  refine V_iload_n (pc := 0) (i := 1) hX dX5_demands_0 rfl rfl ?_
  refine V_bipush (pc := 1) (v := (nI 8)) hX dX5_demands_1 (by decide +kernel) ?_
  refine V_callSi (pc := 3) hX (hR.mono (by omega)) mX5_48 (c_isUnderN x 8 (by decide) _) dX5_demands_3 rfl rfl rfl (Nat.le_of_ble_eq_true rfl) ?_
  refine V_if_eqB (pc := 6) (tgt := 19) hX dX5_demands_6 (by decide) (fun h6 => ?_) (fun h6 => ?_)
  · refine V_ldc (pc := 19) hX kX5_52 dX5_demands_19 ?_
    exact V_iret (pc := 21) (st := []) hX hr (by first | rfl | exact bI_nar _ | decide +kernel) dX5_demands_21 (⟨by rw [demandsV, dsOK, h6]; rfl, by rw [demandsM, dsOK, h6]; rfl⟩)
  · refine V_iload_n (pc := 9) (i := 3) hX dX5_demands_9 rfl rfl ?_
    refine V_iconst (pc := 10) (v := (nI 1)) hX dX5_demands_10 (by decide +kernel) ?_
    refine V_bipush (pc := 11) (v := (nI 60)) hX dX5_demands_11 (by decide +kernel) ?_
    refine V_callSi (pc := 13) hX (hR.mono (by omega)) mX5_79 (c_isWithinN m 1 60 (by decide) (by decide) _) dX5_demands_13 rfl rfl rfl (Nat.le_of_ble_eq_true rfl) ?_
    refine V_if_neB (pc := 16) (tgt := 22) hX dX5_demands_16 (by decide) (fun h16 => ?_) (fun h16 => ?_)
    · obtain ⟨s, hs, rfl⟩ := inr_of h6 (by decide)
      have eo : dsOK (nI s) m = true := by rw [dsOK, h6, h16]; rfl
      refine V_aload_n (pc := 22) (i := 0) hX dX5_demands_22 rfl rfl ?_
      refine V_aload_n (pc := 23) (i := 0) hX dX5_demands_23 rfl rfl ?_
      refine V_getr (pc := 24) hX fX5_10 dX5_demands_24 rfl rfl ?_
      refine V_iload_n (pc := 27) (i := 1) hX dX5_demands_27 rfl rfl ?_
      refine V_iload_n (pc := 28) (i := 2) hX dX5_demands_28 rfl rfl ?_
      refine V_iload_n (pc := 29) (i := 3) hX dX5_demands_29 rfl rfl ?_
      refine V_callVi (pc := 30) hX (hR.mono (by omega)) mX5_58 (c_findItems _ _ _ _ hs) dX5_demands_30 rfl rfl rfl rfl (Nat.le_of_ble_eq_true rfl) ?_
      refine V_putf (pc := 33) hX fX5_44 gi5_5 dX5_demands_33 rfl rfl ?_
      refine V_aload_n (pc := 36) (i := 0) hX dX5_demands_36 rfl rfl ?_
      refine V_getf (pc := 37) hX fX5_44 dX5_demands_37 rfl rfl ?_
      rw [mu_at]
      refine V_if_ne (pc := 40) (tgt := 53) hX dX5_demands_40 (by decide) (fun h40 => ?_) (fun h40 => ?_)
      · refine V_ldc (pc := 53) hX kX5_57 dX5_demands_53 ?_
        refine V_aload_n (pc := 55) (i := 0) hX dX5_demands_55 rfl rfl ?_
        refine V_getf (pc := 56) hX fX5_44 dX5_demands_56 rfl rfl ?_
        rw [mu_at]
        refine V_isub (pc := 59) hX dX5_demands_59 ?_
        exact V_iret (pc := 60) (st := []) hX hr (by first | rfl | exact bI_nar _ | decide +kernel) dX5_demands_60 (⟨by rw [demandsV, eo, if_pos rfl, tn_nI (by omega), if_neg h40], by rw [demandsM, eo, if_pos rfl, tn_nI (by omega), if_neg h40]⟩)
      · obtain ⟨h1, h2⟩ := fiF_0 h40
        obtain ⟨z, i', m', hm, e1, rfl, rfl, hl⟩ := sz_row hz hs h1 h2
        rw [h40]
        have e7 : mu σ 0 5 (0 : Int32) (7 + s) = σ (7 + s) := (mu_ne (by omega)).symm
        refine V_aload_n (pc := 43) (i := 0) hX dX5_demands_43 rfl rfl ?_
        refine V_iload_n (pc := 44) (i := 1) hX dX5_demands_44 rfl rfl ?_
        refine V_iload_n (pc := 45) (i := 2) hX dX5_demands_45 rfl rfl ?_
        refine V_iload_n (pc := 46) (i := 3) hX dX5_demands_46 rfl rfl ?_
        refine V_callVi (pc := 47) hX (hR.mono (by omega)) mX5_101 (c_meetItems s i' m' n _ (by rw [← hn]; exact mu_np (by decide)) hn10 hs (by omega)) dX5_demands_47 rfl rfl rfl rfl (Nat.le_of_ble_eq_true rfl) ?_
        refine V_goto (pc := 50) (tgt := 60) hX dX5_demands_50 (by decide) ?_
        exact V_iret (pc := 60) (st := []) hX hr (by first | rfl | exact bI_nar _ | decide +kernel) dX5_demands_60 (⟨by rw [demandsV, eo, if_pos rfl, tn_nI (by omega), if_pos h40, tn_nI (by omega), tn_nI (by omega), e7, nI_0], by rw [demandsM, eo, if_pos rfl, tn_nI (by omega), if_pos h40, tn_nI (by omega), tn_nI (by omega), e7, nI_0]⟩)
    · refine V_ldc (pc := 19) hX kX5_52 dX5_demands_19 ?_
      exact V_iret (pc := 21) (st := []) hX hr (by first | rfl | exact bI_nar _ | decide +kernel) dX5_demands_21 (⟨by rw [demandsV, dsOK, h6, h16]; rfl, by rw [demandsM, dsOK, h6, h16]; rfl⟩)
end
section
/-! ===== SHEETS, the reference's: 53 lanes (-1: missing), 54 sizes, 55 items by 60 ===== -/
set_option maxRecDepth 100000 in
set_option maxHeartbeats 4000000 in
theorem c_found (k : Int32) (σ : Mem) : Cc yX6_found cX6_found 2 (some .int) 0 [.ref 52, .int k] σ (rI ((-1000010) - k) (mu σ 52 1 k)) := by
  refine Cc.intro (by decide +kernel) [some (.ref 52), some (.int k)] (fun _ => rfl) rfl (fun _ => Nat.le_of_ble_eq_true rfl) ?_
  intro X hX hR hr
  refine V_aload_n (pc := 0) (i := 0) hX dX6_found_0 rfl rfl ?_
  refine V_iload_n (pc := 1) (i := 1) hX dX6_found_1 rfl rfl ?_
  refine V_putf (pc := 2) hX fX6_69 gi6_1 dX6_found_2 rfl rfl ?_
  refine V_ldc (pc := 5) hX kX6_72 dX6_found_5 ?_
  refine V_iload_n (pc := 7) (i := 1) hX dX6_found_7 rfl rfl ?_
  refine V_isub (pc := 8) hX dX6_found_8 ?_
  exact V_iret (pc := 9) (st := []) hX hr (by first | rfl | exact bI_nar _ | decide +kernel) dX6_found_9 (⟨rfl, rfl⟩)
set_option maxRecDepth 100000 in
set_option maxHeartbeats 4000000 in
theorem c_misSheet (x : Int32) (σ : Mem) : Cc yX6_isSheet cX6_isSheet 1 (some .boolean) 1 [.int x] σ (rI (bI (inr x 8)) σ) := by
  refine Cc.intro (by decide +kernel) [some (.int x)] (fun _ => rfl) rfl (fun _ => Nat.le_of_ble_eq_true rfl) ?_
  intro X hX hR hr
  refine V_iload_n (pc := 0) (i := 0) hX dX6_isSheet_0 rfl rfl ?_
  refine V_i2l (pc := 1) hX dX6_isSheet_1 ?_
  refine V_lconst (pc := 2) (v := lN 0) hX dX6_isSheet_2 (by decide +kernel) ?_
  refine V_ldc2 (pc := 3) hX kX6_73 dX6_isSheet_3 ?_
  refine V_callSi (pc := 6) hX (hR.mono (by omega)) mX6_75 (c_inN x 0 7 (by decide) (by decide) _) dX6_isSheet_6 rfl rfl rfl (Nat.le_of_ble_eq_true rfl) ?_
  exact V_iret (pc := 9) (st := []) hX hr (by first | rfl | exact bI_nar _ | decide +kernel) dX6_isSheet_9 (⟨by rw [inr2_0], rfl⟩)
def mzok (σ : Mem) : Prop := ∀ s, s < 8 → (σ 53 s = (-1) ∨ ∃ l : Nat, l < 3 ∧ σ 53 s = nI l) ∧ ∃ m : Nat, m ≤ 60 ∧ σ 54 s = nI m
theorem lane_neg {σ : Mem} (hz : mzok σ) {s : Nat} (hs : s < 8) (h : ¬ 0 ≤ σ 53 s) : σ 53 s = (-1) := by
  rcases (hz s hs).1 with h1 | ⟨l, hl, h1⟩
  · exact h1
  · rw [h1] at h; exact absurd (nI_pos' (by omega)) h
theorem lane_pos {σ : Mem} {s : Nat} (h : 0 ≤ σ 53 s) : ¬ σ 53 s = (-1) := fun q => by rw [q] at h; exact absurd h (by decide)
def clr2 (f : Nat → Int32) (s k : Nat) : Nat → Int32 := fun i => if 60 * s ≤ i ∧ i < 60 * s + k then nI 0 else f i
theorem clr2_0 (f : Nat → Int32) (s : Nat) : clr2 f s 0 = f := by
  funext i
  unfold clr2
  rw [if_neg (by omega)]
theorem clr2_s (f : Nat → Int32) (s k : Nat) : upd (clr2 f s k) (60 * s + k) (nI 0) = clr2 f s (k + 1) := by
  funext i
  simp only [upd, clr2]
  by_cases h : i = 60 * s + k
  · rw [if_pos h, if_pos (by omega)]
  · rw [if_neg h]
    by_cases h2 : 60 * s ≤ i ∧ i < 60 * s + k
    · rw [if_pos h2, if_pos (by omega)]
    · rw [if_neg h2, if_neg (by omega)]
set_option maxRecDepth 100000 in
set_option maxHeartbeats 4000000 in
theorem l_msheet {s n : Nat} {l : Int32} {X : XC} {P : Option Value → Mem → Prop} {σ : Mem} (hX : Cok X RX6 cX6_sheet 5) (hR : Rok X 0) (hr : Ret X (some .int) P) (hs : s < 8) (kk : Vw X 91 [some (.ref 52), some (.int (nI s)), some (.int l), some (.int (nI n)), some (.int (nI 60))] [] (mf σ 55 (clr2 (σ 55) s 60))) (k : Nat) (hk : k ≤ 60) :
    Vw X 65 [some (.ref 52), some (.int (nI s)), some (.int l), some (.int (nI n)), some (.int (nI k))] [] (mf σ 55 (clr2 (σ 55) s k)) := by
  refine V_iload (pc := 65) (i := 4) hX dX6_sheet_65 rfl ?_
  refine V_bipush (pc := 67) (v := (nI 60)) hX dX6_sheet_67 (by decide +kernel) ?_
  refine V_icmp_geN (pc := 69) (tgt := 91) hX dX6_sheet_69 (by decide) (by omega) (by omega) (fun h69 => ?_) (fun h69 => ?_)
  · obtain rfl : k = 60 := by omega
    exact kk
  · refine V_aload_n (pc := 72) (i := 0) hX dX6_sheet_72 rfl rfl ?_
    refine V_getr (pc := 73) hX fX6_16 dX6_sheet_73 rfl rfl ?_
    refine V_bipush (pc := 76) (v := (nI 60)) hX dX6_sheet_76 (by decide +kernel) ?_
    refine V_iload_n (pc := 78) (i := 1) hX dX6_sheet_78 rfl rfl ?_
    refine V_imul (pc := 79) hX dX6_sheet_79 ?_
    refine V_iload (pc := 80) (i := 4) hX dX6_sheet_80 rfl ?_
    refine V_iadd (pc := 82) hX dX6_sheet_82 ?_
    refine V_iconst (pc := 83) (v := (nI 0)) hX dX6_sheet_83 (by decide +kernel) ?_
    refine V_iast (pc := 84) hX dX6_sheet_84 (rfl) (show _ = nI (60 * s + k) by rw [pk_mul, nI_add]) (by omega) (by decide) ?_
    refine V_iinc4 (pc := 85) hX dX6_sheet_85 rfl (iinc1 _) ?_
    refine V_goto (pc := 88) (tgt := 65) hX dX6_sheet_88 (by decide) ?_
    have ih := l_msheet hX hR hr hs kk (k + 1) (by omega)
    rw [mf_mu, clr2_s]
    exact ih
termination_by 60 - k
def layM2 (σ : Mem) (s : Nat) (l n : Int32) : Mem := mf (mu (mu σ 53 s l) 54 s n) 55 (clr2 (σ 55) s 60)
def m1 (σ : Mem) : Mem := mu (m0 σ) 52 1 (nI 0)
theorem m1_r {σ : Mem} {q : Nat} (h : q ≠ 52) : m1 σ q = σ q := by unfold m1; rw [← mu_ne h, m0_r h]
theorem m1_c {σ : Mem} {j : Nat} (h : j ≠ 0) (h2 : j ≠ 1) : m1 σ 52 j = σ 52 j := by unfold m1; rw [mu_ni h2, m0_c h]
def msheetM (σ : Mem) (x l m : Int32) : Mem := if shOK x l m then (if m < 0 then mu (m1 σ) 52 1 (nI 4) else layM2 (m1 σ) (tn x) l m) else m0 σ
set_option maxRecDepth 100000 in
set_option maxHeartbeats 4000000 in
theorem c_msheet (x l m : Int32) (σ : Mem) : Cc yX6_sheet cX6_sheet 5 (some .int) 2 [.ref 52, .int x, .int l, .int m] σ (rI (sheetF x l m) (msheetM σ x l m)) := by
  refine Cc.intro (by decide +kernel) [some (.ref 52), some (.int x), some (.int l), some (.int m), none] (fun _ => rfl) rfl (fun _ => Nat.le_of_ble_eq_true rfl) ?_
  intro X hX hR hr
  refine V_aload_n (pc := 0) (i := 0) hX dX6_sheet_0 rfl rfl ?_
  refine V_iconst (pc := 1) (v := (nI 0)) hX dX6_sheet_1 (by decide +kernel) ?_
  refine V_putf (pc := 2) hX fX6_66 gi6_0 dX6_sheet_2 rfl rfl ?_
  refine Vw.mem (rfl : m0 σ = _) ?_
  refine V_iload_n (pc := 5) (i := 1) hX dX6_sheet_5 rfl rfl ?_
  refine V_callSi (pc := 6) hX (hR.mono (by omega)) mX6_79 (c_misSheet _ _) dX6_sheet_6 rfl rfl rfl (Nat.le_of_ble_eq_true rfl) ?_
  refine V_if_eqB (pc := 9) (tgt := 30) hX dX6_sheet_9 (by decide) (fun h9 => ?_) (fun h9 => ?_)
  · refine V_ldc (pc := 30) hX kX6_85 dX6_sheet_30 ?_
    exact V_iret (pc := 32) (st := []) hX hr (by first | rfl | exact bI_nar _ | decide +kernel) dX6_sheet_32 (⟨by rw [sheetF, shOK, h9]; rfl, by rw [msheetM, shOK, h9]; rfl⟩)
  · refine V_iload_n (pc := 12) (i := 2) hX dX6_sheet_12 rfl rfl ?_
    refine V_i2l (pc := 13) hX dX6_sheet_13 ?_
    refine V_lconst (pc := 14) (v := lN 0) hX dX6_sheet_14 (by decide +kernel) ?_
    refine V_ldc2 (pc := 15) hX kX6_83 dX6_sheet_15 ?_
    refine V_callSi (pc := 18) hX (hR.mono (by omega)) mX6_75 (c_inN l 0 2 (by decide) (by decide) _) dX6_sheet_18 rfl rfl rfl (Nat.le_of_ble_eq_true rfl) ?_
    refine V_if_eqB (pc := 21) (tgt := 30) hX dX6_sheet_21 (by decide) (fun h21 => ?_) (fun h21 => ?_)
    · refine V_ldc (pc := 30) hX kX6_85 dX6_sheet_30 ?_
      exact V_iret (pc := 32) (st := []) hX hr (by first | rfl | exact bI_nar _ | decide +kernel) dX6_sheet_32 (⟨by rw [inr2_0] at h21; rw [sheetF, shOK, h9, h21]; rfl, by rw [inr2_0] at h21; rw [msheetM, shOK, h9, h21]; rfl⟩)
    · refine V_iload_n (pc := 24) (i := 3) hX dX6_sheet_24 rfl rfl ?_
      refine V_bipush (pc := 25) (v := (nI 60)) hX dX6_sheet_25 (by decide +kernel) ?_
      refine V_icmp_le (pc := 27) (tgt := 33) hX dX6_sheet_27 (by decide) (fun h27 => ?_) (fun h27 => ?_)
      · rw [inr2_0] at h21
        obtain ⟨s, hs, rfl⟩ := inr_of h9 (by decide)
        refine V_aload_n (pc := 33) (i := 0) hX dX6_sheet_33 rfl rfl ?_
        refine V_iconst (pc := 34) (v := (nI 0)) hX dX6_sheet_34 (by decide +kernel) ?_
        refine V_putf (pc := 35) hX fX6_69 gi6_1 dX6_sheet_35 rfl rfl ?_
        refine Vw.mem (rfl : m1 σ = _) ?_
        refine V_iload_n (pc := 38) (i := 3) hX dX6_sheet_38 rfl rfl ?_
        refine V_if_ge (pc := 39) (tgt := 48) hX dX6_sheet_39 (by decide) (fun h39 => ?_) (fun h39 => ?_)
        · obtain ⟨n, hn, rfl⟩ := nI_of60 (Int32.not_lt.mpr h39) h27
          have k91 : Vw X 91 [some (.ref 52), some (.int (nI s)), some (.int l), some (.int (nI n)), some (.int (nI 60))] [] (mf (mu (mu (m1 σ) 53 s l) 54 s (nI n)) 55 (clr2 (mu (mu (m1 σ) 53 s l) 54 s (nI n) 55) s 60)) := by
            refine V_iload_n (pc := 91) (i := 3) hX dX6_sheet_91 rfl rfl ?_
            exact V_iret (pc := 92) (st := []) hX hr rfl dX6_sheet_92 ⟨by rw [sheetF, shOK, h9, h21, decide_eq_true h27, Bool.true_and, Bool.true_and, if_pos rfl, if_neg (Int32.not_lt.mpr h39)], by
              rw [msheetM, shOK, h9, h21, decide_eq_true h27, Bool.true_and, Bool.true_and, if_pos rfl, if_neg (Int32.not_lt.mpr h39), tn_nI (by omega)]
              unfold layM2
              rw [← mu_ne (by decide), ← mu_ne (by decide)]⟩
          refine V_aload_n (pc := 48) (i := 0) hX dX6_sheet_48 rfl rfl ?_
          refine V_getr (pc := 49) hX fX6_7 dX6_sheet_49 rfl rfl ?_
          refine V_iload_n (pc := 52) (i := 1) hX dX6_sheet_52 rfl rfl ?_
          refine V_iload_n (pc := 53) (i := 2) hX dX6_sheet_53 rfl rfl ?_
          refine V_iast (pc := 54) hX dX6_sheet_54 (rfl) (rfl) (by omega) (by decide) ?_
          refine V_aload_n (pc := 55) (i := 0) hX dX6_sheet_55 rfl rfl ?_
          refine V_getr (pc := 56) hX fX6_13 dX6_sheet_56 rfl rfl ?_
          refine V_iload_n (pc := 59) (i := 1) hX dX6_sheet_59 rfl rfl ?_
          refine V_iload_n (pc := 60) (i := 3) hX dX6_sheet_60 rfl rfl ?_
          refine V_iast (pc := 61) hX dX6_sheet_61 (rfl) (rfl) (by omega) (by decide) ?_
          refine V_iconst (pc := 62) (v := (nI 0)) hX dX6_sheet_62 (by decide +kernel) ?_
          refine V_istore4 (pc := 63) hX dX6_sheet_63 rfl ?_
          refine Vw.mem (show mf (mu (mu (m1 σ) 53 s l) 54 s (nI n)) 55 (clr2 (mu (mu (m1 σ) 53 s l) 54 s (nI n) 55) s 0) = _ by rw [clr2_0, mf_id]) ?_
          exact l_msheet hX (hR.mono (by omega)) hr hs k91 0 (by omega)
        · refine V_aload_n (pc := 42) (i := 0) hX dX6_sheet_42 rfl rfl ?_
          refine V_iconst (pc := 43) (v := (nI 4)) hX dX6_sheet_43 (by decide +kernel) ?_
          refine V_callVi (pc := 44) hX (hR.mono (by omega)) mX6_86 (c_found _ _) dX6_sheet_44 rfl rfl rfl rfl (Nat.le_of_ble_eq_true rfl) ?_
          exact V_iret (pc := 47) (st := []) hX hr (by first | rfl | exact bI_nar _ | decide +kernel) dX6_sheet_47 (⟨by rw [sheetF, shOK, h9, h21, decide_eq_true h27, Bool.true_and, Bool.true_and, if_pos rfl, if_pos (Int32.not_le.mp h39)]; decide +kernel, by rw [msheetM, shOK, h9, h21, decide_eq_true h27, Bool.true_and, Bool.true_and, if_pos rfl, if_pos (Int32.not_le.mp h39)]⟩)
      · refine V_ldc (pc := 30) hX kX6_85 dX6_sheet_30 ?_
        exact V_iret (pc := 32) (st := []) hX hr (by first | rfl | exact bI_nar _ | decide +kernel) dX6_sheet_32 (⟨by rw [inr2_0] at h21; rw [sheetF, shOK, h9, h21, decide_eq_false h27]; rfl, by rw [inr2_0] at h21; rw [msheetM, shOK, h9, h21, decide_eq_false h27]; rfl⟩)
def msetV (σ : Mem) (x i v : Int32) : Int32 := if inr x 8 then (if σ 53 (tn x) = (-1) then (-1000011) else if inr i (tn (σ 54 (tn x))) then fitF (σ 53 (tn x)) v else (-1000012)) else (-1000001)
def msetM (σ : Mem) (x i v : Int32) : Mem := if inr x 8 then (if σ 53 (tn x) = (-1) then mu (m1 σ) 52 1 (nI 1) else if inr i (tn (σ 54 (tn x))) then mu (m1 σ) 55 (60 * tn x + tn i) (fitF (σ 53 (tn x)) v) else mu (m1 σ) 52 1 (nI 2)) else m0 σ
set_option maxRecDepth 100000 in
set_option maxHeartbeats 4000000 in
theorem c_mset (x i v : Int32) (σ : Mem) (hz : mzok σ) : Cc yX6_set cX6_set 4 (some .int) 2 [.ref 52, .int x, .int i, .int v] σ (rI (msetV σ x i v) (msetM σ x i v)) := by
  refine Cc.intro (by decide +kernel) [some (.ref 52), some (.int x), some (.int i), some (.int v)] (fun _ => rfl) rfl (fun _ => Nat.le_of_ble_eq_true rfl) ?_
  intro X hX hR hr
  have b53 : m1 σ 53 = σ 53 := m1_r (by decide)
  have b54 : m1 σ 54 = σ 54 := m1_r (by decide)
  have z0 : ∀ {z : Int32}, z = 0 ↔ z = nI 0 := fun {z} => by rw [nI_0]
  refine V_aload_n (pc := 0) (i := 0) hX dX6_set_0 rfl rfl ?_
  refine V_iconst (pc := 1) (v := (nI 0)) hX dX6_set_1 (by decide +kernel) ?_
  refine V_putf (pc := 2) hX fX6_66 gi6_0 dX6_set_2 rfl rfl ?_
  refine Vw.mem (rfl : m0 σ = _) ?_
  refine V_iload_n (pc := 5) (i := 1) hX dX6_set_5 rfl rfl ?_
  refine V_callSi (pc := 6) hX (hR.mono (by omega)) mX6_79 (c_misSheet _ _) dX6_set_6 rfl rfl rfl (Nat.le_of_ble_eq_true rfl) ?_
  refine V_if_neB (pc := 9) (tgt := 15) hX dX6_set_9 (by decide) (fun h9 => ?_) (fun h9 => ?_)
  · obtain ⟨s, hs, rfl⟩ := inr_of h9 (by decide)
    obtain ⟨hl, m, hm, em⟩ := hz s hs
    refine V_aload_n (pc := 15) (i := 0) hX dX6_set_15 rfl rfl ?_
    refine V_iconst (pc := 16) (v := (nI 0)) hX dX6_set_16 (by decide +kernel) ?_
    refine V_putf (pc := 17) hX fX6_69 gi6_1 dX6_set_17 rfl rfl ?_
    refine Vw.mem (rfl : m1 σ = _) ?_
    refine V_aload_n (pc := 20) (i := 0) hX dX6_set_20 rfl rfl ?_
    refine V_getr (pc := 21) hX fX6_7 dX6_set_21 rfl rfl ?_
    refine V_iload_n (pc := 24) (i := 1) hX dX6_set_24 rfl rfl ?_
    refine V_iald (pc := 25) hX dX6_set_25 (rfl) (rfl) (by omega) (by decide) ?_
    rw [b53]
    refine V_if_ge (pc := 26) (tgt := 35) hX dX6_set_26 (by decide) (fun h26 => ?_) (fun h26 => ?_)
    · refine V_iload_n (pc := 35) (i := 2) hX dX6_set_35 rfl rfl ?_
      refine V_i2l (pc := 36) hX dX6_set_36 ?_
      refine V_lconst (pc := 37) (v := lN 0) hX dX6_set_37 (by decide +kernel) ?_
      refine V_aload_n (pc := 38) (i := 0) hX dX6_set_38 rfl rfl ?_
      refine V_getr (pc := 39) hX fX6_13 dX6_set_39 rfl rfl ?_
      refine V_iload_n (pc := 42) (i := 1) hX dX6_set_42 rfl rfl ?_
      refine V_iald (pc := 43) hX dX6_set_43 (rfl) (rfl) (by omega) (by decide) ?_
      rw [b54, em]
      refine V_iconst (pc := 44) (v := (nI 1)) hX dX6_set_44 (by decide +kernel) ?_
      refine V_isub (pc := 45) hX dX6_set_45 ?_
      refine V_i2l (pc := 46) hX dX6_set_46 ?_
      refine V_callSi (pc := 47) hX (hR.mono (by omega)) mX6_75 (c_inS i m (by omega) _) dX6_set_47 rfl rfl rfl (Nat.le_of_ble_eq_true rfl) ?_
      refine V_if_neB (pc := 50) (tgt := 59) hX dX6_set_50 (by decide) (fun h50 => ?_) (fun h50 => ?_)
      · obtain ⟨j, hj, rfl⟩ := inr_of h50 (by omega)
        refine V_aload_n (pc := 59) (i := 0) hX dX6_set_59 rfl rfl ?_
        refine V_getr (pc := 60) hX fX6_16 dX6_set_60 rfl rfl ?_
        refine V_bipush (pc := 63) (v := (nI 60)) hX dX6_set_63 (by decide +kernel) ?_
        refine V_iload_n (pc := 65) (i := 1) hX dX6_set_65 rfl rfl ?_
        refine V_imul (pc := 66) hX dX6_set_66 ?_
        refine V_iload_n (pc := 67) (i := 2) hX dX6_set_67 rfl rfl ?_
        refine V_iadd (pc := 68) hX dX6_set_68 ?_
        refine V_aload_n (pc := 69) (i := 0) hX dX6_set_69 rfl rfl ?_
        refine V_getr (pc := 70) hX fX6_7 dX6_set_70 rfl rfl ?_
        refine V_iload_n (pc := 73) (i := 1) hX dX6_set_73 rfl rfl ?_
        refine V_iald (pc := 74) hX dX6_set_74 (rfl) (rfl) (by omega) (by decide) ?_
        rw [b53]
        refine V_if_ne (pc := 75) (tgt := 83) hX dX6_set_75 (by decide) (fun h75 => ?_) (fun h75 => ?_)
        · refine V_aload_n (pc := 83) (i := 0) hX dX6_set_83 rfl rfl ?_
          refine V_getr (pc := 84) hX fX6_7 dX6_set_84 rfl rfl ?_
          refine V_iload_n (pc := 87) (i := 1) hX dX6_set_87 rfl rfl ?_
          refine V_iald (pc := 88) hX dX6_set_88 (rfl) (rfl) (by omega) (by decide) ?_
          refine V_iconst (pc := 89) (v := (nI 1)) hX dX6_set_89 (by decide +kernel) ?_
          rw [b53]
          refine V_icmp_ne (pc := 90) (tgt := 98) hX dX6_set_90 (by decide) (fun h90 => ?_) (fun h90 => ?_)
          · refine V_iload_n (pc := 98) (i := 3) hX dX6_set_98 rfl rfl ?_
            refine V_iast (pc := 99) hX dX6_set_99 (rfl) (show _ = nI (60 * s + j) by rw [pk_mul, nI_add]) (by omega) (by decide) ?_
            refine V_aload_n (pc := 100) (i := 0) hX dX6_set_100 rfl rfl ?_
            refine V_getr (pc := 101) hX fX6_16 dX6_set_101 rfl rfl ?_
            refine V_bipush (pc := 104) (v := (nI 60)) hX dX6_set_104 (by decide +kernel) ?_
            refine V_iload_n (pc := 106) (i := 1) hX dX6_set_106 rfl rfl ?_
            refine V_imul (pc := 107) hX dX6_set_107 ?_
            refine V_iload_n (pc := 108) (i := 2) hX dX6_set_108 rfl rfl ?_
            refine V_iadd (pc := 109) hX dX6_set_109 ?_
            refine V_iald (pc := 110) hX dX6_set_110 (rfl) (show _ = nI (60 * s + j) by rw [pk_mul, nI_add]) (by omega) (by decide) ?_
            exact V_iret (pc := 111) (st := []) hX hr (by first | rfl | exact bI_nar _ | decide +kernel) dX6_set_111 (⟨by rw [mu_at, msetV, h9, if_pos rfl, tn_nI (by omega), if_neg (lane_pos h26), em, tn_nI (by omega), h50, if_pos rfl, fitF, if_neg (fun q => h75 (z0.mpr q)), if_neg h90], by rw [msetM, h9, if_pos rfl, tn_nI (by omega), if_neg (lane_pos h26), em, tn_nI (by omega), h50, if_pos rfl, fitF, if_neg (fun q => h75 (z0.mpr q)), if_neg h90, tn_nI (by omega)]⟩)
          · refine V_iload_n (pc := 93) (i := 3) hX dX6_set_93 rfl rfl ?_
            refine V_i2s (pc := 94) hX dX6_set_94 ?_
            refine V_goto (pc := 95) (tgt := 99) hX dX6_set_95 (by decide) ?_
            refine V_iast (pc := 99) hX dX6_set_99 (rfl) (show _ = nI (60 * s + j) by rw [pk_mul, nI_add]) (by omega) (by decide) ?_
            refine V_aload_n (pc := 100) (i := 0) hX dX6_set_100 rfl rfl ?_
            refine V_getr (pc := 101) hX fX6_16 dX6_set_101 rfl rfl ?_
            refine V_bipush (pc := 104) (v := (nI 60)) hX dX6_set_104 (by decide +kernel) ?_
            refine V_iload_n (pc := 106) (i := 1) hX dX6_set_106 rfl rfl ?_
            refine V_imul (pc := 107) hX dX6_set_107 ?_
            refine V_iload_n (pc := 108) (i := 2) hX dX6_set_108 rfl rfl ?_
            refine V_iadd (pc := 109) hX dX6_set_109 ?_
            refine V_iald (pc := 110) hX dX6_set_110 (rfl) (show _ = nI (60 * s + j) by rw [pk_mul, nI_add]) (by omega) (by decide) ?_
            exact V_iret (pc := 111) (st := []) hX hr (by first | rfl | exact bI_nar _ | decide +kernel) dX6_set_111 (⟨by rw [mu_at, msetV, h9, if_pos rfl, tn_nI (by omega), if_neg (lane_pos h26), em, tn_nI (by omega), h50, if_pos rfl, fitF, if_neg (fun q => h75 (z0.mpr q)), if_pos h90], by rw [msetM, h9, if_pos rfl, tn_nI (by omega), if_neg (lane_pos h26), em, tn_nI (by omega), h50, if_pos rfl, fitF, if_neg (fun q => h75 (z0.mpr q)), if_pos h90, tn_nI (by omega)]⟩)
        · refine V_iload_n (pc := 78) (i := 3) hX dX6_set_78 rfl rfl ?_
          refine V_i2b (pc := 79) hX dX6_set_79 ?_
          refine V_goto (pc := 80) (tgt := 99) hX dX6_set_80 (by decide) ?_
          refine V_iast (pc := 99) hX dX6_set_99 (rfl) (show _ = nI (60 * s + j) by rw [pk_mul, nI_add]) (by omega) (by decide) ?_
          refine V_aload_n (pc := 100) (i := 0) hX dX6_set_100 rfl rfl ?_
          refine V_getr (pc := 101) hX fX6_16 dX6_set_101 rfl rfl ?_
          refine V_bipush (pc := 104) (v := (nI 60)) hX dX6_set_104 (by decide +kernel) ?_
          refine V_iload_n (pc := 106) (i := 1) hX dX6_set_106 rfl rfl ?_
          refine V_imul (pc := 107) hX dX6_set_107 ?_
          refine V_iload_n (pc := 108) (i := 2) hX dX6_set_108 rfl rfl ?_
          refine V_iadd (pc := 109) hX dX6_set_109 ?_
          refine V_iald (pc := 110) hX dX6_set_110 (rfl) (show _ = nI (60 * s + j) by rw [pk_mul, nI_add]) (by omega) (by decide) ?_
          exact V_iret (pc := 111) (st := []) hX hr (by first | rfl | exact bI_nar _ | decide +kernel) dX6_set_111 (⟨by rw [mu_at, msetV, h9, if_pos rfl, tn_nI (by omega), if_neg (lane_pos h26), em, tn_nI (by omega), h50, if_pos rfl, fitF, if_pos (z0.mp h75)], by rw [msetM, h9, if_pos rfl, tn_nI (by omega), if_neg (lane_pos h26), em, tn_nI (by omega), h50, if_pos rfl, fitF, if_pos (z0.mp h75), tn_nI (by omega)]⟩)
      · refine V_aload_n (pc := 53) (i := 0) hX dX6_set_53 rfl rfl ?_
        refine V_iconst (pc := 54) (v := (nI 2)) hX dX6_set_54 (by decide +kernel) ?_
        refine V_callVi (pc := 55) hX (hR.mono (by omega)) mX6_86 (c_found _ _) dX6_set_55 rfl rfl rfl rfl (Nat.le_of_ble_eq_true rfl) ?_
        exact V_iret (pc := 58) (st := []) hX hr (by first | rfl | exact bI_nar _ | decide +kernel) dX6_set_58 (⟨by rw [msetV, h9, if_pos rfl, tn_nI (by omega), if_neg (lane_pos h26), em, tn_nI (by omega), h50]; rfl, by rw [msetM, h9, if_pos rfl, tn_nI (by omega), if_neg (lane_pos h26), em, tn_nI (by omega), h50]; rfl⟩)
    · refine V_aload_n (pc := 29) (i := 0) hX dX6_set_29 rfl rfl ?_
      refine V_iconst (pc := 30) (v := (nI 1)) hX dX6_set_30 (by decide +kernel) ?_
      refine V_callVi (pc := 31) hX (hR.mono (by omega)) mX6_86 (c_found _ _) dX6_set_31 rfl rfl rfl rfl (Nat.le_of_ble_eq_true rfl) ?_
      exact V_iret (pc := 34) (st := []) hX hr (by first | rfl | exact bI_nar _ | decide +kernel) dX6_set_34 (⟨by rw [msetV, h9, if_pos rfl, tn_nI (by omega), if_pos (lane_neg hz hs h26)]; rfl, by rw [msetM, h9, if_pos rfl, tn_nI (by omega), if_pos (lane_neg hz hs h26)]⟩)
  · refine V_ldc (pc := 12) hX kX6_85 dX6_set_12 ?_
    exact V_iret (pc := 14) (st := []) hX hr (by first | rfl | exact bI_nar _ | decide +kernel) dX6_set_14 (⟨by rw [msetV, h9]; rfl, by rw [msetM, h9]; rfl⟩)
def mdropV (σ : Mem) (x : Int32) : Int32 := if inr x 8 then (if σ 53 (tn x) = (-1) then (-1000011) else σ 54 (tn x)) else (-1000001)
def mdropM (σ : Mem) (x : Int32) : Mem := if inr x 8 then (if σ 53 (tn x) = (-1) then mu (m1 σ) 52 1 (nI 1) else mu (m1 σ) 53 (tn x) (-1)) else m0 σ
set_option maxRecDepth 100000 in
set_option maxHeartbeats 4000000 in
theorem c_mdrop (x : Int32) (σ : Mem) (hz : mzok σ) : Cc yX6_drop cX6_drop 2 (some .int) 2 [.ref 52, .int x] σ (rI (mdropV σ x) (mdropM σ x)) := by
  refine Cc.intro (by decide +kernel) [some (.ref 52), some (.int x)] (fun _ => rfl) rfl (fun _ => Nat.le_of_ble_eq_true rfl) ?_
  intro X hX hR hr
  have b53 : m1 σ 53 = σ 53 := m1_r (by decide)
  have b54 : m1 σ 54 = σ 54 := m1_r (by decide)
  refine V_aload_n (pc := 0) (i := 0) hX dX6_drop_0 rfl rfl ?_
  refine V_iconst (pc := 1) (v := (nI 0)) hX dX6_drop_1 (by decide +kernel) ?_
  refine V_putf (pc := 2) hX fX6_66 gi6_0 dX6_drop_2 rfl rfl ?_
  refine Vw.mem (rfl : m0 σ = _) ?_
  refine V_iload_n (pc := 5) (i := 1) hX dX6_drop_5 rfl rfl ?_
  refine V_callSi (pc := 6) hX (hR.mono (by omega)) mX6_79 (c_misSheet _ _) dX6_drop_6 rfl rfl rfl (Nat.le_of_ble_eq_true rfl) ?_
  refine V_if_neB (pc := 9) (tgt := 15) hX dX6_drop_9 (by decide) (fun h9 => ?_) (fun h9 => ?_)
  · obtain ⟨s, hs, rfl⟩ := inr_of h9 (by decide)
    refine V_aload_n (pc := 15) (i := 0) hX dX6_drop_15 rfl rfl ?_
    refine V_iconst (pc := 16) (v := (nI 0)) hX dX6_drop_16 (by decide +kernel) ?_
    refine V_putf (pc := 17) hX fX6_69 gi6_1 dX6_drop_17 rfl rfl ?_
    refine Vw.mem (rfl : m1 σ = _) ?_
    refine V_aload_n (pc := 20) (i := 0) hX dX6_drop_20 rfl rfl ?_
    refine V_getr (pc := 21) hX fX6_7 dX6_drop_21 rfl rfl ?_
    refine V_iload_n (pc := 24) (i := 1) hX dX6_drop_24 rfl rfl ?_
    refine V_iald (pc := 25) hX dX6_drop_25 (rfl) (rfl) (by omega) (by decide) ?_
    rw [b53]
    refine V_if_ge (pc := 26) (tgt := 35) hX dX6_drop_26 (by decide) (fun h26 => ?_) (fun h26 => ?_)
    · refine V_aload_n (pc := 35) (i := 0) hX dX6_drop_35 rfl rfl ?_
      refine V_getr (pc := 36) hX fX6_7 dX6_drop_36 rfl rfl ?_
      refine V_iload_n (pc := 39) (i := 1) hX dX6_drop_39 rfl rfl ?_
      refine V_iconst (pc := 40) (v := (-1)) hX dX6_drop_40 (by decide +kernel) ?_
      refine V_iast (pc := 41) hX dX6_drop_41 (rfl) (rfl) (by omega) (by decide) ?_
      refine V_aload_n (pc := 42) (i := 0) hX dX6_drop_42 rfl rfl ?_
      refine V_getr (pc := 43) hX fX6_13 dX6_drop_43 rfl rfl ?_
      refine V_iload_n (pc := 46) (i := 1) hX dX6_drop_46 rfl rfl ?_
      refine V_iald (pc := 47) hX dX6_drop_47 (rfl) (rfl) (by omega) (by decide) ?_
      exact V_iret (pc := 48) (st := []) hX hr (by first | rfl | exact bI_nar _ | decide +kernel) dX6_drop_48 (⟨by rw [mdropV, h9, if_pos rfl, tn_nI (by omega), if_neg (lane_pos h26), ← mu_ne (by decide), b54], by rw [mdropM, h9, if_pos rfl, tn_nI (by omega), if_neg (lane_pos h26)]⟩)
    · refine V_aload_n (pc := 29) (i := 0) hX dX6_drop_29 rfl rfl ?_
      refine V_iconst (pc := 30) (v := (nI 1)) hX dX6_drop_30 (by decide +kernel) ?_
      refine V_callVi (pc := 31) hX (hR.mono (by omega)) mX6_86 (c_found _ _) dX6_drop_31 rfl rfl rfl rfl (Nat.le_of_ble_eq_true rfl) ?_
      exact V_iret (pc := 34) (st := []) hX hr (by first | rfl | exact bI_nar _ | decide +kernel) dX6_drop_34 (⟨by rw [mdropV, h9, if_pos rfl, tn_nI (by omega), if_pos (lane_neg hz hs h26)]; rfl, by rw [mdropM, h9, if_pos rfl, tn_nI (by omega), if_pos (lane_neg hz hs h26)]⟩)
  · refine V_ldc (pc := 12) hX kX6_85 dX6_drop_12 ?_
    exact V_iret (pc := 14) (st := []) hX hr (by first | rfl | exact bI_nar _ | decide +kernel) dX6_drop_14 (⟨by rw [mdropV, h9]; rfl, by rw [mdropM, h9]; rfl⟩)
end
section
theorem long_sum {i n x : Int32} : (i.toInt64 + n.toInt64).toInt = i.toInt + n.toInt := by
  have a1 := Int32.toInt_lt i
  have a2 := Int32.le_toInt i
  have b1 := Int32.toInt_lt n
  have b2 := Int32.le_toInt n
  rw [Int64.toInt_add, Int32.toInt_toInt64, Int32.toInt_toInt64]
  exact Int.bmod_eq_of_le (by omega) (by omega)
theorem row_gt {i n x : Int32} (h : lg_cmp (i.toInt64 + n.toInt64) x.toInt64 > 0) : ¬ i.toInt + n.toInt ≤ x.toInt := by
  have h1 := (lg_cmp_gt _ _).mp h
  rw [Int64.lt_iff_toInt_lt, long_sum (x := x), Int32.toInt_toInt64] at h1
  omega
theorem row_le {i n x : Int32} (h : ¬ lg_cmp (i.toInt64 + n.toInt64) x.toInt64 > 0) : i.toInt + n.toInt ≤ x.toInt := by
  have h1 : ¬ x.toInt64 < i.toInt64 + n.toInt64 := fun q => h ((lg_cmp_gt _ _).mpr q)
  rw [Int64.lt_iff_toInt_lt, long_sum (x := x), Int32.toInt_toInt64] at h1
  omega
theorem cpy_up {f : Nat → Int32} {src dst n k : Nat} (hk : k < n) (h : dst ≤ src ∨ src + n ≤ dst) : upd (va_cpy f f src dst k) (dst + k) (va_cpy f f src dst k (src + k)) = va_cpy f f src dst (k + 1) := by
  have e : va_cpy f f src dst k (src + k) = f (src + k) := pk_cpy_out (by omega)
  rw [e]
  funext i
  simp only [upd, va_cpy]
  by_cases h1 : i = dst + k
  · rw [if_pos h1, if_pos (by omega), show src + (i - dst) = src + k by omega]
  · rw [if_neg h1]
    by_cases h2 : dst ≤ i ∧ i < dst + k
    · rw [if_pos h2, if_pos (by omega)]
    · rw [if_neg h2, if_neg (by omega)]
theorem cpy_dn {f : Nat → Int32} {src dst n k : Nat} (hk : k < n) (h : src ≤ dst ∨ dst + n ≤ src) : upd (va_cpy f f (src + (n - k)) (dst + (n - k)) k) (dst + (n - 1 - k)) (va_cpy f f (src + (n - k)) (dst + (n - k)) k (src + (n - 1 - k))) = va_cpy f f (src + (n - (k + 1))) (dst + (n - (k + 1))) (k + 1) := by
  have e : va_cpy f f (src + (n - k)) (dst + (n - k)) k (src + (n - 1 - k)) = f (src + (n - 1 - k)) := pk_cpy_out (by omega)
  rw [e]
  funext i
  simp only [upd, va_cpy]
  by_cases h1 : i = dst + (n - 1 - k)
  · rw [if_pos h1, if_pos (by omega), show src + (n - (k + 1)) + (i - (dst + (n - (k + 1)))) = src + (n - 1 - k) by omega]
  · rw [if_neg h1]
    by_cases h2 : dst + (n - k) ≤ i ∧ i < dst + (n - k) + k
    · rw [if_pos h2, if_pos (by omega), show src + (n - (k + 1)) + (i - (dst + (n - (k + 1)))) = src + (n - k) + (i - (dst + (n - k))) by omega]
    · rw [if_neg h2, if_neg (by omega)]
theorem cpy_0 (f g : Nat → Int32) (sp dp : Nat) : va_cpy f g sp dp 0 = g := by
  funext i
  simp only [va_cpy]
  rw [if_neg (by omega)]
set_option maxRecDepth 100000 in
set_option maxHeartbeats 4000000 in
theorem l_mcopyU {a b i j n : Nat} {z : Option Value} {X : XC} {P : Option Value → Mem → Prop} {σ : Mem} (hX : Cok X RX6 cX6_copy 9) (hR : Rok X 0) (hr : Ret X (some .int) P) (hz : nol [z] = true) (ha : a < 8) (hb : b < 8) (hi : i + n ≤ 60) (hj : j + n ≤ 60) (hd : 60 * b + j ≤ 60 * a + i ∨ 60 * a + i + n ≤ 60 * b + j) (hp : P (some (.int (nI n))) (mf σ 55 (va_cpy (σ 55) (σ 55) (60 * a + i) (60 * b + j) n))) (k : Nat) (hk : k ≤ n) :
    Vw X 143 [some (.ref 52), some (.int (nI a)), some (.int (nI i)), some (.int (nI b)), some (.int (nI j)), some (.int (nI n)), some (.int (bI true)), some (.int (nI k)), z] [] (mf σ 55 (va_cpy (σ 55) (σ 55) (60 * a + i) (60 * b + j) k)) := by
  have ih := fun (h : k < n) => l_mcopyU hX hR hr (z := some (.int (nI k))) rfl ha hb hi hj hd hp (k + 1) h
  refine V_iload (pc := 143) (i := 7) hX dX6_copy_143 rfl ?_
  refine V_iload (pc := 145) (i := 5) hX dX6_copy_145 rfl ?_
  refine V_icmp_geN (pc := 147) (tgt := 204) hX dX6_copy_147 (by decide) (by omega) (by omega) (fun h147 => ?_) (fun h147 => ?_)
  · obtain rfl : k = n := by omega
    refine V_iload (pc := 204) (i := 5) hX dX6_copy_204 rfl ?_
    exact V_iret (pc := 206) (st := []) hX hr (by first | rfl | exact bI_nar _ | decide +kernel) dX6_copy_206 (hp)
  · refine V_iload (pc := 150) (i := 6) hX dX6_copy_150 rfl ?_
    refine V_if_eqB (pc := 152) (tgt := 160) hX dX6_copy_152 (by decide) (fun h152 => absurd h152 (by decide)) (fun h152 => ?_)
    refine V_iload (pc := 155) (i := 7) hX dX6_copy_155 rfl ?_
    refine V_goto (pc := 157) (tgt := 167) hX dX6_copy_157 (by decide) ?_
    refine V_istore8 (pc := 167) hX dX6_copy_167 hz ?_
    refine V_aload_n (pc := 169) (i := 0) hX dX6_copy_169 rfl rfl ?_
    refine V_getr (pc := 170) hX fX6_16 dX6_copy_170 rfl rfl ?_
    refine V_bipush (pc := 173) (v := (nI 60)) hX dX6_copy_173 (by decide +kernel) ?_
    refine V_iload_n (pc := 175) (i := 3) hX dX6_copy_175 rfl rfl ?_
    refine V_imul (pc := 176) hX dX6_copy_176 ?_
    refine V_iload (pc := 177) (i := 4) hX dX6_copy_177 rfl ?_
    refine V_iadd (pc := 179) hX dX6_copy_179 ?_
    refine V_iload (pc := 180) (i := 8) hX dX6_copy_180 rfl ?_
    refine V_iadd (pc := 182) hX dX6_copy_182 ?_
    refine V_aload_n (pc := 183) (i := 0) hX dX6_copy_183 rfl rfl ?_
    refine V_getr (pc := 184) hX fX6_16 dX6_copy_184 rfl rfl ?_
    refine V_bipush (pc := 187) (v := (nI 60)) hX dX6_copy_187 (by decide +kernel) ?_
    refine V_iload_n (pc := 189) (i := 1) hX dX6_copy_189 rfl rfl ?_
    refine V_imul (pc := 190) hX dX6_copy_190 ?_
    refine V_iload_n (pc := 191) (i := 2) hX dX6_copy_191 rfl rfl ?_
    refine V_iadd (pc := 192) hX dX6_copy_192 ?_
    refine V_iload (pc := 193) (i := 8) hX dX6_copy_193 rfl ?_
    refine V_iadd (pc := 195) hX dX6_copy_195 ?_
    refine V_iald (pc := 196) hX dX6_copy_196 (rfl) (show _ = nI (60 * a + i + k) by rw [pk_mul, nI_add, nI_add]) (by omega) (by decide) ?_
    refine V_iast (pc := 197) hX dX6_copy_197 (rfl) (show _ = nI (60 * b + j + k) by rw [pk_mul, nI_add, nI_add]) (by omega) (by decide) ?_
    refine V_iinc7 (pc := 198) hX dX6_copy_198 rfl (iinc1 _) ?_
    refine V_goto (pc := 201) (tgt := 143) hX dX6_copy_201 (by decide) ?_
    have ihk := ih h147
    rw [mf_at, if_pos rfl, mf_mu, cpy_up h147 hd]
    exact ihk
termination_by n - k
set_option maxRecDepth 100000 in
set_option maxHeartbeats 4000000 in
theorem l_mcopyD {a b i j n : Nat} {z : Option Value} {X : XC} {P : Option Value → Mem → Prop} {σ : Mem} (hX : Cok X RX6 cX6_copy 9) (hR : Rok X 0) (hr : Ret X (some .int) P) (hz : nol [z] = true) (ha : a < 8) (hb : b < 8) (hi : i + n ≤ 60) (hj : j + n ≤ 60) (hd : 60 * a + i ≤ 60 * b + j ∨ 60 * b + j + n ≤ 60 * a + i) (hp : P (some (.int (nI n))) (mf σ 55 (va_cpy (σ 55) (σ 55) (60 * a + i) (60 * b + j) n))) (k : Nat) (hk : k ≤ n) :
    Vw X 143 [some (.ref 52), some (.int (nI a)), some (.int (nI i)), some (.int (nI b)), some (.int (nI j)), some (.int (nI n)), some (.int (bI false)), some (.int (nI k)), z] [] (mf σ 55 (va_cpy (σ 55) (σ 55) (60 * a + i + (n - k)) (60 * b + j + (n - k)) k)) := by
  have ih := fun (h : k < n) => l_mcopyD hX hR hr (z := some (.int (nI (n - 1 - k)))) rfl ha hb hi hj hd hp (k + 1) h
  refine V_iload (pc := 143) (i := 7) hX dX6_copy_143 rfl ?_
  refine V_iload (pc := 145) (i := 5) hX dX6_copy_145 rfl ?_
  refine V_icmp_geN (pc := 147) (tgt := 204) hX dX6_copy_147 (by decide) (by omega) (by omega) (fun h147 => ?_) (fun h147 => ?_)
  · obtain rfl : k = n := by omega
    rw [Nat.sub_self, Nat.add_zero, Nat.add_zero]
    refine V_iload (pc := 204) (i := 5) hX dX6_copy_204 rfl ?_
    exact V_iret (pc := 206) (st := []) hX hr (by first | rfl | exact bI_nar _ | decide +kernel) dX6_copy_206 (hp)
  · refine V_iload (pc := 150) (i := 6) hX dX6_copy_150 rfl ?_
    refine V_if_eqB (pc := 152) (tgt := 160) hX dX6_copy_152 (by decide) (fun h152 => ?_) (fun h152 => absurd h152 (by decide))
    refine V_iload (pc := 160) (i := 5) hX dX6_copy_160 rfl ?_
    refine V_iconst (pc := 162) (v := (nI 1)) hX dX6_copy_162 (by decide +kernel) ?_
    refine V_isub (pc := 163) hX dX6_copy_163 ?_
    refine V_iload (pc := 164) (i := 7) hX dX6_copy_164 rfl ?_
    refine V_isub (pc := 166) hX dX6_copy_166 ?_
    rw [pk_sub (by omega), pk_sub (by omega)]
    refine V_istore8 (pc := 167) hX dX6_copy_167 hz ?_
    refine V_aload_n (pc := 169) (i := 0) hX dX6_copy_169 rfl rfl ?_
    refine V_getr (pc := 170) hX fX6_16 dX6_copy_170 rfl rfl ?_
    refine V_bipush (pc := 173) (v := (nI 60)) hX dX6_copy_173 (by decide +kernel) ?_
    refine V_iload_n (pc := 175) (i := 3) hX dX6_copy_175 rfl rfl ?_
    refine V_imul (pc := 176) hX dX6_copy_176 ?_
    refine V_iload (pc := 177) (i := 4) hX dX6_copy_177 rfl ?_
    refine V_iadd (pc := 179) hX dX6_copy_179 ?_
    refine V_iload (pc := 180) (i := 8) hX dX6_copy_180 rfl ?_
    refine V_iadd (pc := 182) hX dX6_copy_182 ?_
    refine V_aload_n (pc := 183) (i := 0) hX dX6_copy_183 rfl rfl ?_
    refine V_getr (pc := 184) hX fX6_16 dX6_copy_184 rfl rfl ?_
    refine V_bipush (pc := 187) (v := (nI 60)) hX dX6_copy_187 (by decide +kernel) ?_
    refine V_iload_n (pc := 189) (i := 1) hX dX6_copy_189 rfl rfl ?_
    refine V_imul (pc := 190) hX dX6_copy_190 ?_
    refine V_iload_n (pc := 191) (i := 2) hX dX6_copy_191 rfl rfl ?_
    refine V_iadd (pc := 192) hX dX6_copy_192 ?_
    refine V_iload (pc := 193) (i := 8) hX dX6_copy_193 rfl ?_
    refine V_iadd (pc := 195) hX dX6_copy_195 ?_
    refine V_iald (pc := 196) hX dX6_copy_196 (rfl) (show _ = nI (60 * a + i + (n - 1 - k)) by rw [pk_mul, nI_add, nI_add]) (by omega) (by decide) ?_
    refine V_iast (pc := 197) hX dX6_copy_197 (rfl) (show _ = nI (60 * b + j + (n - 1 - k)) by rw [pk_mul, nI_add, nI_add]) (by omega) (by decide) ?_
    refine V_iinc7 (pc := 198) hX dX6_copy_198 rfl (iinc1 _) ?_
    refine V_goto (pc := 201) (tgt := 143) hX dX6_copy_201 (by decide) ?_
    have ihk := ih h147
    rw [mf_at, if_pos rfl, mf_mu, cpy_dn h147 hd]
    exact ihk
termination_by n - k
def mcpf (σ : Mem) (a b i j n : Int32) : Int32 := if σ 53 (tn a) = (-1) ∨ σ 53 (tn b) = (-1) then nI 1 else if σ 53 (tn a) = σ 53 (tn b) then (if rowM (σ 54 (tn a)) i n ∧ rowM (σ 54 (tn b)) j n then nI 0 else nI 2) else nI 5
def mcopyV (σ : Mem) (a i b j n : Int32) : Int32 := if cpOK a b then (if mcpf σ a b i j n = 0 then n else (-1000010) - mcpf σ a b i j n) else (-1000001)
def mcopyM (σ : Mem) (a i b j n : Int32) : Mem := if cpOK a b then (if mcpf σ a b i j n = 0 then mf (m1 σ) 55 (va_cpy (σ 55) (σ 55) (60 * tn a + tn i) (60 * tn b + tn j) (tn n)) else mu (m1 σ) 52 1 (mcpf σ a b i j n)) else m0 σ
set_option maxRecDepth 100000 in
set_option maxHeartbeats 4000000 in
theorem c_mcopy (a i b j n : Int32) (σ : Mem) (hz : mzok σ) : Cc yX6_copy cX6_copy 9 (some .int) 2 [.ref 52, .int a, .int i, .int b, .int j, .int n] σ (rI (mcopyV σ a i b j n) (mcopyM σ a i b j n)) := by
  refine Cc.intro (by decide +kernel) [some (.ref 52), some (.int a), some (.int i), some (.int b), some (.int j), some (.int n), none, none, none] (fun _ => rfl) rfl (fun _ => Nat.le_of_ble_eq_true rfl) ?_
  intro X hX hR hr
  have b53 : m1 σ 53 = σ 53 := m1_r (by decide)
  have b54 : m1 σ 54 = σ 54 := m1_r (by decide)
  have b55 : m1 σ 55 = σ 55 := m1_r (by decide)
  refine V_aload_n (pc := 0) (i := 0) hX dX6_copy_0 rfl rfl ?_
  refine V_iconst (pc := 1) (v := (nI 0)) hX dX6_copy_1 (by decide +kernel) ?_
  refine V_putf (pc := 2) hX fX6_66 gi6_0 dX6_copy_2 rfl rfl ?_
  refine Vw.mem (rfl : m0 σ = _) ?_
  refine V_iload_n (pc := 5) (i := 1) hX dX6_copy_5 rfl rfl ?_
  refine V_callSi (pc := 6) hX (hR.mono (by omega)) mX6_79 (c_misSheet _ _) dX6_copy_6 rfl rfl rfl (Nat.le_of_ble_eq_true rfl) ?_
  refine V_if_eqB (pc := 9) (tgt := 19) hX dX6_copy_9 (by decide) (fun h9 => ?_) (fun h9 => ?_)
  · refine V_ldc (pc := 19) hX kX6_85 dX6_copy_19 ?_
    exact V_iret (pc := 21) (st := []) hX hr (by first | rfl | exact bI_nar _ | decide +kernel) dX6_copy_21 (⟨by rw [mcopyV, cpOK, h9]; rfl, by rw [mcopyM, cpOK, h9]; rfl⟩)
  · refine V_iload_n (pc := 12) (i := 3) hX dX6_copy_12 rfl rfl ?_
    refine V_callSi (pc := 13) hX (hR.mono (by omega)) mX6_79 (c_misSheet _ _) dX6_copy_13 rfl rfl rfl (Nat.le_of_ble_eq_true rfl) ?_
    refine V_if_neB (pc := 16) (tgt := 22) hX dX6_copy_16 (by decide) (fun h16 => ?_) (fun h16 => ?_)
    · obtain ⟨a', ha, rfl⟩ := inr_of h9 (by decide)
      obtain ⟨b', hb, rfl⟩ := inr_of h16 (by decide)
      obtain ⟨hla, ma, hma, ema⟩ := hz a' ha
      obtain ⟨hlb, mb, hmb, emb⟩ := hz b' hb
      have eo : cpOK (nI a') (nI b') = true := by rw [cpOK, h9, h16]; rfl
      have ta : tn (nI a') = a' := tn_nI (by omega)
      have tb : tn (nI b') = b' := tn_nI (by omega)
      have f1 : (σ 53 a' = (-1) ∨ σ 53 b' = (-1)) → mcpf σ (nI a') (nI b') i j n = nI 1 := fun h => by rw [mcpf, ta, tb, if_pos h]
      have f5 : ¬ (σ 53 a' = (-1) ∨ σ 53 b' = (-1)) → ¬ σ 53 a' = σ 53 b' → mcpf σ (nI a') (nI b') i j n = nI 5 := fun h h2 => by rw [mcpf, ta, tb, if_neg h, if_neg h2]
      have f2 : ¬ (σ 53 a' = (-1) ∨ σ 53 b' = (-1)) → σ 53 a' = σ 53 b' → ¬ (rowM (σ 54 a') i n = true ∧ rowM (σ 54 b') j n = true) → mcpf σ (nI a') (nI b') i j n = nI 2 := fun h h2 h3 => by rw [mcpf, ta, tb, if_neg h, if_pos h2, if_neg h3]
      have f0 : ¬ (σ 53 a' = (-1) ∨ σ 53 b' = (-1)) → σ 53 a' = σ 53 b' → (rowM (σ 54 a') i n = true ∧ rowM (σ 54 b') j n = true) → mcpf σ (nI a') (nI b') i j n = nI 0 := fun h h2 h3 => by rw [mcpf, ta, tb, if_neg h, if_pos h2, if_pos h3]
      have bad : ∀ k : Nat, 0 < k → k < 6 → mcpf σ (nI a') (nI b') i j n = nI k → some (Value.int ((-1000010) - nI k)) = some (Value.int (mcopyV σ (nI a') i (nI b') j n)) ∧ mu (m1 σ) 52 1 (nI k) = mcopyM σ (nI a') i (nI b') j n := by
        intro k h0 h6 e
        have h7 : ¬ nI k = 0 := nI_ne0 h0 (by omega)
        exact ⟨by rw [mcopyV, eo, if_pos rfl, e, if_neg h7], by rw [mcopyM, eo, if_pos rfl, e, if_neg h7]⟩
      have neg : ∀ {x : Int32}, x < 0 → ¬ 0 ≤ x.toInt := fun {x} h q => by
        rw [Int32.lt_iff_toInt_lt, Int32.toInt_zero] at h
        omega
      have pos : ∀ {x : Int32}, ¬ x < 0 → 0 ≤ x.toInt := fun {x} h => by
        rw [Int32.lt_iff_toInt_lt, Int32.toInt_zero] at h
        omega
      refine V_aload_n (pc := 22) (i := 0) hX dX6_copy_22 rfl rfl ?_
      refine V_iconst (pc := 23) (v := (nI 0)) hX dX6_copy_23 (by decide +kernel) ?_
      refine V_putf (pc := 24) hX fX6_69 gi6_1 dX6_copy_24 rfl rfl ?_
      refine Vw.mem (rfl : m1 σ = _) ?_
      refine V_aload_n (pc := 27) (i := 0) hX dX6_copy_27 rfl rfl ?_
      refine V_getr (pc := 28) hX fX6_7 dX6_copy_28 rfl rfl ?_
      refine V_iload_n (pc := 31) (i := 1) hX dX6_copy_31 rfl rfl ?_
      refine V_iald (pc := 32) hX dX6_copy_32 (rfl) (rfl) (by omega) (by decide) ?_
      rw [b53]
      refine V_if_lt (pc := 33) (tgt := 45) hX dX6_copy_33 (by decide) (fun h33 => ?_) (fun h33 => ?_)
      · refine V_aload_n (pc := 45) (i := 0) hX dX6_copy_45 rfl rfl ?_
        refine V_iconst (pc := 46) (v := (nI 1)) hX dX6_copy_46 (by decide +kernel) ?_
        refine V_callVi (pc := 47) hX (hR.mono (by omega)) mX6_86 (c_found _ _) dX6_copy_47 rfl rfl rfl rfl (Nat.le_of_ble_eq_true rfl) ?_
        exact V_iret (pc := 50) (st := []) hX hr (by first | rfl | exact bI_nar _ | decide +kernel) dX6_copy_50 (bad 1 (by decide) (by decide) (f1 (Or.inl (lane_neg hz ha (Int32.not_le.mpr h33)))))
      · refine V_aload_n (pc := 36) (i := 0) hX dX6_copy_36 rfl rfl ?_
        refine V_getr (pc := 37) hX fX6_7 dX6_copy_37 rfl rfl ?_
        refine V_iload_n (pc := 40) (i := 3) hX dX6_copy_40 rfl rfl ?_
        refine V_iald (pc := 41) hX dX6_copy_41 (rfl) (rfl) (by omega) (by decide) ?_
        rw [b53]
        refine V_if_ge (pc := 42) (tgt := 51) hX dX6_copy_42 (by decide) (fun h42 => ?_) (fun h42 => ?_)
        · have hn1 : ¬ (σ 53 a' = (-1) ∨ σ 53 b' = (-1)) := fun q => q.elim (lane_pos (Int32.not_lt.mp h33)) (lane_pos h42)
          refine V_aload_n (pc := 51) (i := 0) hX dX6_copy_51 rfl rfl ?_
          refine V_getr (pc := 52) hX fX6_7 dX6_copy_52 rfl rfl ?_
          refine V_iload_n (pc := 55) (i := 1) hX dX6_copy_55 rfl rfl ?_
          refine V_iald (pc := 56) hX dX6_copy_56 (rfl) (rfl) (by omega) (by decide) ?_
          refine V_aload_n (pc := 57) (i := 0) hX dX6_copy_57 rfl rfl ?_
          refine V_getr (pc := 58) hX fX6_7 dX6_copy_58 rfl rfl ?_
          refine V_iload_n (pc := 61) (i := 3) hX dX6_copy_61 rfl rfl ?_
          refine V_iald (pc := 62) hX dX6_copy_62 (rfl) (rfl) (by omega) (by decide) ?_
          rw [b53]
          refine V_icmp_eq (pc := 63) (tgt := 72) hX dX6_copy_63 (by decide) (fun h63 => ?_) (fun h63 => ?_)
          · refine V_iload_n (pc := 72) (i := 2) hX dX6_copy_72 rfl rfl ?_
            refine V_if_lt (pc := 73) (tgt := 121) hX dX6_copy_73 (by decide) (fun h73 => ?_) (fun h73 => ?_)
            · refine V_aload_n (pc := 121) (i := 0) hX dX6_copy_121 rfl rfl ?_
              refine V_iconst (pc := 122) (v := (nI 2)) hX dX6_copy_122 (by decide +kernel) ?_
              refine V_callVi (pc := 123) hX (hR.mono (by omega)) mX6_86 (c_found _ _) dX6_copy_123 rfl rfl rfl rfl (Nat.le_of_ble_eq_true rfl) ?_
              exact V_iret (pc := 126) (st := []) hX hr (by first | rfl | exact bI_nar _ | decide +kernel) dX6_copy_126 (bad 2 (by decide) (by decide) (f2 hn1 h63 (fun q => neg h73 (of_decide_eq_true q.1).1)))
            · refine V_iload (pc := 76) (i := 4) hX dX6_copy_76 rfl ?_
              refine V_if_lt (pc := 78) (tgt := 121) hX dX6_copy_78 (by decide) (fun h78 => ?_) (fun h78 => ?_)
              · refine V_aload_n (pc := 121) (i := 0) hX dX6_copy_121 rfl rfl ?_
                refine V_iconst (pc := 122) (v := (nI 2)) hX dX6_copy_122 (by decide +kernel) ?_
                refine V_callVi (pc := 123) hX (hR.mono (by omega)) mX6_86 (c_found _ _) dX6_copy_123 rfl rfl rfl rfl (Nat.le_of_ble_eq_true rfl) ?_
                exact V_iret (pc := 126) (st := []) hX hr (by first | rfl | exact bI_nar _ | decide +kernel) dX6_copy_126 (bad 2 (by decide) (by decide) (f2 hn1 h63 (fun q => neg h78 (of_decide_eq_true q.2).1)))
              · refine V_iload (pc := 81) (i := 5) hX dX6_copy_81 rfl ?_
                refine V_if_lt (pc := 83) (tgt := 121) hX dX6_copy_83 (by decide) (fun h83 => ?_) (fun h83 => ?_)
                · refine V_aload_n (pc := 121) (i := 0) hX dX6_copy_121 rfl rfl ?_
                  refine V_iconst (pc := 122) (v := (nI 2)) hX dX6_copy_122 (by decide +kernel) ?_
                  refine V_callVi (pc := 123) hX (hR.mono (by omega)) mX6_86 (c_found _ _) dX6_copy_123 rfl rfl rfl rfl (Nat.le_of_ble_eq_true rfl) ?_
                  exact V_iret (pc := 126) (st := []) hX hr (by first | rfl | exact bI_nar _ | decide +kernel) dX6_copy_126 (bad 2 (by decide) (by decide) (f2 hn1 h63 (fun q => neg h83 (of_decide_eq_true q.1).2.1)))
                · refine V_iload_n (pc := 86) (i := 2) hX dX6_copy_86 rfl rfl ?_
                  refine V_i2l (pc := 87) hX dX6_copy_87 ?_
                  refine V_iload (pc := 88) (i := 5) hX dX6_copy_88 rfl ?_
                  refine V_i2l (pc := 90) hX dX6_copy_90 ?_
                  refine V_ladd (pc := 91) hX dX6_copy_91 ?_
                  refine V_aload_n (pc := 92) (i := 0) hX dX6_copy_92 rfl rfl ?_
                  refine V_getr (pc := 93) hX fX6_13 dX6_copy_93 rfl rfl ?_
                  refine V_iload_n (pc := 96) (i := 1) hX dX6_copy_96 rfl rfl ?_
                  refine V_iald (pc := 97) hX dX6_copy_97 (rfl) (rfl) (by omega) (by decide) ?_
                  rw [b54]
                  refine V_i2l (pc := 98) hX dX6_copy_98 ?_
                  refine V_lcmp (pc := 99) hX dX6_copy_99 ?_
                  refine V_if_gt (pc := 100) (tgt := 121) hX dX6_copy_100 (by decide) (fun h100 => ?_) (fun h100 => ?_)
                  · refine V_aload_n (pc := 121) (i := 0) hX dX6_copy_121 rfl rfl ?_
                    refine V_iconst (pc := 122) (v := (nI 2)) hX dX6_copy_122 (by decide +kernel) ?_
                    refine V_callVi (pc := 123) hX (hR.mono (by omega)) mX6_86 (c_found _ _) dX6_copy_123 rfl rfl rfl rfl (Nat.le_of_ble_eq_true rfl) ?_
                    exact V_iret (pc := 126) (st := []) hX hr (by first | rfl | exact bI_nar _ | decide +kernel) dX6_copy_126 (bad 2 (by decide) (by decide) (f2 hn1 h63 (fun q => row_gt h100 (of_decide_eq_true q.1).2.2)))
                  · refine V_iload (pc := 103) (i := 4) hX dX6_copy_103 rfl ?_
                    refine V_i2l (pc := 105) hX dX6_copy_105 ?_
                    refine V_iload (pc := 106) (i := 5) hX dX6_copy_106 rfl ?_
                    refine V_i2l (pc := 108) hX dX6_copy_108 ?_
                    refine V_ladd (pc := 109) hX dX6_copy_109 ?_
                    refine V_aload_n (pc := 110) (i := 0) hX dX6_copy_110 rfl rfl ?_
                    refine V_getr (pc := 111) hX fX6_13 dX6_copy_111 rfl rfl ?_
                    refine V_iload_n (pc := 114) (i := 3) hX dX6_copy_114 rfl rfl ?_
                    refine V_iald (pc := 115) hX dX6_copy_115 (rfl) (rfl) (by omega) (by decide) ?_
                    rw [b54]
                    refine V_i2l (pc := 116) hX dX6_copy_116 ?_
                    refine V_lcmp (pc := 117) hX dX6_copy_117 ?_
                    refine V_if_le (pc := 118) (tgt := 127) hX dX6_copy_118 (by decide) (fun h118 => ?_) (fun h118 => ?_)
                    · have ra : rowM (σ 54 a') i n = true := decide_eq_true ⟨pos h73, pos h83, row_le h100⟩
                      have rb : rowM (σ 54 b') j n = true := decide_eq_true ⟨pos h78, pos h83, row_le (Int32.not_lt.mpr h118)⟩
                      have e0 := f0 hn1 h63 ⟨ra, rb⟩
                      rw [ema] at ra
                      rw [emb] at rb
                      obtain ⟨i', n', rfl, rfl, hl1⟩ := rowM_of hma ra
                      obtain ⟨j', n2, rfl, e5, hl2⟩ := rowM_of hmb rb
                      obtain rfl : n' = n2 := by
                        have := congrArg Int32.toInt e5
                        rw [nI_toInt (by omega), nI_toInt (by omega)] at this
                        omega
                      have hgood : some (Value.int (nI n')) = some (Value.int (mcopyV σ (nI a') (nI i') (nI b') (nI j') (nI n'))) ∧ mf (m1 σ) 55 (va_cpy (m1 σ 55) (m1 σ 55) (60 * a' + i') (60 * b' + j') n') = mcopyM σ (nI a') (nI i') (nI b') (nI j') (nI n') :=
                        ⟨by rw [mcopyV, eo, if_pos rfl, e0, if_pos nI_0], by rw [mcopyM, eo, if_pos rfl, e0, if_pos nI_0, b55, ta, tb, tn_nI (by omega), tn_nI (by omega), tn_nI (by omega)]⟩
                      refine V_iload_n (pc := 127) (i := 2) hX dX6_copy_127 rfl rfl ?_
                      refine V_iload (pc := 128) (i := 4) hX dX6_copy_128 rfl ?_
                      refine V_icmp_lt (pc := 130) (tgt := 137) hX dX6_copy_130 (by decide) (fun h130 => ?_) (fun h130 => ?_)
                      · refine V_iconst (pc := 137) (v := (nI 0)) hX dX6_copy_137 (by decide +kernel) ?_
                        refine V_istore6 (pc := 138) hX dX6_copy_138 rfl ?_
                        refine V_iconst (pc := 140) (v := (nI 0)) hX dX6_copy_140 (by decide +kernel) ?_
                        refine V_istore7 (pc := 141) hX dX6_copy_141 rfl ?_
                        have h128 : i' < j' := (nI_ltI (by omega) (by omega)).mp h130
                        refine Vw.mem (show mf (m1 σ) 55 (va_cpy (m1 σ 55) (m1 σ 55) (60 * a' + i' + (n' - 0)) (60 * b' + j' + (n' - 0)) 0) = _ by rw [cpy_0, mf_id]) ?_
                        exact l_mcopyD (z := none) hX (hR.mono (by omega)) hr rfl ha hb (by omega) (by omega) (by rcases Nat.lt_trichotomy a' b' with q | q | q <;> omega) hgood 0 (by omega)
                      · refine V_iconst (pc := 133) (v := (nI 1)) hX dX6_copy_133 (by decide +kernel) ?_
                        refine V_goto (pc := 134) (tgt := 138) hX dX6_copy_134 (by decide) ?_
                        refine V_istore6 (pc := 138) hX dX6_copy_138 rfl ?_
                        refine V_iconst (pc := 140) (v := (nI 0)) hX dX6_copy_140 (by decide +kernel) ?_
                        refine V_istore7 (pc := 141) hX dX6_copy_141 rfl ?_
                        have h128 : ¬ i' < j' := fun q => h130 ((nI_ltI (by omega) (by omega)).mpr q)
                        refine Vw.mem (show mf (m1 σ) 55 (va_cpy (m1 σ 55) (m1 σ 55) (60 * a' + i') (60 * b' + j') 0) = _ by rw [cpy_0, mf_id]) ?_
                        exact l_mcopyU (z := none) hX (hR.mono (by omega)) hr rfl ha hb (by omega) (by omega) (by rcases Nat.lt_trichotomy a' b' with q | q | q <;> omega) hgood 0 (by omega)
                    · refine V_aload_n (pc := 121) (i := 0) hX dX6_copy_121 rfl rfl ?_
                      refine V_iconst (pc := 122) (v := (nI 2)) hX dX6_copy_122 (by decide +kernel) ?_
                      refine V_callVi (pc := 123) hX (hR.mono (by omega)) mX6_86 (c_found _ _) dX6_copy_123 rfl rfl rfl rfl (Nat.le_of_ble_eq_true rfl) ?_
                      exact V_iret (pc := 126) (st := []) hX hr (by first | rfl | exact bI_nar _ | decide +kernel) dX6_copy_126 (bad 2 (by decide) (by decide) (f2 hn1 h63 (fun q => row_gt (Int32.not_le.mp h118) (of_decide_eq_true q.2).2.2)))
          · refine V_aload_n (pc := 66) (i := 0) hX dX6_copy_66 rfl rfl ?_
            refine V_iconst (pc := 67) (v := (nI 5)) hX dX6_copy_67 (by decide +kernel) ?_
            refine V_callVi (pc := 68) hX (hR.mono (by omega)) mX6_86 (c_found _ _) dX6_copy_68 rfl rfl rfl rfl (Nat.le_of_ble_eq_true rfl) ?_
            exact V_iret (pc := 71) (st := []) hX hr (by first | rfl | exact bI_nar _ | decide +kernel) dX6_copy_71 (bad 5 (by decide) (by decide) (f5 hn1 h63))
        · refine V_aload_n (pc := 45) (i := 0) hX dX6_copy_45 rfl rfl ?_
          refine V_iconst (pc := 46) (v := (nI 1)) hX dX6_copy_46 (by decide +kernel) ?_
          refine V_callVi (pc := 47) hX (hR.mono (by omega)) mX6_86 (c_found _ _) dX6_copy_47 rfl rfl rfl rfl (Nat.le_of_ble_eq_true rfl) ?_
          exact V_iret (pc := 50) (st := []) hX hr (by first | rfl | exact bI_nar _ | decide +kernel) dX6_copy_50 (bad 1 (by decide) (by decide) (f1 (Or.inr (lane_neg hz hb h42))))
    · refine V_ldc (pc := 19) hX kX6_85 dX6_copy_19 ?_
      exact V_iret (pc := 21) (st := []) hX hr (by first | rfl | exact bI_nar _ | decide +kernel) dX6_copy_21 (⟨by rw [mcopyV, cpOK, h9, h16]; rfl, by rw [mcopyM, cpOK, h9, h16]; rfl⟩)
end
