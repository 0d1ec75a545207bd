section
-- ===== PART A: goes FIRST, ahead of the names: the tables' words, and 'selects' of the private methods out of them =====
/-- a private method of a class that the tables say can be made, by its rows of tables_1 -/
def lw_okq (q : MethodName × Nat) : Prop := (q.1.cls ≠ "java/lang/invoke/MethodHandle" ∧ q.1.cls ≠ "java/lang/invoke/VarHandle") ∧ Cond.instantiable q.1.cls q.2 ∈ tables_1 ∧ Cond.privateMethod q.1 ∈ tables_1 ∧ Cond.instanceMethod q.1 ∈ tables_1
theorem lw_p0 : lw_okq (⟨"ThreeOffers$Course", "offer", "(ILThreeOffers$Rules;)V"⟩, 7) := ⟨⟨by decide +kernel, by decide +kernel⟩, List.mem_of_getElem? (i := 160) (by decide +kernel), List.mem_of_getElem? (i := 442) (by decide +kernel), List.mem_of_getElem? (i := 443) (by decide +kernel)⟩
theorem lw_p1 : lw_okq (⟨"ThreeOffers$Course", "isAhead", "(LThreeOffers$Person;LThreeOffers$Person;I)Z"⟩, 7) := ⟨⟨by decide +kernel, by decide +kernel⟩, List.mem_of_getElem? (i := 160) (by decide +kernel), List.mem_of_getElem? (i := 450) (by decide +kernel), List.mem_of_getElem? (i := 451) (by decide +kernel)⟩
theorem lw_p2 : lw_okq (⟨"ThreeOffers$Course", "sayNo", "(LThreeOffers$Person;LThreeOffers$Rules;)Z"⟩, 7) := ⟨⟨by decide +kernel, by decide +kernel⟩, List.mem_of_getElem? (i := 160) (by decide +kernel), List.mem_of_getElem? (i := 458) (by decide +kernel), List.mem_of_getElem? (i := 459) (by decide +kernel)⟩
theorem lw_p3 : lw_okq (⟨"ThreeOffers$Course", "house", "(LThreeOffers$Person;I)V"⟩, 7) := ⟨⟨by decide +kernel, by decide +kernel⟩, List.mem_of_getElem? (i := 160) (by decide +kernel), List.mem_of_getElem? (i := 462) (by decide +kernel), List.mem_of_getElem? (i := 463) (by decide +kernel)⟩
theorem lw_p4 : lw_okq (⟨"ThreeOffers$Course", "arrive", "(I)V"⟩, 7) := ⟨⟨by decide +kernel, by decide +kernel⟩, List.mem_of_getElem? (i := 160) (by decide +kernel), List.mem_of_getElem? (i := 466) (by decide +kernel), List.mem_of_getElem? (i := 467) (by decide +kernel)⟩
theorem lw_p5 : lw_okq (⟨"ThreeOffers$Course", "growOlder", "(I)V"⟩, 7) := ⟨⟨by decide +kernel, by decide +kernel⟩, List.mem_of_getElem? (i := 160) (by decide +kernel), List.mem_of_getElem? (i := 471) (by decide +kernel), List.mem_of_getElem? (i := 472) (by decide +kernel)⟩
theorem lw_p6 : lw_okq (⟨"ThreeOffers$Text", "goOn", "()V"⟩, 6) := ⟨⟨by decide +kernel, by decide +kernel⟩, List.mem_of_getElem? (i := 132) (by decide +kernel), List.mem_of_getElem? (i := 513) (by decide +kernel), List.mem_of_getElem? (i := 514) (by decide +kernel)⟩
theorem lw_p7 : lw_okq (⟨"ThreeOffers$Text", "readLine", "(LThreeOffers$Rules;)Z"⟩, 6) := ⟨⟨by decide +kernel, by decide +kernel⟩, List.mem_of_getElem? (i := 132) (by decide +kernel), List.mem_of_getElem? (i := 520) (by decide +kernel), List.mem_of_getElem? (i := 521) (by decide +kernel)⟩
theorem lw_p8 : lw_okq (⟨"ThreeOffers$Text", "pass", "(Ljava/lang/String;)Z"⟩, 6) := ⟨⟨by decide +kernel, by decide +kernel⟩, List.mem_of_getElem? (i := 132) (by decide +kernel), List.mem_of_getElem? (i := 525) (by decide +kernel), List.mem_of_getElem? (i := 526) (by decide +kernel)⟩
theorem lw_p9 : lw_okq (⟨"ThreeOffers$Text", "choose", "(Ljava/lang/String;Ljava/lang/String;Ljava/lang/String;)I"⟩, 6) := ⟨⟨by decide +kernel, by decide +kernel⟩, List.mem_of_getElem? (i := 132) (by decide +kernel), List.mem_of_getElem? (i := 580) (by decide +kernel), List.mem_of_getElem? (i := 581) (by decide +kernel)⟩
theorem lw_p10 : lw_okq (⟨"ThreeOffers$Text", "number", "(I)I"⟩, 6) := ⟨⟨by decide +kernel, by decide +kernel⟩, List.mem_of_getElem? (i := 132) (by decide +kernel), List.mem_of_getElem? (i := 585) (by decide +kernel), List.mem_of_getElem? (i := 586) (by decide +kernel)⟩
theorem lw_p11 : lw_okq (⟨"ThreeOffers$Text", "readWay", "(LThreeOffers$Rules;)Z"⟩, 6) := ⟨⟨by decide +kernel, by decide +kernel⟩, List.mem_of_getElem? (i := 132) (by decide +kernel), List.mem_of_getElem? (i := 595) (by decide +kernel), List.mem_of_getElem? (i := 596) (by decide +kernel)⟩
theorem lw_p12 : lw_okq (⟨"ThreeOffers", "tryOut", "(ILThreeOffers$Rules;)V"⟩, 11) := ⟨⟨by decide +kernel, by decide +kernel⟩, List.mem_of_getElem? (i := 23) (by decide +kernel), List.mem_of_getElem? (i := 625) (by decide +kernel), List.mem_of_getElem? (i := 626) (by decide +kernel)⟩
theorem lw_p13 : lw_okq (⟨"ThreeOffers$Rest", "findLikeBars", "()V"⟩, 6) := ⟨⟨by decide +kernel, by decide +kernel⟩, List.mem_of_getElem? (i := 231) (by decide +kernel), List.mem_of_getElem? (i := 667) (by decide +kernel), List.mem_of_getElem? (i := 668) (by decide +kernel)⟩
theorem lw_p14 : lw_okq (⟨"ThreeOffers$Rest", "kindsTaken", "(II)I"⟩, 6) := ⟨⟨by decide +kernel, by decide +kernel⟩, List.mem_of_getElem? (i := 231) (by decide +kernel), List.mem_of_getElem? (i := 671) (by decide +kernel), List.mem_of_getElem? (i := 672) (by decide +kernel)⟩
theorem lw_p15 : lw_okq (⟨"ThreeOffers$Rest", "likeSetting", "(I)I"⟩, 6) := ⟨⟨by decide +kernel, by decide +kernel⟩, List.mem_of_getElem? (i := 231) (by decide +kernel), List.mem_of_getElem? (i := 675) (by decide +kernel), List.mem_of_getElem? (i := 676) (by decide +kernel)⟩
def lw_privs_1 : List (MethodName × Nat) := [(⟨"ThreeOffers$Course", "offer", "(ILThreeOffers$Rules;)V"⟩, 7), (⟨"ThreeOffers$Course", "isAhead", "(LThreeOffers$Person;LThreeOffers$Person;I)Z"⟩, 7), (⟨"ThreeOffers$Course", "sayNo", "(LThreeOffers$Person;LThreeOffers$Rules;)Z"⟩, 7), (⟨"ThreeOffers$Course", "house", "(LThreeOffers$Person;I)V"⟩, 7), (⟨"ThreeOffers$Course", "arrive", "(I)V"⟩, 7), (⟨"ThreeOffers$Course", "growOlder", "(I)V"⟩, 7), (⟨"ThreeOffers$Text", "goOn", "()V"⟩, 6), (⟨"ThreeOffers$Text", "readLine", "(LThreeOffers$Rules;)Z"⟩, 6), (⟨"ThreeOffers$Text", "pass", "(Ljava/lang/String;)Z"⟩, 6), (⟨"ThreeOffers$Text", "choose", "(Ljava/lang/String;Ljava/lang/String;Ljava/lang/String;)I"⟩, 6), (⟨"ThreeOffers$Text", "number", "(I)I"⟩, 6), (⟨"ThreeOffers$Text", "readWay", "(LThreeOffers$Rules;)Z"⟩, 6), (⟨"ThreeOffers", "tryOut", "(ILThreeOffers$Rules;)V"⟩, 11), (⟨"ThreeOffers$Rest", "findLikeBars", "()V"⟩, 6), (⟨"ThreeOffers$Rest", "kindsTaken", "(II)I"⟩, 6), (⟨"ThreeOffers$Rest", "likeSetting", "(I)I"⟩, 6)]
theorem lw_r1 : ∀ q ∈ lw_privs_1, lw_okq q := List.forall_mem_cons.mpr ⟨lw_p0, List.forall_mem_cons.mpr ⟨lw_p1, List.forall_mem_cons.mpr ⟨lw_p2, List.forall_mem_cons.mpr ⟨lw_p3, List.forall_mem_cons.mpr ⟨lw_p4, List.forall_mem_cons.mpr ⟨lw_p5, List.forall_mem_cons.mpr ⟨lw_p6, List.forall_mem_cons.mpr ⟨lw_p7, List.forall_mem_cons.mpr ⟨lw_p8, List.forall_mem_cons.mpr ⟨lw_p9, List.forall_mem_cons.mpr ⟨lw_p10, List.forall_mem_cons.mpr ⟨lw_p11, List.forall_mem_cons.mpr ⟨lw_p12, List.forall_mem_cons.mpr ⟨lw_p13, List.forall_mem_cons.mpr ⟨lw_p14, List.forall_mem_cons.mpr ⟨lw_p15, fun _ h => absurd h List.not_mem_nil⟩⟩⟩⟩⟩⟩⟩⟩⟩⟩⟩⟩⟩⟩⟩⟩
theorem lw_p16 : lw_okq (⟨"ThreeOffers$Rest", "setWays", "(LThreeOffers$Rules;I)V"⟩, 6) := ⟨⟨by decide +kernel, by decide +kernel⟩, List.mem_of_getElem? (i := 231) (by decide +kernel), List.mem_of_getElem? (i := 684) (by decide +kernel), List.mem_of_getElem? (i := 685) (by decide +kernel)⟩
theorem lw_p17 : lw_okq (⟨"ThreeOffers$Rest", "isAtRest", "(I)Z"⟩, 6) := ⟨⟨by decide +kernel, by decide +kernel⟩, List.mem_of_getElem? (i := 231) (by decide +kernel), List.mem_of_getElem? (i := 692) (by decide +kernel), List.mem_of_getElem? (i := 693) (by decide +kernel)⟩
theorem lw_p18 : lw_okq (⟨"ThreeOffers$Lot", "rowsFrom", "(IIII)I"⟩, 4) := ⟨⟨by decide +kernel, by decide +kernel⟩, List.mem_of_getElem? (i := 259) (by decide +kernel), List.mem_of_getElem? (i := 715) (by decide +kernel), List.mem_of_getElem? (i := 716) (by decide +kernel)⟩
theorem lw_p19 : lw_okq (⟨"ThreeOffers$Lot", "kindTaken", "(I)I"⟩, 4) := ⟨⟨by decide +kernel, by decide +kernel⟩, List.mem_of_getElem? (i := 259) (by decide +kernel), List.mem_of_getElem? (i := 719) (by decide +kernel), List.mem_of_getElem? (i := 720) (by decide +kernel)⟩
theorem lw_p20 : lw_okq (⟨"ThreeOffers$Swaps", "closeRing", "(I)I"⟩, 3) := ⟨⟨by decide +kernel, by decide +kernel⟩, List.mem_of_getElem? (i := 302) (by decide +kernel), List.mem_of_getElem? (i := 748) (by decide +kernel), List.mem_of_getElem? (i := 749) (by decide +kernel)⟩
theorem lw_p21 : lw_okq (⟨"ThreeOffers$Swaps", "pointedTo", "(II)I"⟩, 3) := ⟨⟨by decide +kernel, by decide +kernel⟩, List.mem_of_getElem? (i := 302) (by decide +kernel), List.mem_of_getElem? (i := 756) (by decide +kernel), List.mem_of_getElem? (i := 757) (by decide +kernel)⟩
theorem lw_p22 : lw_okq (⟨"ThreeOffers$Chain", "goOn", "(III)V"⟩, 4) := ⟨⟨by decide +kernel, by decide +kernel⟩, List.mem_of_getElem? (i := 320) (by decide +kernel), List.mem_of_getElem? (i := 776) (by decide +kernel), List.mem_of_getElem? (i := 777) (by decide +kernel)⟩
theorem lw_p23 : lw_okq (⟨"ThreeOffersModel", "add", "(I)V"⟩, 32) := ⟨⟨by decide +kernel, by decide +kernel⟩, List.mem_of_getElem? (i := 796) (by decide +kernel), List.mem_of_getElem? (i := 929) (by decide +kernel), List.mem_of_getElem? (i := 930) (by decide +kernel)⟩
theorem lw_p24 : lw_okq (⟨"ThreeOffersModel", "goWeek", "()V"⟩, 32) := ⟨⟨by decide +kernel, by decide +kernel⟩, List.mem_of_getElem? (i := 796) (by decide +kernel), List.mem_of_getElem? (i := 937) (by decide +kernel), List.mem_of_getElem? (i := 938) (by decide +kernel)⟩
theorem lw_p25 : lw_okq (⟨"ThreeOffersModel", "offer", "(I)V"⟩, 32) := ⟨⟨by decide +kernel, by decide +kernel⟩, List.mem_of_getElem? (i := 796) (by decide +kernel), List.mem_of_getElem? (i := 941) (by decide +kernel), List.mem_of_getElem? (i := 942) (by decide +kernel)⟩
theorem lw_p26 : lw_okq (⟨"ThreeOffersModel", "findOrder", "()V"⟩, 32) := ⟨⟨by decide +kernel, by decide +kernel⟩, List.mem_of_getElem? (i := 796) (by decide +kernel), List.mem_of_getElem? (i := 945) (by decide +kernel), List.mem_of_getElem? (i := 946) (by decide +kernel)⟩
theorem lw_p27 : lw_okq (⟨"ThreeOffersModel", "isAhead", "(II)Z"⟩, 32) := ⟨⟨by decide +kernel, by decide +kernel⟩, List.mem_of_getElem? (i := 796) (by decide +kernel), List.mem_of_getElem? (i := 949) (by decide +kernel), List.mem_of_getElem? (i := 950) (by decide +kernel)⟩
theorem lw_p28 : lw_okq (⟨"ThreeOffersModel", "doesTake", "(II)Z"⟩, 32) := ⟨⟨by decide +kernel, by decide +kernel⟩, List.mem_of_getElem? (i := 796) (by decide +kernel), List.mem_of_getElem? (i := 953) (by decide +kernel), List.mem_of_getElem? (i := 954) (by decide +kernel)⟩
theorem lw_p29 : lw_okq (⟨"ThreeOffersModel", "isRead", "()Z"⟩, 32) := ⟨⟨by decide +kernel, by decide +kernel⟩, List.mem_of_getElem? (i := 796) (by decide +kernel), List.mem_of_getElem? (i := 982) (by decide +kernel), List.mem_of_getElem? (i := 983) (by decide +kernel)⟩
theorem lw_p30 : lw_okq (⟨"ThreeOffersModel", "isLine", "()Z"⟩, 32) := ⟨⟨by decide +kernel, by decide +kernel⟩, List.mem_of_getElem? (i := 796) (by decide +kernel), List.mem_of_getElem? (i := 986) (by decide +kernel), List.mem_of_getElem? (i := 987) (by decide +kernel)⟩
theorem lw_p31 : lw_okq (⟨"ThreeOffersModel", "nextToken", "()V"⟩, 32) := ⟨⟨by decide +kernel, by decide +kernel⟩, List.mem_of_getElem? (i := 796) (by decide +kernel), List.mem_of_getElem? (i := 990) (by decide +kernel), List.mem_of_getElem? (i := 991) (by decide +kernel)⟩
def lw_privs_2 : List (MethodName × Nat) := [(⟨"ThreeOffers$Rest", "setWays", "(LThreeOffers$Rules;I)V"⟩, 6), (⟨"ThreeOffers$Rest", "isAtRest", "(I)Z"⟩, 6), (⟨"ThreeOffers$Lot", "rowsFrom", "(IIII)I"⟩, 4), (⟨"ThreeOffers$Lot", "kindTaken", "(I)I"⟩, 4), (⟨"ThreeOffers$Swaps", "closeRing", "(I)I"⟩, 3), (⟨"ThreeOffers$Swaps", "pointedTo", "(II)I"⟩, 3), (⟨"ThreeOffers$Chain", "goOn", "(III)V"⟩, 4), (⟨"ThreeOffersModel", "add", "(I)V"⟩, 32), (⟨"ThreeOffersModel", "goWeek", "()V"⟩, 32), (⟨"ThreeOffersModel", "offer", "(I)V"⟩, 32), (⟨"ThreeOffersModel", "findOrder", "()V"⟩, 32), (⟨"ThreeOffersModel", "isAhead", "(II)Z"⟩, 32), (⟨"ThreeOffersModel", "doesTake", "(II)Z"⟩, 32), (⟨"ThreeOffersModel", "isRead", "()Z"⟩, 32), (⟨"ThreeOffersModel", "isLine", "()Z"⟩, 32), (⟨"ThreeOffersModel", "nextToken", "()V"⟩, 32)]
theorem lw_r2 : ∀ q ∈ lw_privs_2, lw_okq q := List.forall_mem_cons.mpr ⟨lw_p16, List.forall_mem_cons.mpr ⟨lw_p17, List.forall_mem_cons.mpr ⟨lw_p18, List.forall_mem_cons.mpr ⟨lw_p19, List.forall_mem_cons.mpr ⟨lw_p20, List.forall_mem_cons.mpr ⟨lw_p21, List.forall_mem_cons.mpr ⟨lw_p22, List.forall_mem_cons.mpr ⟨lw_p23, List.forall_mem_cons.mpr ⟨lw_p24, List.forall_mem_cons.mpr ⟨lw_p25, List.forall_mem_cons.mpr ⟨lw_p26, List.forall_mem_cons.mpr ⟨lw_p27, List.forall_mem_cons.mpr ⟨lw_p28, List.forall_mem_cons.mpr ⟨lw_p29, List.forall_mem_cons.mpr ⟨lw_p30, List.forall_mem_cons.mpr ⟨lw_p31, fun _ h => absurd h List.not_mem_nil⟩⟩⟩⟩⟩⟩⟩⟩⟩⟩⟩⟩⟩⟩⟩⟩
theorem lw_p32 : lw_okq (⟨"ThreeOffersModel", "isOf", "(IJJJ)Z"⟩, 32) := ⟨⟨by decide +kernel, by decide +kernel⟩, List.mem_of_getElem? (i := 796) (by decide +kernel), List.mem_of_getElem? (i := 1004) (by decide +kernel), List.mem_of_getElem? (i := 1005) (by decide +kernel)⟩
theorem lw_p33 : lw_okq (⟨"ThreeOffersModel", "fails", "()Z"⟩, 32) := ⟨⟨by decide +kernel, by decide +kernel⟩, List.mem_of_getElem? (i := 796) (by decide +kernel), List.mem_of_getElem? (i := 1008) (by decide +kernel), List.mem_of_getElem? (i := 1009) (by decide +kernel)⟩
theorem lw_p34 : lw_okq (⟨"ThreeOffersModel", "isNumber", "(II)Z"⟩, 32) := ⟨⟨by decide +kernel, by decide +kernel⟩, List.mem_of_getElem? (i := 796) (by decide +kernel), List.mem_of_getElem? (i := 1013) (by decide +kernel), List.mem_of_getElem? (i := 1014) (by decide +kernel)⟩
theorem lw_p35 : lw_okq (⟨"ThreeOffersModel", "isWay", "()Z"⟩, 32) := ⟨⟨by decide +kernel, by decide +kernel⟩, List.mem_of_getElem? (i := 796) (by decide +kernel), List.mem_of_getElem? (i := 1023) (by decide +kernel), List.mem_of_getElem? (i := 1024) (by decide +kernel)⟩
theorem lw_p36 : lw_okq (⟨"ThreeOffersModel", "goOn", "(I)V"⟩, 32) := ⟨⟨by decide +kernel, by decide +kernel⟩, List.mem_of_getElem? (i := 796) (by decide +kernel), List.mem_of_getElem? (i := 1046) (by decide +kernel), List.mem_of_getElem? (i := 1047) (by decide +kernel)⟩
theorem lw_p37 : lw_okq (⟨"ThreeOffersModel", "more", "(I)I"⟩, 32) := ⟨⟨by decide +kernel, by decide +kernel⟩, List.mem_of_getElem? (i := 796) (by decide +kernel), List.mem_of_getElem? (i := 1050) (by decide +kernel), List.mem_of_getElem? (i := 1051) (by decide +kernel)⟩
theorem lw_p38 : lw_okq (⟨"ThreeOffersModel", "layBack", "()V"⟩, 32) := ⟨⟨by decide +kernel, by decide +kernel⟩, List.mem_of_getElem? (i := 796) (by decide +kernel), List.mem_of_getElem? (i := 1054) (by decide +kernel), List.mem_of_getElem? (i := 1055) (by decide +kernel)⟩
theorem lw_p39 : lw_okq (⟨"ThreeOffersModel", "gainOf", "(I)I"⟩, 32) := ⟨⟨by decide +kernel, by decide +kernel⟩, List.mem_of_getElem? (i := 796) (by decide +kernel), List.mem_of_getElem? (i := 1063) (by decide +kernel), List.mem_of_getElem? (i := 1064) (by decide +kernel)⟩
theorem lw_p40 : lw_okq (⟨"ThreeOffersModel", "keepRules", "()V"⟩, 32) := ⟨⟨by decide +kernel, by decide +kernel⟩, List.mem_of_getElem? (i := 796) (by decide +kernel), List.mem_of_getElem? (i := 1071) (by decide +kernel), List.mem_of_getElem? (i := 1072) (by decide +kernel)⟩
theorem lw_p41 : lw_okq (⟨"ThreeOffersModel", "layBackRules", "()V"⟩, 32) := ⟨⟨by decide +kernel, by decide +kernel⟩, List.mem_of_getElem? (i := 796) (by decide +kernel), List.mem_of_getElem? (i := 1075) (by decide +kernel), List.mem_of_getElem? (i := 1076) (by decide +kernel)⟩
theorem lw_p42 : lw_okq (⟨"ThreeOffersModel", "findGains", "(I)V"⟩, 32) := ⟨⟨by decide +kernel, by decide +kernel⟩, List.mem_of_getElem? (i := 796) (by decide +kernel), List.mem_of_getElem? (i := 1083) (by decide +kernel), List.mem_of_getElem? (i := 1084) (by decide +kernel)⟩
theorem lw_p43 : lw_okq (⟨"ThreeOffersModel", "isAtRest", "(I)Z"⟩, 32) := ⟨⟨by decide +kernel, by decide +kernel⟩, List.mem_of_getElem? (i := 796) (by decide +kernel), List.mem_of_getElem? (i := 1087) (by decide +kernel), List.mem_of_getElem? (i := 1088) (by decide +kernel)⟩
theorem lw_p44 : lw_okq (⟨"ThreeOffersModel", "lotOf", "(III)I"⟩, 32) := ⟨⟨by decide +kernel, by decide +kernel⟩, List.mem_of_getElem? (i := 796) (by decide +kernel), List.mem_of_getElem? (i := 1095) (by decide +kernel), List.mem_of_getElem? (i := 1096) (by decide +kernel)⟩
theorem lw_p45 : lw_okq (⟨"ThreeOffersModel", "part", "(JJI)I"⟩, 32) := ⟨⟨by decide +kernel, by decide +kernel⟩, List.mem_of_getElem? (i := 796) (by decide +kernel), List.mem_of_getElem? (i := 1099) (by decide +kernel), List.mem_of_getElem? (i := 1100) (by decide +kernel)⟩
theorem lw_p46 : lw_okq (⟨"ThreeOffersModel", "swapAll", "()V"⟩, 32) := ⟨⟨by decide +kernel, by decide +kernel⟩, List.mem_of_getElem? (i := 796) (by decide +kernel), List.mem_of_getElem? (i := 1114) (by decide +kernel), List.mem_of_getElem? (i := 1115) (by decide +kernel)⟩
theorem lw_p47 : lw_okq (⟨"ThreeOffersModel", "worthTo", "(II)I"⟩, 32) := ⟨⟨by decide +kernel, by decide +kernel⟩, List.mem_of_getElem? (i := 796) (by decide +kernel), List.mem_of_getElem? (i := 1118) (by decide +kernel), List.mem_of_getElem? (i := 1119) (by decide +kernel)⟩
def lw_privs_3 : List (MethodName × Nat) := [(⟨"ThreeOffersModel", "isOf", "(IJJJ)Z"⟩, 32), (⟨"ThreeOffersModel", "fails", "()Z"⟩, 32), (⟨"ThreeOffersModel", "isNumber", "(II)Z"⟩, 32), (⟨"ThreeOffersModel", "isWay", "()Z"⟩, 32), (⟨"ThreeOffersModel", "goOn", "(I)V"⟩, 32), (⟨"ThreeOffersModel", "more", "(I)I"⟩, 32), (⟨"ThreeOffersModel", "layBack", "()V"⟩, 32), (⟨"ThreeOffersModel", "gainOf", "(I)I"⟩, 32), (⟨"ThreeOffersModel", "keepRules", "()V"⟩, 32), (⟨"ThreeOffersModel", "layBackRules", "()V"⟩, 32), (⟨"ThreeOffersModel", "findGains", "(I)V"⟩, 32), (⟨"ThreeOffersModel", "isAtRest", "(I)Z"⟩, 32), (⟨"ThreeOffersModel", "lotOf", "(III)I"⟩, 32), (⟨"ThreeOffersModel", "part", "(JJI)I"⟩, 32), (⟨"ThreeOffersModel", "swapAll", "()V"⟩, 32), (⟨"ThreeOffersModel", "worthTo", "(II)I"⟩, 32)]
theorem lw_r3 : ∀ q ∈ lw_privs_3, lw_okq q := List.forall_mem_cons.mpr ⟨lw_p32, List.forall_mem_cons.mpr ⟨lw_p33, List.forall_mem_cons.mpr ⟨lw_p34, List.forall_mem_cons.mpr ⟨lw_p35, List.forall_mem_cons.mpr ⟨lw_p36, List.forall_mem_cons.mpr ⟨lw_p37, List.forall_mem_cons.mpr ⟨lw_p38, List.forall_mem_cons.mpr ⟨lw_p39, List.forall_mem_cons.mpr ⟨lw_p40, List.forall_mem_cons.mpr ⟨lw_p41, List.forall_mem_cons.mpr ⟨lw_p42, List.forall_mem_cons.mpr ⟨lw_p43, List.forall_mem_cons.mpr ⟨lw_p44, List.forall_mem_cons.mpr ⟨lw_p45, List.forall_mem_cons.mpr ⟨lw_p46, List.forall_mem_cons.mpr ⟨lw_p47, fun _ h => absurd h List.not_mem_nil⟩⟩⟩⟩⟩⟩⟩⟩⟩⟩⟩⟩⟩⟩⟩⟩
theorem lw_p48 : lw_okq (⟨"ThreeOffersModel", "wouldGo", "(II)Z"⟩, 32) := ⟨⟨by decide +kernel, by decide +kernel⟩, List.mem_of_getElem? (i := 796) (by decide +kernel), List.mem_of_getElem? (i := 1130) (by decide +kernel), List.mem_of_getElem? (i := 1131) (by decide +kernel)⟩
def lw_privs_4 : List (MethodName × Nat) := [(⟨"ThreeOffersModel", "wouldGo", "(II)Z"⟩, 32)]
theorem lw_r4 : ∀ q ∈ lw_privs_4, lw_okq q := List.forall_mem_cons.mpr ⟨lw_p48, fun _ h => absurd h List.not_mem_nil⟩
def lw_privs : List (MethodName × Nat) := lw_privs_1 ++ (lw_privs_2 ++ (lw_privs_3 ++ (lw_privs_4)))
def lw_tbl : List Cond := k2_sels lw_privs ++ tables_1
theorem lw_privs_ok : ∀ q ∈ lw_privs, lw_okq q := by
  show ∀ q ∈ lw_privs_1 ++ (lw_privs_2 ++ (lw_privs_3 ++ (lw_privs_4))), lw_okq q
  exact List.forall_mem_append.mpr ⟨lw_r1, List.forall_mem_append.mpr ⟨lw_r2, List.forall_mem_append.mpr ⟨lw_r3, lw_r4⟩⟩⟩
end
section
def RX0 : String := "ThreeOffers$Chain"
def TX0 : u_T := fun k => match k with
  | 0 => ("ThreeOffers$Chain", "holders", "LThreeOffers$Holders;", true)
  | 1 => ("ThreeOffers$Chain", "tried", "[I", true)
  | 2 => ("ThreeOffers$Chain", "longest", "[I", true)
  | _ => ("ThreeOffers$Chain", "length", "I", false)
def tyX0 : Nat → FieldType := fun k => match k with
  | 0 => .object "ThreeOffers$Holders"
  | 1 => .array .int
  | 2 => .array .int
  | _ => .int
theorem nmX0 : ∀ a, a < 4 → ∀ b, b < 4 → a ≠ b → (TX0 a).2.1 ≠ (TX0 b).2.1 := by decide +kernel
theorem tyX0_ok : ∀ k, k < 4 → parseFieldDescriptor (TX0 k).2.2.1 = some (tyX0 k) := by decide +kernel
abbrev cX0_init : ByteArray := prog_2_method_1_code
def yX0_init : MethodName := ⟨RX0, "<init>", "(LThreeOffers$Holders;)V"⟩
abbrev cX0_find : ByteArray := prog_2_method_2_code
def yX0_find : MethodName := ⟨RX0, "find", "(I)V"⟩
abbrev cX0_goOn : ByteArray := prog_2_method_3_code
def yX0_goOn : MethodName := ⟨RX0, "goOn", "(III)V"⟩
def RX1 : String := "ThreeOffers$Course"
def TX1 : u_T := fun k => match k with
  | 0 => ("ThreeOffers$Course", "town", "LThreeOffers$Town;", true)
  | 1 => ("ThreeOffers$Course", "list", "[LThreeOffers$Person;", true)
  | 2 => ("ThreeOffers$Course", "size", "I", false)
  | 3 => ("ThreeOffers$Course", "week", "I", false)
  | 4 => ("ThreeOffers$Course", "nextNumber", "I", false)
  | 5 => ("ThreeOffers$Course", "emptyHouses", "I", false)
  | _ => ("ThreeOffers$Course", "tallies", "[[I", true)
def tyX1 : Nat → FieldType := fun k => match k with
  | 0 => .object "ThreeOffers$Town"
  | 1 => .array (.object "ThreeOffers$Person")
  | 2 => .int
  | 3 => .int
  | 4 => .int
  | 5 => .int
  | _ => .array (.array .int)
theorem nmX1 : ∀ a, a < 7 → ∀ b, b < 7 → a ≠ b → (TX1 a).2.1 ≠ (TX1 b).2.1 := by decide +kernel
theorem tyX1_ok : ∀ k, k < 7 → parseFieldDescriptor (TX1 k).2.2.1 = some (tyX1 k) := by decide +kernel
abbrev cX1_init : ByteArray := prog_3_method_1_code
def yX1_init : MethodName := ⟨RX1, "<init>", "(LThreeOffers$Town;)V"⟩
abbrev cX1_beginLike : ByteArray := prog_3_method_2_code
def yX1_beginLike : MethodName := ⟨RX1, "beginLike", "(LThreeOffers$Course;)V"⟩
abbrev cX1_isFull : ByteArray := prog_3_method_3_code
def yX1_isFull : MethodName := ⟨RX1, "isFull", "()Z"⟩
abbrev cX1_add : ByteArray := prog_3_method_4_code
def yX1_add : MethodName := ⟨RX1, "add", "(I)V"⟩
abbrev cX1_total : ByteArray := prog_3_method_5_code
def yX1_total : MethodName := ⟨RX1, "total", "(I)I"⟩
abbrev cX1_gained : ByteArray := prog_3_method_6_code
def yX1_gained : MethodName := ⟨RX1, "gained", "(I)I"⟩
abbrev cX1_pass : ByteArray := prog_3_method_7_code
def yX1_pass : MethodName := ⟨RX1, "pass", "(ILThreeOffers$Rules;)V"⟩
abbrev cX1_stand : ByteArray := prog_3_method_8_code
def yX1_stand : MethodName := ⟨RX1, "stand", "(I)V"⟩
abbrev cX1_isAhead : ByteArray := prog_3_method_9_code
def yX1_isAhead : MethodName := ⟨RX1, "isAhead", "(LThreeOffers$Person;LThreeOffers$Person;I)Z"⟩
abbrev cX1_offer : ByteArray := prog_3_method_10_code
def yX1_offer : MethodName := ⟨RX1, "offer", "(ILThreeOffers$Rules;)V"⟩
abbrev cX1_house : ByteArray := prog_3_method_11_code
def yX1_house : MethodName := ⟨RX1, "house", "(LThreeOffers$Person;I)V"⟩
abbrev cX1_sayNo : ByteArray := prog_3_method_12_code
def yX1_sayNo : MethodName := ⟨RX1, "sayNo", "(LThreeOffers$Person;LThreeOffers$Rules;)Z"⟩
abbrev cX1_arrive : ByteArray := prog_3_method_13_code
def yX1_arrive : MethodName := ⟨RX1, "arrive", "(I)V"⟩
abbrev cX1_growOlder : ByteArray := prog_3_method_14_code
def yX1_growOlder : MethodName := ⟨RX1, "growOlder", "(I)V"⟩
def RX2 : String := "ThreeOffers$Holders"
def TX2 : u_T := fun k => match k with
  | 0 => ("ThreeOffers$Holders", "town", "LThreeOffers$Town;", true)
  | 1 => ("ThreeOffers$Holders", "sorts", "[I", true)
  | 2 => ("ThreeOffers$Holders", "kinds", "[I", true)
  | _ => ("ThreeOffers$Holders", "many", "I", false)
def tyX2 : Nat → FieldType := fun k => match k with
  | 0 => .object "ThreeOffers$Town"
  | 1 => .array .int
  | 2 => .array .int
  | _ => .int
theorem nmX2 : ∀ a, a < 4 → ∀ b, b < 4 → a ≠ b → (TX2 a).2.1 ≠ (TX2 b).2.1 := by decide +kernel
theorem tyX2_ok : ∀ k, k < 4 → parseFieldDescriptor (TX2 k).2.2.1 = some (tyX2 k) := by decide +kernel
abbrev cX2_init : ByteArray := prog_4_method_1_code
def yX2_init : MethodName := ⟨RX2, "<init>", "(LThreeOffers$Town;)V"⟩
abbrev cX2_add : ByteArray := prog_4_method_2_code
def yX2_add : MethodName := ⟨RX2, "add", "(II)I"⟩
abbrev cX2_likesMore : ByteArray := prog_4_method_3_code
def yX2_likesMore : MethodName := ⟨RX2, "likesMore", "(III)Z"⟩
def RX3 : String := "ThreeOffers$Lot"
def TX3 : u_T := fun k => match k with
  | 0 => ("ThreeOffers$Lot", "town", "LThreeOffers$Town;", true)
  | 1 => ("ThreeOffers$Lot", "sorts", "[I", true)
  | 2 => ("ThreeOffers$Lot", "people", "I", false)
  | _ => ("ThreeOffers$Lot", "left", "[I", true)
def tyX3 : Nat → FieldType := fun k => match k with
  | 0 => .object "ThreeOffers$Town"
  | 1 => .array .int
  | 2 => .int
  | _ => .array .int
theorem nmX3 : ∀ a, a < 4 → ∀ b, b < 4 → a ≠ b → (TX3 a).2.1 ≠ (TX3 b).2.1 := by decide +kernel
theorem tyX3_ok : ∀ k, k < 4 → parseFieldDescriptor (TX3 k).2.2.1 = some (tyX3 k) := by decide +kernel
abbrev cX3_init : ByteArray := prog_5_method_1_code
def yX3_init : MethodName := ⟨RX3, "<init>", "(LThreeOffers$Town;)V"⟩
abbrev cX3_gather : ByteArray := prog_5_method_2_code
def yX3_gather : MethodName := ⟨RX3, "gather", "(LThreeOffers$Course;I)V"⟩
abbrev cX3_lay : ByteArray := prog_5_method_3_code
def yX3_lay : MethodName := ⟨RX3, "lay", "(II)V"⟩
abbrev cX3_rowsFor : ByteArray := prog_5_method_4_code
def yX3_rowsFor : MethodName := ⟨RX3, "rowsFor", "(II)I"⟩
abbrev cX3_rowsFrom : ByteArray := prog_5_method_5_code
def yX3_rowsFrom : MethodName := ⟨RX3, "rowsFrom", "(IIII)I"⟩
abbrev cX3_kindTaken : ByteArray := prog_5_method_6_code
def yX3_kindTaken : MethodName := ⟨RX3, "kindTaken", "(I)I"⟩
def RX4 : String := "ThreeOffers$Person"
def TX4 : u_T := fun k => match k with
  | 0 => ("ThreeOffers$Person", "sort", "I", false)
  | 1 => ("ThreeOffers$Person", "number", "I", false)
  | 2 => ("ThreeOffers$Person", "points", "I", false)
  | 3 => ("ThreeOffers$Person", "noes", "I", false)
  | _ => ("ThreeOffers$Person", "waited", "I", false)
def tyX4 : Nat → FieldType := fun k => match k with
  | 0 => .int
  | 1 => .int
  | 2 => .int
  | 3 => .int
  | _ => .int
theorem nmX4 : ∀ a, a < 5 → ∀ b, b < 5 → a ≠ b → (TX4 a).2.1 ≠ (TX4 b).2.1 := by decide +kernel
theorem tyX4_ok : ∀ k, k < 5 → parseFieldDescriptor (TX4 k).2.2.1 = some (tyX4 k) := by decide +kernel
abbrev cX4_init : ByteArray := prog_6_method_1_code
def yX4_init : MethodName := ⟨RX4, "<init>", "()V"⟩
abbrev cX4_begin : ByteArray := prog_6_method_2_code
def yX4_begin : MethodName := ⟨RX4, "begin", "(II)V"⟩
abbrev cX4_copy : ByteArray := prog_6_method_3_code
def yX4_copy : MethodName := ⟨RX4, "copy", "(LThreeOffers$Person;)V"⟩
def RX5 : String := "ThreeOffers$Rest"
def TX5 : u_T := fun k => match k with
  | 0 => ("ThreeOffers$Rest", "town", "LThreeOffers$Town;", true)
  | 1 => ("ThreeOffers$Rest", "gains", "[I", true)
  | 2 => ("ThreeOffers$Rest", "like", "[[I", true)
  | 3 => ("ThreeOffers$Rest", "found", "[I", true)
  | 4 => ("ThreeOffers$Rest", "many", "I", false)
  | _ => ("ThreeOffers$Rest", "knownFor", "I", false)
def tyX5 : Nat → FieldType := fun k => match k with
  | 0 => .object "ThreeOffers$Town"
  | 1 => .array .int
  | 2 => .array (.array .int)
  | 3 => .array .int
  | 4 => .int
  | _ => .int
theorem nmX5 : ∀ a, a < 6 → ∀ b, b < 6 → a ≠ b → (TX5 a).2.1 ≠ (TX5 b).2.1 := by decide +kernel
theorem tyX5_ok : ∀ k, k < 6 → parseFieldDescriptor (TX5 k).2.2.1 = some (tyX5 k) := by decide +kernel
abbrev cX5_init : ByteArray := prog_7_method_1_code
def yX5_init : MethodName := ⟨RX5, "<init>", "(LThreeOffers$Town;)V"⟩
abbrev cX5_forget : ByteArray := prog_7_method_2_code
def yX5_forget : MethodName := ⟨RX5, "forget", "()V"⟩
abbrev cX5_areKnownFor : ByteArray := prog_7_method_3_code
def yX5_areKnownFor : MethodName := ⟨RX5, "areKnownFor", "(I)Z"⟩
abbrev cX5_find : ByteArray := prog_7_method_4_code
def yX5_find : MethodName := ⟨RX5, "find", "(ILThreeOffers$Course;LThreeOffers$Course;LThreeOffers$Rules;)V"⟩
abbrev cX5_findLikeBars : ByteArray := prog_7_method_5_code
def yX5_findLikeBars : MethodName := ⟨RX5, "findLikeBars", "()V"⟩
abbrev cX5_kindsTaken : ByteArray := prog_7_method_6_code
def yX5_kindsTaken : MethodName := ⟨RX5, "kindsTaken", "(II)I"⟩
abbrev cX5_likeSetting : ByteArray := prog_7_method_7_code
def yX5_likeSetting : MethodName := ⟨RX5, "likeSetting", "(I)I"⟩
abbrev cX5_barOf : ByteArray := prog_7_method_8_code
def yX5_barOf : MethodName := ⟨RX5, "barOf", "(II)I"⟩
abbrev cX5_setWays : ByteArray := prog_7_method_9_code
def yX5_setWays : MethodName := ⟨RX5, "setWays", "(LThreeOffers$Rules;I)V"⟩
abbrev cX5_isAtRest : ByteArray := prog_7_method_10_code
def yX5_isAtRest : MethodName := ⟨RX5, "isAtRest", "(I)Z"⟩
def RX6 : String := "ThreeOffers$Row"
def TX6 : u_T := fun k => match k with
  | 0 => ("ThreeOffers$Row", "items", "[I", true)
  | _ => ("ThreeOffers$Row", "size", "I", false)
def tyX6 : Nat → FieldType := fun k => match k with
  | 0 => .array .int
  | _ => .int
theorem nmX6 : ∀ a, a < 2 → ∀ b, b < 2 → a ≠ b → (TX6 a).2.1 ≠ (TX6 b).2.1 := by decide +kernel
theorem tyX6_ok : ∀ k, k < 2 → parseFieldDescriptor (TX6 k).2.2.1 = some (tyX6 k) := by decide +kernel
abbrev cX6_init : ByteArray := prog_8_method_1_code
def yX6_init : MethodName := ⟨RX6, "<init>", "()V"⟩
abbrev cX6_isFull : ByteArray := prog_8_method_2_code
def yX6_isFull : MethodName := ⟨RX6, "isFull", "()Z"⟩
abbrev cX6_add : ByteArray := prog_8_method_3_code
def yX6_add : MethodName := ⟨RX6, "add", "(I)I"⟩
abbrev cX6_inWeek : ByteArray := prog_8_method_4_code
def yX6_inWeek : MethodName := ⟨RX6, "inWeek", "(I)I"⟩
def RX7 : String := "ThreeOffers$Rules"
def TX7 : u_T := fun k => match k with
  | 0 => ("ThreeOffers$Rules", "order", "I", false)
  | 1 => ("ThreeOffers$Rules", "noes", "I", false)
  | 2 => ("ThreeOffers$Rules", "then", "I", false)
  | 3 => ("ThreeOffers$Rules", "grow", "I", false)
  | 4 => ("ThreeOffers$Rules", "ways", "[I", true)
  | 5 => ("ThreeOffers$Rules", "bars", "[I", true)
  | _ => ("ThreeOffers$Rules", "falls", "[I", true)
def tyX7 : Nat → FieldType := fun k => match k with
  | 0 => .int
  | 1 => .int
  | 2 => .int
  | 3 => .int
  | 4 => .array .int
  | 5 => .array .int
  | _ => .array .int
theorem nmX7 : ∀ a, a < 7 → ∀ b, b < 7 → a ≠ b → (TX7 a).2.1 ≠ (TX7 b).2.1 := by decide +kernel
theorem tyX7_ok : ∀ k, k < 7 → parseFieldDescriptor (TX7 k).2.2.1 = some (tyX7 k) := by decide +kernel
abbrev cX7_init : ByteArray := prog_9_method_1_code
def yX7_init : MethodName := ⟨RX7, "<init>", "()V"⟩
abbrev cX7_setAsAtFirst : ByteArray := prog_9_method_2_code
def yX7_setAsAtFirst : MethodName := ⟨RX7, "setAsAtFirst", "()V"⟩
abbrev cX7_copy : ByteArray := prog_9_method_3_code
def yX7_copy : MethodName := ⟨RX7, "copy", "(LThreeOffers$Rules;)V"⟩
abbrev cX7_setWay : ByteArray := prog_9_method_4_code
def yX7_setWay : MethodName := ⟨RX7, "setWay", "(IIII)V"⟩
abbrev cX7_takes : ByteArray := prog_9_method_5_code
def yX7_takes : MethodName := ⟨RX7, "takes", "(III)Z"⟩
def RX8 : String := "ThreeOffers$Swaps"
def TX8 : u_T := fun k => match k with
  | 0 => ("ThreeOffers$Swaps", "holders", "LThreeOffers$Holders;", true)
  | 1 => ("ThreeOffers$Swaps", "gets", "[I", true)
  | _ => ("ThreeOffers$Swaps", "ringsOfSeveral", "I", false)
def tyX8 : Nat → FieldType := fun k => match k with
  | 0 => .object "ThreeOffers$Holders"
  | 1 => .array .int
  | _ => .int
theorem nmX8 : ∀ a, a < 3 → ∀ b, b < 3 → a ≠ b → (TX8 a).2.1 ≠ (TX8 b).2.1 := by decide +kernel
theorem tyX8_ok : ∀ k, k < 3 → parseFieldDescriptor (TX8 k).2.2.1 = some (tyX8 k) := by decide +kernel
abbrev cX8_init : ByteArray := prog_10_method_1_code
def yX8_init : MethodName := ⟨RX8, "<init>", "(LThreeOffers$Holders;)V"⟩
abbrev cX8_settle : ByteArray := prog_10_method_2_code
def yX8_settle : MethodName := ⟨RX8, "settle", "()V"⟩
abbrev cX8_closeRing : ByteArray := prog_10_method_3_code
def yX8_closeRing : MethodName := ⟨RX8, "closeRing", "(I)I"⟩
abbrev cX8_pointedTo : ByteArray := prog_10_method_4_code
def yX8_pointedTo : MethodName := ⟨RX8, "pointedTo", "(II)I"⟩
def RX9 : String := "ThreeOffers$Text"
def TX9 : u_T := fun k => match k with
  | 0 => ("ThreeOffers$Text", "signs", "[C", true)
  | 1 => ("ThreeOffers$Text", "length", "I", false)
  | 2 => ("ThreeOffers$Text", "lines", "I", false)
  | 3 => ("ThreeOffers$Text", "start", "I", false)
  | 4 => ("ThreeOffers$Text", "end", "I", false)
  | _ => ("ThreeOffers$Text", "look", "I", false)
def tyX9 : Nat → FieldType := fun k => match k with
  | 0 => .array .char
  | 1 => .int
  | 2 => .int
  | 3 => .int
  | 4 => .int
  | _ => .int
theorem nmX9 : ∀ a, a < 6 → ∀ b, b < 6 → a ≠ b → (TX9 a).2.1 ≠ (TX9 b).2.1 := by decide +kernel
theorem tyX9_ok : ∀ k, k < 6 → parseFieldDescriptor (TX9 k).2.2.1 = some (tyX9 k) := by decide +kernel
abbrev cX9_init : ByteArray := prog_11_method_1_code
def yX9_init : MethodName := ⟨RX9, "<init>", "()V"⟩
abbrev cX9_add : ByteArray := prog_11_method_2_code
def yX9_add : MethodName := ⟨RX9, "add", "(C)V"⟩
abbrev cX9_readInto : ByteArray := prog_11_method_3_code
def yX9_readInto : MethodName := ⟨RX9, "readInto", "(LThreeOffers$Rules;)I"⟩
abbrev cX9_readLine : ByteArray := prog_11_method_4_code
def yX9_readLine : MethodName := ⟨RX9, "readLine", "(LThreeOffers$Rules;)Z"⟩
abbrev cX9_readWay : ByteArray := prog_11_method_5_code
def yX9_readWay : MethodName := ⟨RX9, "readWay", "(LThreeOffers$Rules;)Z"⟩
abbrev cX9_choose : ByteArray := prog_11_method_6_code
def yX9_choose : MethodName := ⟨RX9, "choose", "(Ljava/lang/String;Ljava/lang/String;Ljava/lang/String;)I"⟩
abbrev cX9_number : ByteArray := prog_11_method_7_code
def yX9_number : MethodName := ⟨RX9, "number", "(I)I"⟩
abbrev cX9_pass : ByteArray := prog_11_method_8_code
def yX9_pass : MethodName := ⟨RX9, "pass", "(Ljava/lang/String;)Z"⟩
abbrev cX9_goOn : ByteArray := prog_11_method_9_code
def yX9_goOn : MethodName := ⟨RX9, "goOn", "()V"⟩
abbrev cX9_lookOf : ByteArray := prog_11_method_10_code
def yX9_lookOf : MethodName := ⟨RX9, "lookOf", "(C)I"⟩
def RX10 : String := "ThreeOffers$Town"
def TX10 : u_T := fun k => match k with
  | 0 => ("ThreeOffers$Town", "worths", "[[I", true)
  | 1 => ("ThreeOffers$Town", "needs", "[I", true)
  | 2 => ("ThreeOffers$Town", "houses", "LThreeOffers$Row;", true)
  | _ => ("ThreeOffers$Town", "comers", "LThreeOffers$Row;", true)
def tyX10 : Nat → FieldType := fun k => match k with
  | 0 => .array (.array .int)
  | 1 => .array .int
  | 2 => .object "ThreeOffers$Row"
  | _ => .object "ThreeOffers$Row"
theorem nmX10 : ∀ a, a < 4 → ∀ b, b < 4 → a ≠ b → (TX10 a).2.1 ≠ (TX10 b).2.1 := by decide +kernel
theorem tyX10_ok : ∀ k, k < 4 → parseFieldDescriptor (TX10 k).2.2.1 = some (tyX10 k) := by decide +kernel
abbrev cX10_init : ByteArray := prog_12_method_1_code
def yX10_init : MethodName := ⟨RX10, "<init>", "()V"⟩
def RX11 : String := "ThreeOffers"
def TX11 : u_T := fun k => match k with
  | 0 => ("ThreeOffers", "town", "LThreeOffers$Town;", true)
  | 1 => ("ThreeOffers", "told", "LThreeOffers$Rules;", true)
  | 2 => ("ThreeOffers", "draft", "LThreeOffers$Rules;", true)
  | 3 => ("ThreeOffers", "text", "LThreeOffers$Text;", true)
  | 4 => ("ThreeOffers", "now", "LThreeOffers$Course;", true)
  | 5 => ("ThreeOffers", "trial", "LThreeOffers$Course;", true)
  | 6 => ("ThreeOffers", "settings", "LThreeOffers$Rest;", true)
  | 7 => ("ThreeOffers", "draw", "LThreeOffers$Lot;", true)
  | 8 => ("ThreeOffers", "holders", "LThreeOffers$Holders;", true)
  | 9 => ("ThreeOffers", "exchange", "LThreeOffers$Swaps;", true)
  | _ => ("ThreeOffers", "moves", "LThreeOffers$Chain;", true)
def tyX11 : Nat → FieldType := fun k => match k with
  | 0 => .object "ThreeOffers$Town"
  | 1 => .object "ThreeOffers$Rules"
  | 2 => .object "ThreeOffers$Rules"
  | 3 => .object "ThreeOffers$Text"
  | 4 => .object "ThreeOffers$Course"
  | 5 => .object "ThreeOffers$Course"
  | 6 => .object "ThreeOffers$Rest"
  | 7 => .object "ThreeOffers$Lot"
  | 8 => .object "ThreeOffers$Holders"
  | 9 => .object "ThreeOffers$Swaps"
  | _ => .object "ThreeOffers$Chain"
theorem nmX11 : ∀ a, a < 11 → ∀ b, b < 11 → a ≠ b → (TX11 a).2.1 ≠ (TX11 b).2.1 := by decide +kernel
theorem tyX11_ok : ∀ k, k < 11 → parseFieldDescriptor (TX11 k).2.2.1 = some (tyX11 k) := by decide +kernel
abbrev cX11_init : ByteArray := prog_1_method_1_code
def yX11_init : MethodName := ⟨RX11, "<init>", "()V"⟩
abbrev cX11_worth : ByteArray := prog_1_method_2_code
def yX11_worth : MethodName := ⟨RX11, "worth", "(III)I"⟩
abbrev cX11_need : ByteArray := prog_1_method_3_code
def yX11_need : MethodName := ⟨RX11, "need", "(II)I"⟩
abbrev cX11_coming : ByteArray := prog_1_method_4_code
def yX11_coming : MethodName := ⟨RX11, "coming", "(I)I"⟩
abbrev cX11_joining : ByteArray := prog_1_method_5_code
def yX11_joining : MethodName := ⟨RX11, "joining", "(I)I"⟩
abbrev cX11_join : ByteArray := prog_1_method_6_code
def yX11_join : MethodName := ⟨RX11, "join", "(I)I"⟩
abbrev cX11_run : ByteArray := prog_1_method_7_code
def yX11_run : MethodName := ⟨RX11, "run", "(I)I"⟩
abbrev cX11_person : ByteArray := prog_1_method_8_code
def yX11_person : MethodName := ⟨RX11, "person", "(II)I"⟩
abbrev cX11_of : ByteArray := prog_1_method_9_code
def yX11_of : MethodName := ⟨RX11, "of", "(II)I"⟩
abbrev cX11_empty : ByteArray := prog_1_method_10_code
def yX11_empty : MethodName := ⟨RX11, "empty", "()I"⟩
abbrev cX11_write : ByteArray := prog_1_method_11_code
def yX11_write : MethodName := ⟨RX11, "write", "(JI)I"⟩
abbrev cX11_erase : ByteArray := prog_1_method_12_code
def yX11_erase : MethodName := ⟨RX11, "erase", "()I"⟩
abbrev cX11_fault : ByteArray := prog_1_method_13_code
def yX11_fault : MethodName := ⟨RX11, "fault", "()I"⟩
abbrev cX11_rules : ByteArray := prog_1_method_14_code
def yX11_rules : MethodName := ⟨RX11, "rules", "()I"⟩
abbrev cX11_rule : ByteArray := prog_1_method_15_code
def yX11_rule : MethodName := ⟨RX11, "rule", "(I)I"⟩
abbrev cX11_way : ByteArray := prog_1_method_16_code
def yX11_way : MethodName := ⟨RX11, "way", "(II)I"⟩
abbrev cX11_would : ByteArray := prog_1_method_17_code
def yX11_would : MethodName := ⟨RX11, "would", "(II)I"⟩
abbrev cX11_gain : ByteArray := prog_1_method_18_code
def yX11_gain : MethodName := ⟨RX11, "gain", "(II)I"⟩
abbrev cX11_best : ByteArray := prog_1_method_19_code
def yX11_best : MethodName := ⟨RX11, "best", "(II)I"⟩
abbrev cX11_rest : ByteArray := prog_1_method_20_code
def yX11_rest : MethodName := ⟨RX11, "rest", "(II)I"⟩
abbrev cX11_lot : ByteArray := prog_1_method_21_code
def yX11_lot : MethodName := ⟨RX11, "lot", "(IIIII)I"⟩
abbrev cX11_holder : ByteArray := prog_1_method_22_code
def yX11_holder : MethodName := ⟨RX11, "holder", "(II)I"⟩
abbrev cX11_swaps : ByteArray := prog_1_method_23_code
def yX11_swaps : MethodName := ⟨RX11, "swaps", "(I)I"⟩
abbrev cX11_rings : ByteArray := prog_1_method_24_code
def yX11_rings : MethodName := ⟨RX11, "rings", "()I"⟩
abbrev cX11_chain : ByteArray := prog_1_method_25_code
def yX11_chain : MethodName := ⟨RX11, "chain", "(II)I"⟩
abbrev cX11_mean : ByteArray := prog_1_method_26_code
def yX11_mean : MethodName := ⟨RX11, "mean", "(IIII)J"⟩
abbrev cX11_count : ByteArray := prog_1_method_27_code
def yX11_count : MethodName := ⟨RX11, "count", "(I)I"⟩
abbrev cX11_tryOut : ByteArray := prog_1_method_28_code
def yX11_tryOut : MethodName := ⟨RX11, "tryOut", "(ILThreeOffers$Rules;)V"⟩
abbrev cX11_within : ByteArray := prog_1_method_29_code
def yX11_within : MethodName := ⟨RX11, "within", "(III)Z"⟩
abbrev cX11_isSort : ByteArray := prog_1_method_30_code
def yX11_isSort : MethodName := ⟨RX11, "isSort", "(I)Z"⟩
abbrev cX11_isKind : ByteArray := prog_1_method_31_code
def yX11_isKind : MethodName := ⟨RX11, "isKind", "(I)Z"⟩
abbrev cX11_power : ByteArray := prog_1_method_32_code
def yX11_power : MethodName := ⟨RX11, "power", "(JI)J"⟩
abbrev cX11_lowest : ByteArray := prog_1_method_33_code
def yX11_lowest : MethodName := ⟨RX11, "lowest", "(JJI)J"⟩
abbrev cX11_commonDivisor : ByteArray := prog_1_method_34_code
def yX11_commonDivisor : MethodName := ⟨RX11, "commonDivisor", "(JJ)J"⟩
def RX12 : String := "ThreeOffersModel"
def TX12 : u_T := fun k => match k with
  | 0 => ("ThreeOffersModel", "worth", "[I", true)
  | 1 => ("ThreeOffersModel", "need", "[I", true)
  | 2 => ("ThreeOffersModel", "comings", "I", false)
  | 3 => ("ThreeOffersModel", "coming", "[I", true)
  | 4 => ("ThreeOffersModel", "joinings", "I", false)
  | 5 => ("ThreeOffersModel", "joining", "[I", true)
  | 6 => ("ThreeOffersModel", "now", "[I", true)
  | 7 => ("ThreeOffersModel", "kept", "[I", true)
  | 8 => ("ThreeOffersModel", "order", "[I", true)
  | 9 => ("ThreeOffersModel", "isOff", "[Z", true)
  | 10 => ("ThreeOffersModel", "bytes", "I", false)
  | 11 => ("ThreeOffersModel", "text", "[I", true)
  | 12 => ("ThreeOffersModel", "position", "I", false)
  | 13 => ("ThreeOffersModel", "tokenAt", "I", false)
  | 14 => ("ThreeOffersModel", "token", "J", false)
  | 15 => ("ThreeOffersModel", "digits", "I", false)
  | 16 => ("ThreeOffersModel", "number", "I", false)
  | 17 => ("ThreeOffersModel", "faultAt", "I", false)
  | 18 => ("ThreeOffersModel", "readMany", "I", false)
  | 19 => ("ThreeOffersModel", "read", "[I", true)
  | 20 => ("ThreeOffersModel", "rule", "[I", true)
  | 21 => ("ThreeOffersModel", "told", "[I", true)
  | 22 => ("ThreeOffersModel", "gains", "[I", true)
  | 23 => ("ThreeOffersModel", "row", "[I", true)
  | 24 => ("ThreeOffersModel", "left", "[I", true)
  | 25 => ("ThreeOffersModel", "holders", "I", false)
  | 26 => ("ThreeOffersModel", "holderSort", "[I", true)
  | 27 => ("ThreeOffersModel", "holderKind", "[I", true)
  | 28 => ("ThreeOffersModel", "pointsTo", "[I", true)
  | 29 => ("ThreeOffersModel", "gets", "[I", true)
  | 30 => ("ThreeOffersModel", "ringMany", "I", false)
  | _ => ("ThreeOffersModel", "longest", "[I", true)
def tyX12 : Nat → FieldType := fun k => match k with
  | 0 => .array .int
  | 1 => .array .int
  | 2 => .int
  | 3 => .array .int
  | 4 => .int
  | 5 => .array .int
  | 6 => .array .int
  | 7 => .array .int
  | 8 => .array .int
  | 9 => .array .boolean
  | 10 => .int
  | 11 => .array .int
  | 12 => .int
  | 13 => .int
  | 14 => .long
  | 15 => .int
  | 16 => .int
  | 17 => .int
  | 18 => .int
  | 19 => .array .int
  | 20 => .array .int
  | 21 => .array .int
  | 22 => .array .int
  | 23 => .array .int
  | 24 => .array .int
  | 25 => .int
  | 26 => .array .int
  | 27 => .array .int
  | 28 => .array .int
  | 29 => .array .int
  | 30 => .int
  | _ => .array .int
theorem nmX12 : ∀ a, a < 32 → ∀ b, b < 32 → a ≠ b → (TX12 a).2.1 ≠ (TX12 b).2.1 := by decide +kernel
theorem tyX12_ok : ∀ k, k < 32 → parseFieldDescriptor (TX12 k).2.2.1 = some (tyX12 k) := by decide +kernel
abbrev cX12_init : ByteArray := prog_14_method_1_code
def yX12_init : MethodName := ⟨RX12, "<init>", "()V"⟩
abbrev cX12_firstRules : ByteArray := prog_14_method_2_code
def yX12_firstRules : MethodName := ⟨RX12, "firstRules", "([I)V"⟩
abbrev cX12_in : ByteArray := prog_14_method_3_code
def yX12_in : MethodName := ⟨RX12, "in", "(III)Z"⟩
abbrev cX12_isFour : ByteArray := prog_14_method_4_code
def yX12_isFour : MethodName := ⟨RX12, "isFour", "(I)Z"⟩
abbrev cX12_worth : ByteArray := prog_14_method_5_code
def yX12_worth : MethodName := ⟨RX12, "worth", "(III)I"⟩
abbrev cX12_need : ByteArray := prog_14_method_6_code
def yX12_need : MethodName := ⟨RX12, "need", "(II)I"⟩
abbrev cX12_coming : ByteArray := prog_14_method_7_code
def yX12_coming : MethodName := ⟨RX12, "coming", "(I)I"⟩
abbrev cX12_joining : ByteArray := prog_14_method_8_code
def yX12_joining : MethodName := ⟨RX12, "joining", "(I)I"⟩
abbrev cX12_add : ByteArray := prog_14_method_9_code
def yX12_add : MethodName := ⟨RX12, "add", "(I)V"⟩
abbrev cX12_join : ByteArray := prog_14_method_10_code
def yX12_join : MethodName := ⟨RX12, "join", "(I)I"⟩
abbrev cX12_isAhead : ByteArray := prog_14_method_11_code
def yX12_isAhead : MethodName := ⟨RX12, "isAhead", "(II)Z"⟩
abbrev cX12_findOrder : ByteArray := prog_14_method_12_code
def yX12_findOrder : MethodName := ⟨RX12, "findOrder", "()V"⟩
abbrev cX12_doesTake : ByteArray := prog_14_method_13_code
def yX12_doesTake : MethodName := ⟨RX12, "doesTake", "(II)Z"⟩
abbrev cX12_offer : ByteArray := prog_14_method_14_code
def yX12_offer : MethodName := ⟨RX12, "offer", "(I)V"⟩
abbrev cX12_goWeek : ByteArray := prog_14_method_15_code
def yX12_goWeek : MethodName := ⟨RX12, "goWeek", "()V"⟩
abbrev cX12_run : ByteArray := prog_14_method_16_code
def yX12_run : MethodName := ⟨RX12, "run", "(I)I"⟩
abbrev cX12_person : ByteArray := prog_14_method_17_code
def yX12_person : MethodName := ⟨RX12, "person", "(II)I"⟩
abbrev cX12_of : ByteArray := prog_14_method_18_code
def yX12_of : MethodName := ⟨RX12, "of", "(II)I"⟩
abbrev cX12_empty : ByteArray := prog_14_method_19_code
def yX12_empty : MethodName := ⟨RX12, "empty", "()I"⟩
abbrev cX12_write : ByteArray := prog_14_method_20_code
def yX12_write : MethodName := ⟨RX12, "write", "(JI)I"⟩
abbrev cX12_erase : ByteArray := prog_14_method_21_code
def yX12_erase : MethodName := ⟨RX12, "erase", "()I"⟩
abbrev cX12_nextToken : ByteArray := prog_14_method_22_code
def yX12_nextToken : MethodName := ⟨RX12, "nextToken", "()V"⟩
abbrev cX12_fails : ByteArray := prog_14_method_23_code
def yX12_fails : MethodName := ⟨RX12, "fails", "()Z"⟩
abbrev cX12_isNumber : ByteArray := prog_14_method_24_code
def yX12_isNumber : MethodName := ⟨RX12, "isNumber", "(II)Z"⟩
abbrev cX12_isOf : ByteArray := prog_14_method_25_code
def yX12_isOf : MethodName := ⟨RX12, "isOf", "(IJJJ)Z"⟩
abbrev cX12_isWay : ByteArray := prog_14_method_26_code
def yX12_isWay : MethodName := ⟨RX12, "isWay", "()Z"⟩
abbrev cX12_isLine : ByteArray := prog_14_method_27_code
def yX12_isLine : MethodName := ⟨RX12, "isLine", "()Z"⟩
abbrev cX12_isRead : ByteArray := prog_14_method_28_code
def yX12_isRead : MethodName := ⟨RX12, "isRead", "()Z"⟩
abbrev cX12_fault : ByteArray := prog_14_method_29_code
def yX12_fault : MethodName := ⟨RX12, "fault", "()I"⟩
abbrev cX12_rules : ByteArray := prog_14_method_30_code
def yX12_rules : MethodName := ⟨RX12, "rules", "()I"⟩
abbrev cX12_rule : ByteArray := prog_14_method_31_code
def yX12_rule : MethodName := ⟨RX12, "rule", "(I)I"⟩
abbrev cX12_way : ByteArray := prog_14_method_32_code
def yX12_way : MethodName := ⟨RX12, "way", "(II)I"⟩
abbrev cX12_keepRules : ByteArray := prog_14_method_33_code
def yX12_keepRules : MethodName := ⟨RX12, "keepRules", "()V"⟩
abbrev cX12_layBackRules : ByteArray := prog_14_method_34_code
def yX12_layBackRules : MethodName := ⟨RX12, "layBackRules", "()V"⟩
abbrev cX12_goOn : ByteArray := prog_14_method_35_code
def yX12_goOn : MethodName := ⟨RX12, "goOn", "(I)V"⟩
abbrev cX12_layBack : ByteArray := prog_14_method_36_code
def yX12_layBack : MethodName := ⟨RX12, "layBack", "()V"⟩
abbrev cX12_more : ByteArray := prog_14_method_37_code
def yX12_more : MethodName := ⟨RX12, "more", "(I)I"⟩
abbrev cX12_would : ByteArray := prog_14_method_38_code
def yX12_would : MethodName := ⟨RX12, "would", "(II)I"⟩
abbrev cX12_gainOf : ByteArray := prog_14_method_39_code
def yX12_gainOf : MethodName := ⟨RX12, "gainOf", "(I)I"⟩
abbrev cX12_gain : ByteArray := prog_14_method_40_code
def yX12_gain : MethodName := ⟨RX12, "gain", "(II)I"⟩
abbrev cX12_best : ByteArray := prog_14_method_41_code
def yX12_best : MethodName := ⟨RX12, "best", "(II)I"⟩
abbrev cX12_findGains : ByteArray := prog_14_method_42_code
def yX12_findGains : MethodName := ⟨RX12, "findGains", "(I)V"⟩
abbrev cX12_isAtRest : ByteArray := prog_14_method_43_code
def yX12_isAtRest : MethodName := ⟨RX12, "isAtRest", "(I)Z"⟩
abbrev cX12_rest : ByteArray := prog_14_method_44_code
def yX12_rest : MethodName := ⟨RX12, "rest", "(II)I"⟩
abbrev cX12_divisor : ByteArray := prog_14_method_45_code
def yX12_divisor : MethodName := ⟨RX12, "divisor", "(JJ)J"⟩
abbrev cX12_part : ByteArray := prog_14_method_46_code
def yX12_part : MethodName := ⟨RX12, "part", "(JJI)I"⟩
abbrev cX12_lotOf : ByteArray := prog_14_method_47_code
def yX12_lotOf : MethodName := ⟨RX12, "lotOf", "(III)I"⟩
abbrev cX12_lot : ByteArray := prog_14_method_48_code
def yX12_lot : MethodName := ⟨RX12, "lot", "(IIIII)I"⟩
abbrev cX12_holder : ByteArray := prog_14_method_49_code
def yX12_holder : MethodName := ⟨RX12, "holder", "(II)I"⟩
abbrev cX12_worthTo : ByteArray := prog_14_method_50_code
def yX12_worthTo : MethodName := ⟨RX12, "worthTo", "(II)I"⟩
abbrev cX12_swapAll : ByteArray := prog_14_method_51_code
def yX12_swapAll : MethodName := ⟨RX12, "swapAll", "()V"⟩
abbrev cX12_swaps : ByteArray := prog_14_method_52_code
def yX12_swaps : MethodName := ⟨RX12, "swaps", "(I)I"⟩
abbrev cX12_rings : ByteArray := prog_14_method_53_code
def yX12_rings : MethodName := ⟨RX12, "rings", "()I"⟩
abbrev cX12_wouldGo : ByteArray := prog_14_method_54_code
def yX12_wouldGo : MethodName := ⟨RX12, "wouldGo", "(II)Z"⟩
abbrev cX12_chain : ByteArray := prog_14_method_55_code
def yX12_chain : MethodName := ⟨RX12, "chain", "(II)I"⟩
abbrev cX12_mean : ByteArray := prog_14_method_56_code
def yX12_mean : MethodName := ⟨RX12, "mean", "(IIII)J"⟩
abbrev cX12_count : ByteArray := prog_14_method_57_code
def yX12_count : MethodName := ⟨RX12, "count", "(I)I"⟩
def RJ6 : String := "java/lang/Integer"
abbrev cJ6_numberOfTrailingZeros_0f7a4 : ByteArray := prog_15_method_48_code
def yJ6_numberOfTrailingZeros_0f7a4 : MethodName := ⟨RJ6, "numberOfTrailingZeros", "(I)I"⟩
def RJ9 : String := "java/lang/Math"
abbrev cJ9_min_7cf53 : ByteArray := prog_16_method_69_code
def yJ9_min_7cf53 : MethodName := ⟨RJ9, "min", "(II)I"⟩
def RJ0 : String := "java/lang/String"
abbrev cJ0_length_8abf5 : ByteArray := prog_17_method_54_code
def yJ0_length_8abf5 : MethodName := ⟨RJ0, "length", "()I"⟩
abbrev cJ0_charAt_5068e : ByteArray := prog_17_method_56_code
def yJ0_charAt_5068e : MethodName := ⟨RJ0, "charAt", "(I)C"⟩
abbrev cJ0_coder_7d493 : ByteArray := prog_17_method_152_code
def yJ0_coder_7d493 : MethodName := ⟨RJ0, "coder", "()B"⟩
abbrev cJ0_isLatin1_aae02 : ByteArray := prog_17_method_154_code
def yJ0_isLatin1_aae02 : MethodName := ⟨RJ0, "isLatin1", "()Z"⟩
abbrev cJ0_checkIndex_df160 : ByteArray := prog_17_method_155_code
def yJ0_checkIndex_df160 : MethodName := ⟨RJ0, "checkIndex", "(II)V"⟩
def RJ1 : String := "java/lang/StringLatin1"
abbrev cJ1_charAt_3b067 : ByteArray := prog_18_method_2_code
def yJ1_charAt_3b067 : MethodName := ⟨RJ1, "charAt", "([BI)C"⟩
def RJ2 : String := "java/lang/StringUTF16"
abbrev cJ2_getChar_3b067 : ByteArray := prog_19_method_5_code
def yJ2_getChar_3b067 : MethodName := ⟨RJ2, "getChar", "([BI)C"⟩
abbrev cJ2_length_9d52b : ByteArray := prog_19_method_6_code
def yJ2_length_9d52b : MethodName := ⟨RJ2, "length", "([B)I"⟩
abbrev cJ2_charAt_3b067 : ByteArray := prog_19_method_83_code
def yJ2_charAt_3b067 : MethodName := ⟨RJ2, "charAt", "([BI)C"⟩
abbrev cJ2_checkIndex_2214a : ByteArray := prog_19_method_91_code
def yJ2_checkIndex_2214a : MethodName := ⟨RJ2, "checkIndex", "(I[B)V"⟩
def RJ10 : String := "java/lang/System"
def RJ7 : String := "java/util/Arrays"
abbrev cJ7_fill_53178 : ByteArray := prog_21_method_103_code
def yJ7_fill_53178 : MethodName := ⟨RJ7, "fill", "([II)V"⟩
def RJ3 : String := "jdk/internal/util/Preconditions"
abbrev cJ3_checkIndex_8e157 : ByteArray := prog_22_method_11_code
def yJ3_checkIndex_8e157 : MethodName := ⟨RJ3, "checkIndex", "(IILjava/util/function/BiFunction;)I"⟩
def RL : String := "ThreeOffersLaw"
abbrev cL_law : ByteArray := code
def yL_law : MethodName := ⟨RL, "law", "([I)Z"⟩
abbrev vwCl : List vw_C := [(RX0, TX0, 4), (RX1, TX1, 7), (RX2, TX2, 4), (RX3, TX3, 4), (RX4, TX4, 5), (RX5, TX5, 6), (RX6, TX6, 2), (RX7, TX7, 7), (RX8, TX8, 3), (RX9, TX9, 6), (RX10, TX10, 4), (RX11, TX11, 11), (RX12, TX12, 32)]
end
section
-- the state of the whole system, in numbers: what a heap of the machine says
def lw_all : List Cond := lw_tbl.filter goodWord
theorem lw_all_in {w : Cond} {k : Nat} (h : lw_tbl[k]? = some w) (hg : goodWord w = true) : w ∈ lw_all := List.mem_filter.mpr ⟨List.mem_of_getElem? h, hg⟩
theorem lw_all_good (y : Cond) (hy : y ∈ lw_all) : GoodIn (y :: lw_all) (y :: lw_all) := fun w hw => ⟨hw, good_of_word (List.mem_filter.mp ((List.mem_cons.mp hw).elim (fun e => e ▸ hy) id)).2⟩
def ab_shl : List (Nat × Nat) := [(11, 11), (10, 4), (23, 4), (20, 4), (20, 4), (20, 4), (20, 4), (20, 4), (6, 2), (20, 24), (6, 2), (20, 24), (7, 7), (20, 4), (20, 4), (20, 4), (7, 7), (20, 4), (20, 4), (20, 4), (9, 6), (21, 160), (1, 7), (24, 12), (23, 6), (20, 4), (20, 4), (20, 4), (20, 4), (20, 4), (20, 4), (4, 5), (4, 5), (4, 5), (4, 5), (4, 5), (4, 5), (4, 5), (4, 5), (4, 5), (4, 5), (4, 5), (4, 5), (1, 7), (24, 12), (23, 6), (20, 4), (20, 4), (20, 4), (20, 4), (20, 4), (20, 4), (4, 5), (4, 5), (4, 5), (4, 5), (4, 5), (4, 5), (4, 5), (4, 5), (4, 5), (4, 5), (4, 5), (4, 5), (5, 6), (20, 2500), (23, 4), (20, 5), (20, 5), (20, 5), (20, 5), (20, 625), (3, 4), (20, 6), (20, 4), (2, 4), (20, 8), (20, 8), (8, 3), (20, 8), (0, 4), (20, 8), (20, 8), (12, 32), (20, 16), (20, 4), (20, 24), (20, 24), (20, 88), (20, 88), (20, 12), (22, 12), (20, 160), (20, 16), (20, 16), (20, 16), (20, 2500), (20, 6), (20, 4), (20, 8), (20, 8), (20, 8), (20, 8), (20, 2048)]
def ab_sh (i : Nat) : Nat × Nat := ab_shl.getD (i - 1) (0, 0)
def ab_ty (k : Nat) : Nat → FieldType := match k with
  | 0 => tyX0
  | 1 => tyX1
  | 2 => tyX2
  | 3 => tyX3
  | 4 => tyX4
  | 5 => tyX5
  | 6 => tyX6
  | 7 => tyX7
  | 8 => tyX8
  | 9 => tyX9
  | 10 => tyX10
  | 11 => tyX11
  | 12 => tyX12
  | _ => fun _ => .int
def ab_six (i : Nat) : Nat := [46, 48, 50, 52, 60, 68, 70, 71, 73, 77, 81, 86, 88, 90, 40].getD i 0
def ab_stx (i : Nat) : String := ["order", "time", "need", "points", "noes", "then", "end", "back", "stay", "grow", "way", "any", "bar", "fall", ";"].getD i ""
def ab_len : List Nat := [5, 4, 4, 6, 4, 4, 3, 4, 4, 4, 3, 3, 3, 4, 1]
def ab_byt : List (List Int32) := [[111, 114, 100, 101, 114], [116, 105, 109, 101], [110, 101, 101, 100], [112, 111, 105, 110, 116, 115], [110, 111, 101, 115], [116, 104, 101, 110], [101, 110, 100], [98, 97, 99, 107], [115, 116, 97, 121], [103, 114, 111, 119], [119, 97, 121], [97, 110, 121], [98, 97, 114], [102, 97, 108, 108], [59]]
abbrev ab_V : Type := Int ⊕ (Int ⊕ Nat)
abbrev ab_i (z : Int) : ab_V := Sum.inl z
abbrev ab_l (z : Int) : ab_V := Sum.inr (Sum.inl z)
abbrev ab_r (i : Nat) : ab_V := Sum.inr (Sum.inr i)
-- launch; class ids; slots; array class ids; the last old address; addresses of old cells; the script's length and values
abbrev ab_G : Type := Launch × (Nat → ClassId) × (Nat → Nat → Nat) × (Nat → ClassId) × Nat × (Nat → Nat) × Nat × (Nat → Int32)
abbrev ab_B (G : ab_G) : Nat := G.2.2.2.2.1
abbrev ab_ax (G : ab_G) : Nat → Nat := G.2.2.2.2.2.1
abbrev ab_cT (G : ab_G) : Nat → ClassId := G.2.2.2.1
abbrev ab_L (G : ab_G) : Nat := G.2.2.2.2.2.2.1
abbrev ab_xs (G : ab_G) : Nat → Int32 := G.2.2.2.2.2.2.2
-- how many cells are made; what ints and longs they hold; what references
abbrev ab_H : Type := Nat × (Nat → Nat → Int) × (Nat → Nat → Nat)
abbrev ab_Y : Type := MethodName × ByteArray × Nat × Option FieldType
def ab_ad (G : ab_G) (i : Nat) : Nat := if i < 1000 then ab_B G + i else ab_ax G i
def ab_rv (G : ab_G) (r : Nat) : Value := if r = 0 then .null else .ref (ab_ad G r)
def ab_c (G : ab_G) : ab_V → Value
  | .inl z => .int (Int32.ofInt z)
  | .inr (.inl z) => .long (Int64.ofInt z)
  | .inr (.inr r) => ab_rv G r
def ab_sv (G : ab_G) (t : Nat) (x : Int) (r : Nat) : Value := match t with
  | 0 => .int (Int32.ofInt x)
  | 1 => ab_rv G r
  | _ => .long (Int64.ofInt x)
def ab_tag (t : FieldType) : Nat := match t with
  | .long => 2
  | .object _ => 1
  | .array _ => 1
  | _ => 0
def ab_et (k : Nat) : FieldType := match k with
  | 20 => .int
  | 21 => .char
  | 22 => .boolean
  | 23 => .array .int
  | _ => .object "ThreeOffers$Person"
def ab_u (I : Nat → Nat → Int) (i j : Nat) (v : Int) : Nat → Nat → Int := fun a b => if a = i ∧ b = j then v else I a b
def ab_w (R : Nat → Nat → Nat) (i j : Nat) (v : Nat) : Nat → Nat → Nat := fun a b => if a = i ∧ b = j then v else R a b
def ab_cell (G : ab_G) (I : Nat → Nat → Int) (R : Nat → Nat → Nat) (i : Nat) (H : Heap) : Prop :=
  if (ab_sh i).1 < 20 then ∃ q : vw_C, vwCl[(ab_sh i).1]? = some q ∧ t_OB (ab_ad G i) (G.2.1 (ab_sh i).1) q.2.2 (G.2.2.1 (ab_sh i).1) H (fun j => ab_sv G (ab_tag (ab_ty (ab_sh i).1 j)) (I i j) (R i j))
  else H[ab_ad G i]? = some (arrV (ab_cT G (ab_sh i).1) (ab_sh i).2 (fun j => ab_sv G (ab_tag (ab_et (ab_sh i).1)) (I i j) (R i j)))
def ab_Rep (G : ab_G) (h : ab_H) (H : Heap) : Prop := h.1 < 1000 ∧ H.size = ab_B G + h.1 + 1 ∧ ∀ i, 1 ≤ i → i ≤ h.1 → ab_cell G h.2.1 h.2.2 i H
def ab_A (G : ab_G) : Nat → Prop := fun q => ab_B G < q
def ab_tys (G : ab_G) : List (ClassId × FieldType) := [(ab_cT G 20, .int), (ab_cT G 21, .char), (ab_cT G 22, .boolean), (ab_cT G 23, .array .int), (ab_cT G 24, .object "ThreeOffers$Person")]
def ab_fig (j : Nat) : Int := [1, 5, 25, 125].getD j 0
def ab_fac (j : Nat) : Int := [1, 1, 2, 6, 24, 120, 720].getD j 0
def ab_St (G : ab_G) (U : State) (H : Heap) : Prop :=
  va_Z "ThreeOffers" "FIGURES" "[I" (.ref (ab_ax G 1000)) (ab_A G) U H ∧ va_T .int (ab_ax G 1000) 4 (fun j => .int (Int32.ofInt (ab_fig j))) (ab_A G) U H ∧
  va_Z "ThreeOffers" "FACTORIALS" "[I" (.ref (ab_ax G 1001)) (ab_A G) U H ∧ va_T .int (ab_ax G 1001) 7 (fun j => .int (Int32.ofInt (ab_fac j))) (ab_A G) U H ∧
  vk_S 15 ab_len ab_byt (fun i => ab_ax G (1100 + i)) (fun i => ab_ax G (1200 + i)) (ab_A G) U H ∧
  va_Z "java/lang/String" "COMPACT_STRINGS" "Z" (.int 1) (ab_A G) U H ∧
  (va_X (ab_ax G 1002) (ab_L G) (ab_xs G) U H ∧ ab_ax G 1002 ≤ ab_B G)
def ab_Gl (G : ab_G) (U : State) : Prop :=
  va_K (G.2.1, G.2.2.1) vwCl (ab_tys G) U ∧ ab_St G U U.heap ∧ (∀ i, i < 15 → vk_R "ThreeOffers$Text" (ab_six i) (ab_stx i) (ab_ax G (1100 + i)) U) ∧ ab_B G < U.heap.size
theorem ab_St.moved {G : ab_G} {s U : State} {H : Heap} (hal : s.vm.Alike U.vm) (h : ab_St G s H) : ab_St G U H :=
  ⟨h.1.moved hal, h.2.1.moved hal, h.2.2.1.moved hal, h.2.2.2.1.moved hal, h.2.2.2.2.1.moved hal, h.2.2.2.2.2.1.moved hal, h.2.2.2.2.2.2.1.moved hal, h.2.2.2.2.2.2.2⟩
theorem ab_St.kept {G : ab_G} {U : State} {H H1 : Heap} (hq : ∀ q : Nat, q ≤ ab_B G → H1[q]? = H[q]?) (h : ab_St G U H) : ab_St G U H1 := by
  have hq' : ∀ a : Nat, a < H.size → ¬ ab_A G a → H1[a]? = H[a]? := fun a _ ha => hq a (Nat.not_lt.mp ha)
  exact ⟨h.1.kept hq', h.2.1.kept hq', h.2.2.1.kept hq', h.2.2.2.1.kept hq', h.2.2.2.2.1.kept hq', h.2.2.2.2.2.1.kept hq', h.2.2.2.2.2.2.1.kept (hq _ h.2.2.2.2.2.2.2), h.2.2.2.2.2.2.2⟩
theorem ab_Gl.warm {G : ab_G} {s U : State} (hW : s.WarmedH U.vm) (hq : ∀ q : Nat, q ≤ ab_B G → U.heap[q]? = s.heap[q]?) (hb : ab_B G < U.heap.size) (h : ab_Gl G s) : ab_Gl G U :=
  ⟨h.1.moved hW.alike, (h.2.1.moved hW.alike).kept hq, fun i hi => (h.2.2.1 i hi).warm hW, hb⟩
theorem ab_Gl.same {G : ab_G} {s U : State} (hv : U.vm = s.vm) (hh : U.heap = s.heap) (h : ab_Gl G s) : ab_Gl G U := by
  refine ⟨h.1.moved (hv ▸ Vm.Alike.refl _), ?_, fun i hi => (h.2.2.1 i hi).same hv, by rw [hh]; exact h.2.2.2⟩
  rw [hh]
  exact h.2.1.moved (hv ▸ Vm.Alike.refl _)
-- locals
def ab_lo (G : ab_G) : Nat → List (Option ab_V) → List (Nat × Value)
  | _, [] => []
  | k, none :: t => ab_lo G (k + 1) t
  | k, some v :: t => (k, ab_c G v) :: ab_lo G (k + 1) t
theorem ab_lo_at {G : ab_G} : ∀ {ls : List (Option ab_V)} {k j : Nat} {v : ab_V}, ls[j]? = some (some v) → (k + j, ab_c G v) ∈ ab_lo G k ls
  | [], k, j, v, h => by simp at h
  | none :: t, k, 0, v, h => by simp at h
  | some w :: t, k, 0, v, h => by
    simp at h
    subst h
    exact List.mem_cons_self
  | none :: t, k, j + 1, v, h => by
    have := ab_lo_at (G := G) (ls := t) (k := k + 1) (j := j) (v := v) (by simpa using h)
    rw [show k + (j + 1) = k + 1 + j by omega]
    exact this
  | some w :: t, k, j + 1, v, h => by
    have := ab_lo_at (G := G) (ls := t) (k := k + 1) (j := j) (v := v) (by simpa using h)
    rw [show k + (j + 1) = k + 1 + j by omega]
    exact List.mem_cons_of_mem _ this
theorem ab_lo_of {G : ab_G} : ∀ {ls : List (Option ab_V)} {k : Nat} {q : Nat × Value}, q ∈ ab_lo G k ls → ∃ (j : Nat) (v : ab_V), ls[j]? = some (some v) ∧ q = (k + j, ab_c G v)
  | [], k, q, h => by simp [ab_lo] at h
  | none :: t, k, q, h => by
    obtain ⟨j, v, h1, h2⟩ := ab_lo_of (ls := t) (k := k + 1) h
    exact ⟨j + 1, v, by simpa using h1, by rw [h2]; congr 1; omega⟩
  | some w :: t, k, q, h => by
    rcases List.mem_cons.mp h with h | h
    · exact ⟨0, w, rfl, h⟩
    · obtain ⟨j, v, h1, h2⟩ := ab_lo_of (ls := t) (k := k + 1) h
      exact ⟨j + 1, v, by simpa using h1, by rw [h2]; congr 1; omega⟩
def ab_isl : Option ab_V → Bool
  | some (.inr (.inl _)) => true
  | _ => false
def ab_clr (ls : List (Option ab_V)) (i : Nat) : List (Option ab_V) := match i with
  | 0 => ls
  | i + 1 => match ls[i]? with
    | some (some (.inr (.inl _))) => ls.set i none
    | _ => ls
def ab_st1 (ls : List (Option ab_V)) (i : Nat) (v : ab_V) : List (Option ab_V) := (ab_clr ls i).set i (some v)
def ab_st2 (ls : List (Option ab_V)) (i : Nat) (v : ab_V) : List (Option ab_V) := ((ab_clr ls i).set i (some v)).set (i + 1) none
theorem ab_clr_at {ls : List (Option ab_V)} {i j : Nat} {v : ab_V} (h : (ab_clr ls i)[j]? = some (some v)) : ls[j]? = some (some v) ∧ ¬ (j + 1 = i ∧ ab_isl (some v) = true) := by
  cases i with
  | zero => exact ⟨h, by omega⟩
  | succ i =>
    unfold ab_clr at h
    simp only at h
    split at h
    · rename_i w hw
      by_cases hij : i = j
      · subst hij
        rw [List.getElem?_set_self (List.getElem?_eq_some_iff.mp hw).1] at h
        simp at h
      · rw [List.getElem?_set_ne hij] at h
        exact ⟨h, by omega⟩
    · rename_i hne
      refine ⟨h, fun ⟨h1, h2⟩ => ?_⟩
      have h1 : j = i := by omega
      subst h1
      match v, h2 with
      | .inr (.inl z), _ => exact hne z h
theorem ab_cat (G : ab_G) (v : ab_V) : (ab_c G v).category = if ab_isl (some v) = true then 2 else 1 := by
  match v with
  | .inl z => rfl
  | .inr (.inl z) => rfl
  | .inr (.inr r) =>
    show (ab_rv G r).category = _
    unfold ab_rv
    split <;> rfl
theorem ab_has1 {G : ab_G} {ls : List (Option ab_V)} {nL i : Nat} {v : ab_V} {l' : Array Slot} (h : lv_has l' nL ((i, ab_c G v) :: (ab_lo G 0 ls).filter (fun q => !(q.1 == i) && !(q.1 + 1 == i && q.2.category == 2)))) : lv_has l' nL (ab_lo G 0 (ab_st1 ls i v)) := by
  refine ⟨h.1, h.2.1, fun q hq => ?_⟩
  obtain ⟨j, w, hj, rfl⟩ := ab_lo_of hq
  apply h.2.2
  unfold ab_st1 at hj
  by_cases hij : i = j
  · subst hij
    have hl := (List.getElem?_eq_some_iff.mp hj).1
    rw [List.length_set] at hl
    rw [List.getElem?_set_self hl] at hj
    cases hj
    rw [Nat.zero_add]
    exact List.mem_cons_self
  · rw [List.getElem?_set_ne hij] at hj
    obtain ⟨h1, h2⟩ := ab_clr_at hj
    refine List.mem_cons_of_mem _ (List.mem_filter.mpr ⟨ab_lo_at h1, ?_⟩)
    have hc := ab_cat G w
    simp only [Nat.zero_add, Bool.and_eq_true, Bool.not_eq_true', beq_eq_false_iff_ne, ne_eq, Bool.and_eq_false_iff]
    refine ⟨fun e => hij e.symm, ?_⟩
    by_cases e : j + 1 = i
    · right
      intro e2
      rw [hc] at e2
      split at e2
      · rename_i e3; exact h2 ⟨e, e3⟩
      · cases e2
    · left; exact e
theorem ab_has2 {G : ab_G} {ls : List (Option ab_V)} {nL i : Nat} {v : ab_V} {l' : Array Slot} (h : lv_has l' nL ((i, ab_c G v) :: (ab_lo G 0 ls).filter (fun q => !(q.1 == i) && (!(q.1 == i + 1) && !(q.1 + 1 == i && q.2.category == 2))))) : lv_has l' nL (ab_lo G 0 (ab_st2 ls i v)) := by
  refine ⟨h.1, h.2.1, fun q hq => ?_⟩
  obtain ⟨j, w, hj, rfl⟩ := ab_lo_of hq
  apply h.2.2
  unfold ab_st2 at hj
  by_cases hij1 : i + 1 = j
  · subst hij1
    have hl := (List.getElem?_eq_some_iff.mp hj).1
    rw [List.length_set] at hl
    rw [List.getElem?_set_self hl] at hj
    cases hj
  · rw [List.getElem?_set_ne hij1] at hj
    by_cases hij : i = j
    · subst hij
      have hl := (List.getElem?_eq_some_iff.mp hj).1
      rw [List.length_set] at hl
      rw [List.getElem?_set_self hl] at hj
      cases hj
      rw [Nat.zero_add]
      exact List.mem_cons_self
    · rw [List.getElem?_set_ne hij] at hj
      obtain ⟨h1, h2⟩ := ab_clr_at hj
      refine List.mem_cons_of_mem _ (List.mem_filter.mpr ⟨ab_lo_at h1, ?_⟩)
      have hc := ab_cat G w
      simp only [Nat.zero_add, Bool.and_eq_true, Bool.not_eq_true', beq_eq_false_iff_ne, ne_eq, Bool.and_eq_false_iff]
      refine ⟨fun e => hij e.symm, fun e => hij1 e.symm, ?_⟩
      by_cases e : j + 1 = i
      · right
        intro e2
        rw [hc] at e2
        split at e2
        · rename_i e3; exact h2 ⟨e, e3⟩
        · cases e2
      · left; exact e
theorem ab_has_ld {G : ab_G} {ls : List (Option ab_V)} {nL i : Nat} {v : ab_V} {l' : Array Slot} (h : lv_has l' nL (ab_lo G 0 ls)) (hi : ls[i]? = some (some v)) : l'[i]? = some (.val (ab_c G v)) := by
  have := h.2.2 _ (ab_lo_at (G := G) (k := 0) hi)
  rwa [Nat.zero_add] at this
-- fewer known locals
def ab_le : List (Option ab_V) → List (Option ab_V) → Prop := fun a b => ∀ (j : Nat) (v : ab_V), a[j]? = some (some v) → b[j]? = some (some v)
theorem ab_has_le {G : ab_G} {a b : List (Option ab_V)} {nL : Nat} {l' : Array Slot} (h : lv_has l' nL (ab_lo G 0 b)) (hab : ab_le a b) : lv_has l' nL (ab_lo G 0 a) := by
  refine ⟨h.1, h.2.1, fun q hq => ?_⟩
  obtain ⟨j, w, hj, rfl⟩ := ab_lo_of hq
  exact h.2.2 _ (ab_lo_at (hab j w hj))
-- the locals at a method's entry
def ab_en : List ab_V → List (Option ab_V)
  | [] => []
  | .inr (.inl z) :: t => some (.inr (.inl z)) :: none :: ab_en t
  | v :: t => some v :: ab_en t
theorem ab_en_args (G : ab_G) : ∀ (as : List ab_V) (k : Nat), lv_args k (as.map (ab_c G)) = ab_lo G k (ab_en as)
  | [], k => rfl
  | .inl z :: t, k => by
    show (k, _) :: lv_args (k + 1) _ = _
    rw [ab_en_args G t (k + 1)]; rfl
  | .inr (.inl z) :: t, k => by
    show (k, _) :: lv_args (k + 2) _ = _
    rw [ab_en_args G t (k + 2)]; rfl
  | .inr (.inr r) :: t, k => by
    have hc : ¬ (ab_c G (.inr (.inr r))).category = 2 := by rw [ab_cat, if_neg (by simp [ab_isl])]; decide
    show (k, _) :: lv_args (if (ab_c G (.inr (.inr r))).category = 2 then k + 2 else k + 1) _ = _
    rw [if_neg hc, ab_en_args G t (k + 1)]; rfl
theorem ab_en_len (G : ab_G) : ∀ (as : List ab_V), (lg_sl (as.map (ab_c G))).length = (ab_en as).length
  | [] => rfl
  | .inl z :: t => by
    have := ab_en_len G t
    simp [lg_sl, ab_en, ab_c, Value.category] at this ⊢
    omega
  | .inr (.inl z) :: t => by
    have := ab_en_len G t
    simp [lg_sl, ab_en, ab_c, Value.category] at this ⊢
    omega
  | .inr (.inr r) :: t => by
    have := ab_en_len G t
    have hc : ¬ (ab_rv G r).category = 2 := by unfold ab_rv; split <;> simp [Value.category]
    simp [lg_sl, ab_en, ab_c, hc] at this ⊢
    omega
theorem ab_lo_pad (G : ab_G) (ls : List (Option ab_V)) (n : Nat) {l' : Array Slot} {nL : Nat} (h : lv_has l' nL (ab_lo G 0 ls)) : lv_has l' nL (ab_lo G 0 (ls ++ List.replicate n none)) := by
  refine ab_has_le h (fun j v hj => ?_)
  by_cases hl : j < ls.length
  · rw [List.getElem?_append_left hl] at hj; exact hj
  · rw [List.getElem?_append_right (by omega)] at hj
    have := List.mem_of_getElem? hj
    have := (List.mem_replicate.mp this).2
    cases this
end
section
def ab_rm (d mc ms : Nat) : Room := { frames := d, cells := mc, slots := ms, locals := 64 * d }
def ab_Cx (G : ab_G) (Y : ab_Y) (p : Program) (s : State) (m : MethodId) (args : Array Value) (meth : Method) (c : Code) : Prop :=
  p.tables.exec = Jvm.exec ∧ c.code = Y.2.1 ∧ meth.sig.returnType = Y.2.2.2 ∧ c.maxLocals = Y.2.2.1 ∧ s.vm.findClass Y.1.cls = some m.cls ∧ (∀ w ∈ lw_all, w.before args s = true) ∧ meth.locks = false ∧ meth.name = Y.1.name ∧ ab_Gl G s
abbrev ab_Zt : Type := List Frame → Array Value → State → State → Prop
/-- from this point of the method Y, with the heap h, the locals ls and the stack st, the machine comes to Z -/
def aW (G : ab_G) (Y : ab_Y) (R : Room) (Z : ab_Zt) (kc ks : Nat) (h : ab_H) (pc : Nat) (ls : List (Option ab_V)) (st : List ab_V) : Prop :=
  ∀ (p : Program) (e : Env) (s : State) (m : MethodId) (args : Array Value) (below : List Frame) (meth : Method) (c : Code), ab_Cx G Y p s m args meth c → ∀ (H : Heap) (locs : List Loc) (lsr : Array Slot), ab_Rep G h H → (∀ q : Nat, q ≤ ab_B G → H[q]? = s.heap[q]?) → (∀ q ∈ locs, ab_B G < q.base) → lv_has lsr Y.2.2.1 (ab_lo G 0 ls) → W p G.1 e R s m args below meth c H locs kc ks (Z below args s) (F0 m pc lsr (st.map (ab_c G)))
def ab_In (z : Int) : Prop := -2147483648 ≤ z ∧ z < 2147483648
def ab_Il (z : Int) : Prop := -9223372036854775808 ≤ z ∧ z < 9223372036854775808
theorem ab_to {z : Int} (h : ab_In z) : (Int32.ofInt z).toInt = z := Int32.toInt_ofInt_of_le h.1 h.2
theorem ab_tol {z : Int} (h : ab_Il z) : (Int64.ofInt z).toInt = z := Int64.toInt_ofInt_of_le h.1 h.2
theorem ab_eqi {x y : Int} (hx : ab_In x) (hy : ab_In y) : Int32.ofInt x = Int32.ofInt y ↔ x = y := by rw [← Int32.toInt_inj, ab_to hx, ab_to hy]
theorem ab_lti {x y : Int} (hx : ab_In x) (hy : ab_In y) : Int32.ofInt x < Int32.ofInt y ↔ x < y := by rw [Int32.lt_iff_toInt_lt, ab_to hx, ab_to hy]
theorem ab_lei {x y : Int} (hx : ab_In x) (hy : ab_In y) : Int32.ofInt x ≤ Int32.ofInt y ↔ x ≤ y := by rw [Int32.le_iff_toInt_le, ab_to hx, ab_to hy]
theorem ab_eql {x y : Int} (hx : ab_Il x) (hy : ab_Il y) : Int64.ofInt x = Int64.ofInt y ↔ x = y := by rw [← Int64.toInt_inj, ab_tol hx, ab_tol hy]
theorem ab_ltl {x y : Int} (hx : ab_Il x) (hy : ab_Il y) : Int64.ofInt x < Int64.ofInt y ↔ x < y := by rw [Int64.lt_iff_toInt_lt, ab_tol hx, ab_tol hy]
theorem ab_in0 : ab_In 0 := by unfold ab_In; omega
def ab_and (x y : Int) : Int := (Int32.ofInt x &&& Int32.ofInt y).toInt
def ab_or (x y : Int) : Int := (Int32.ofInt x ||| Int32.ofInt y).toInt
def ab_xor (x y : Int) : Int := (Int32.ofInt x ^^^ Int32.ofInt y).toInt
def ab_sl (x y : Int) : Int := (Int32.ofInt x <<< (Int32.ofInt y &&& 31)).toInt
def ab_sr (x y : Int) : Int := (Int32.ofInt x >>> (Int32.ofInt y &&& 31)).toInt
def ab_usr (x y : Int) : Int := ((Int32.ofInt x).toUInt32 >>> ((Int32.ofInt y).toUInt32 &&& Int32.toUInt32 31)).toInt32.toInt
def ab_div (x y : Int) : Int := (Int32.ofInt x / Int32.ofInt y).toInt
def ab_rem (x y : Int) : Int := (Int32.ofInt x - Int32.ofInt x / Int32.ofInt y * Int32.ofInt y).toInt
def ab_landL (x y : Int) : Int := (Int64.ofInt x &&& Int64.ofInt y).toInt
def ab_lorL (x y : Int) : Int := (Int64.ofInt x ||| Int64.ofInt y).toInt
def ab_ldivL (x y : Int) : Int := (Int64.ofInt x / Int64.ofInt y).toInt
def ab_lremL (x y : Int) : Int := (Int64.ofInt x - Int64.ofInt x / Int64.ofInt y * Int64.ofInt y).toInt
def ab_lshlL (x y : Int) : Int := (Int64.ofInt x <<< ((Int32.ofInt y).toInt64 &&& 63)).toInt
def ab_lshrL (x y : Int) : Int := (Int64.ofInt x >>> ((Int32.ofInt y).toInt64 &&& 63)).toInt
def ab_i2c (x : Int) : Int := ((Int32.ofInt x).toUInt32 % 65536).toInt32.toInt
def ab_i2l (x : Int) : Int := (Int32.ofInt x).toInt64.toInt
def ab_l2i (x : Int) : Int := (Int64.ofInt x).toInt32.toInt
def ab_lcmp (x y : Int) : Int := (lg_cmp (Int64.ofInt x) (Int64.ofInt y)).toInt
section AR
variable {G : ab_G} {Y : ab_Y} {R : Room} {Z : ab_Zt} {kc ks : Nat} {h : ab_H} {pc : Nat} {ls : List (Option ab_V)} {st : List ab_V}
theorem aw_iadd {x y : Int} (hd : decode Y.2.1 pc = .ok (.iadd, 1)) (k : aW G Y R Z kc ks h (pc + 1) ls (ab_i (x + y) :: st)) : aW G Y R Z kc ks h pc ls (ab_i y :: ab_i x :: st) := by
  intro p e s m args below meth c C H locs lsr hR hO hL hl
  refine lv_iadd C.1 C.2.1 hd ?_
  rw [← Int32.ofInt_add]
  exact k p e s m args below meth c C H locs lsr hR hO hL hl
theorem aw_isub {x y : Int} (hd : decode Y.2.1 pc = .ok (.isub, 1)) (k : aW G Y R Z kc ks h (pc + 1) ls (ab_i (x - y) :: st)) : aW G Y R Z kc ks h pc ls (ab_i y :: ab_i x :: st) := by
  intro p e s m args below meth c C H locs lsr hR hO hL hl
  refine lv_isub C.1 C.2.1 hd ?_
  rw [← Int32.ofInt_sub]
  exact k p e s m args below meth c C H locs lsr hR hO hL hl
theorem aw_imul {x y : Int} (hd : decode Y.2.1 pc = .ok (.imul, 1)) (k : aW G Y R Z kc ks h (pc + 1) ls (ab_i (x * y) :: st)) : aW G Y R Z kc ks h pc ls (ab_i y :: ab_i x :: st) := by
  intro p e s m args below meth c C H locs lsr hR hO hL hl
  refine lv_imul C.1 C.2.1 hd ?_
  rw [← Int32.ofInt_mul]
  exact k p e s m args below meth c C H locs lsr hR hO hL hl
theorem aw_ladd {x y : Int} (hd : decode Y.2.1 pc = .ok (.ladd, 1)) (k : aW G Y R Z kc ks h (pc + 1) ls (ab_l (x + y) :: st)) : aW G Y R Z kc ks h pc ls (ab_l y :: ab_l x :: st) := by
  intro p e s m args below meth c C H locs lsr hR hO hL hl
  refine lv_ladd C.1 C.2.1 hd ?_
  rw [← Int64.ofInt_add]
  exact k p e s m args below meth c C H locs lsr hR hO hL hl
theorem aw_lsub {x y : Int} (hd : decode Y.2.1 pc = .ok (.lsub, 1)) (k : aW G Y R Z kc ks h (pc + 1) ls (ab_l (x - y) :: st)) : aW G Y R Z kc ks h pc ls (ab_l y :: ab_l x :: st) := by
  intro p e s m args below meth c C H locs lsr hR hO hL hl
  refine lv_lsub C.1 C.2.1 hd ?_
  rw [← Int64.ofInt_sub]
  exact k p e s m args below meth c C H locs lsr hR hO hL hl
theorem aw_lmul {x y : Int} (hd : decode Y.2.1 pc = .ok (.lmul, 1)) (k : aW G Y R Z kc ks h (pc + 1) ls (ab_l (x * y) :: st)) : aW G Y R Z kc ks h pc ls (ab_l y :: ab_l x :: st) := by
  intro p e s m args below meth c C H locs lsr hR hO hL hl
  refine lv_lmul C.1 C.2.1 hd ?_
  rw [← Int64.ofInt_mul]
  exact k p e s m args below meth c C H locs lsr hR hO hL hl
theorem aw_iand {x y : Int} (hd : decode Y.2.1 pc = .ok (.iand, 1)) (k : aW G Y R Z kc ks h (pc + 1) ls (ab_i (ab_and x y) :: st)) : aW G Y R Z kc ks h pc ls (ab_i y :: ab_i x :: st) := by
  intro p e s m args below meth c C H locs lsr hR hO hL hl
  refine lv_iand C.1 C.2.1 hd ?_
  have k9 := k p e s m args below meth c C H locs lsr hR hO hL hl
  simp only [List.map_cons, ab_c, ab_and, Int32.ofInt_toInt, Int64.ofInt_toInt] at k9
  exact k9
theorem aw_ior {x y : Int} (hd : decode Y.2.1 pc = .ok (.ior, 1)) (k : aW G Y R Z kc ks h (pc + 1) ls (ab_i (ab_or x y) :: st)) : aW G Y R Z kc ks h pc ls (ab_i y :: ab_i x :: st) := by
  intro p e s m args below meth c C H locs lsr hR hO hL hl
  refine lv_ior C.1 C.2.1 hd ?_
  have k9 := k p e s m args below meth c C H locs lsr hR hO hL hl
  simp only [List.map_cons, ab_c, ab_or, Int32.ofInt_toInt, Int64.ofInt_toInt] at k9
  exact k9
theorem aw_ixor {x y : Int} (hd : decode Y.2.1 pc = .ok (.ixor, 1)) (k : aW G Y R Z kc ks h (pc + 1) ls (ab_i (ab_xor x y) :: st)) : aW G Y R Z kc ks h pc ls (ab_i y :: ab_i x :: st) := by
  intro p e s m args below meth c C H locs lsr hR hO hL hl
  refine lv_ixor C.1 C.2.1 hd ?_
  have k9 := k p e s m args below meth c C H locs lsr hR hO hL hl
  simp only [List.map_cons, ab_c, ab_xor, Int32.ofInt_toInt, Int64.ofInt_toInt] at k9
  exact k9
theorem aw_ishl {x y : Int} (hd : decode Y.2.1 pc = .ok (.ishl, 1)) (k : aW G Y R Z kc ks h (pc + 1) ls (ab_i (ab_sl x y) :: st)) : aW G Y R Z kc ks h pc ls (ab_i y :: ab_i x :: st) := by
  intro p e s m args below meth c C H locs lsr hR hO hL hl
  refine lv_ishl C.1 C.2.1 hd ?_
  have k9 := k p e s m args below meth c C H locs lsr hR hO hL hl
  simp only [List.map_cons, ab_c, ab_sl, Int32.ofInt_toInt, Int64.ofInt_toInt] at k9
  exact k9
theorem aw_ishr {x y : Int} (hd : decode Y.2.1 pc = .ok (.ishr, 1)) (k : aW G Y R Z kc ks h (pc + 1) ls (ab_i (ab_sr x y) :: st)) : aW G Y R Z kc ks h pc ls (ab_i y :: ab_i x :: st) := by
  intro p e s m args below meth c C H locs lsr hR hO hL hl
  refine lv_ishr C.1 C.2.1 hd ?_
  have k9 := k p e s m args below meth c C H locs lsr hR hO hL hl
  simp only [List.map_cons, ab_c, ab_sr, Int32.ofInt_toInt, Int64.ofInt_toInt] at k9
  exact k9
theorem aw_iushr {x y : Int} (hd : decode Y.2.1 pc = .ok (.iushr, 1)) (k : aW G Y R Z kc ks h (pc + 1) ls (ab_i (ab_usr x y) :: st)) : aW G Y R Z kc ks h pc ls (ab_i y :: ab_i x :: st) := by
  intro p e s m args below meth c C H locs lsr hR hO hL hl
  refine lv_iushr C.1 C.2.1 hd rfl ?_
  have k9 := k p e s m args below meth c C H locs lsr hR hO hL hl
  simp only [List.map_cons, ab_c, ab_usr, Int32.ofInt_toInt, Int64.ofInt_toInt] at k9
  exact k9
theorem aw_land {x y : Int} (hd : decode Y.2.1 pc = .ok (.land, 1)) (k : aW G Y R Z kc ks h (pc + 1) ls (ab_l (ab_landL x y) :: st)) : aW G Y R Z kc ks h pc ls (ab_l y :: ab_l x :: st) := by
  intro p e s m args below meth c C H locs lsr hR hO hL hl
  refine lv_land C.1 C.2.1 hd ?_
  have k9 := k p e s m args below meth c C H locs lsr hR hO hL hl
  simp only [List.map_cons, ab_c, ab_landL, Int32.ofInt_toInt, Int64.ofInt_toInt] at k9
  exact k9
theorem aw_lor {x y : Int} (hd : decode Y.2.1 pc = .ok (.lor, 1)) (k : aW G Y R Z kc ks h (pc + 1) ls (ab_l (ab_lorL x y) :: st)) : aW G Y R Z kc ks h pc ls (ab_l y :: ab_l x :: st) := by
  intro p e s m args below meth c C H locs lsr hR hO hL hl
  refine lv_lor C.1 C.2.1 hd ?_
  have k9 := k p e s m args below meth c C H locs lsr hR hO hL hl
  simp only [List.map_cons, ab_c, ab_lorL, Int32.ofInt_toInt, Int64.ofInt_toInt] at k9
  exact k9
theorem aw_idiv {x y : Int} (hd : decode Y.2.1 pc = .ok (.idiv, 1)) (hy : ab_In y) (h0 : ¬ y = 0) (k : aW G Y R Z kc ks h (pc + 1) ls (ab_i (ab_div x y) :: st)) : aW G Y R Z kc ks h pc ls (ab_i y :: ab_i x :: st) := by
  intro p e s m args below meth c C H locs lsr hR hO hL hl
  refine lv_idiv C.1 C.2.1 hd (fun e9 => h0 ((ab_eqi hy ab_in0).mp e9)) ?_
  have k9 := k p e s m args below meth c C H locs lsr hR hO hL hl
  simp only [List.map_cons, ab_c, ab_div, Int32.ofInt_toInt, Int64.ofInt_toInt] at k9
  exact k9
theorem aw_irem {x y : Int} (hd : decode Y.2.1 pc = .ok (.irem, 1)) (hy : ab_In y) (h0 : ¬ y = 0) (k : aW G Y R Z kc ks h (pc + 1) ls (ab_i (ab_rem x y) :: st)) : aW G Y R Z kc ks h pc ls (ab_i y :: ab_i x :: st) := by
  intro p e s m args below meth c C H locs lsr hR hO hL hl
  refine lv_irem C.1 C.2.1 hd (fun e9 => h0 ((ab_eqi hy ab_in0).mp e9)) ?_
  have k9 := k p e s m args below meth c C H locs lsr hR hO hL hl
  simp only [List.map_cons, ab_c, ab_rem, Int32.ofInt_toInt, Int64.ofInt_toInt] at k9
  exact k9
theorem aw_ldiv {x y : Int} (hd : decode Y.2.1 pc = .ok (.ldiv, 1)) (hy : ab_Il y) (h0 : ¬ y = 0) (k : aW G Y R Z kc ks h (pc + 1) ls (ab_l (ab_ldivL x y) :: st)) : aW G Y R Z kc ks h pc ls (ab_l y :: ab_l x :: st) := by
  intro p e s m args below meth c C H locs lsr hR hO hL hl
  refine lv_ldiv C.1 C.2.1 hd (fun e9 => h0 ((ab_eql hy (by unfold ab_Il; omega)).mp e9)) ?_
  have k9 := k p e s m args below meth c C H locs lsr hR hO hL hl
  simp only [List.map_cons, ab_c, ab_ldivL, Int32.ofInt_toInt, Int64.ofInt_toInt] at k9
  exact k9
theorem aw_lrem {x y : Int} (hd : decode Y.2.1 pc = .ok (.lrem, 1)) (hy : ab_Il y) (h0 : ¬ y = 0) (k : aW G Y R Z kc ks h (pc + 1) ls (ab_l (ab_lremL x y) :: st)) : aW G Y R Z kc ks h pc ls (ab_l y :: ab_l x :: st) := by
  intro p e s m args below meth c C H locs lsr hR hO hL hl
  refine lv_lrem C.1 C.2.1 hd (fun e9 => h0 ((ab_eql hy (by unfold ab_Il; omega)).mp e9)) ?_
  have k9 := k p e s m args below meth c C H locs lsr hR hO hL hl
  simp only [List.map_cons, ab_c, ab_lremL, Int32.ofInt_toInt, Int64.ofInt_toInt] at k9
  exact k9
theorem aw_lshl {x y : Int} (hd : decode Y.2.1 pc = .ok (.lshl, 1)) (k : aW G Y R Z kc ks h (pc + 1) ls (ab_l (ab_lshlL x y) :: st)) : aW G Y R Z kc ks h pc ls (ab_i y :: ab_l x :: st) := by
  intro p e s m args below meth c C H locs lsr hR hO hL hl
  refine lv_lshl C.1 C.2.1 hd rfl ?_
  have k9 := k p e s m args below meth c C H locs lsr hR hO hL hl
  simp only [List.map_cons, ab_c, ab_lshlL, Int32.ofInt_toInt, Int64.ofInt_toInt] at k9
  exact k9
theorem aw_lshr {x y : Int} (hd : decode Y.2.1 pc = .ok (.lshr, 1)) (k : aW G Y R Z kc ks h (pc + 1) ls (ab_l (ab_lshrL x y) :: st)) : aW G Y R Z kc ks h pc ls (ab_i y :: ab_l x :: st) := by
  intro p e s m args below meth c C H locs lsr hR hO hL hl
  refine lv_lshr C.1 C.2.1 hd rfl ?_
  have k9 := k p e s m args below meth c C H locs lsr hR hO hL hl
  simp only [List.map_cons, ab_c, ab_lshrL, Int32.ofInt_toInt, Int64.ofInt_toInt] at k9
  exact k9
theorem aw_i2l {x : Int} (hd : decode Y.2.1 pc = .ok (.i2l, 1)) (k : aW G Y R Z kc ks h (pc + 1) ls (ab_l (ab_i2l x) :: st)) : aW G Y R Z kc ks h pc ls (ab_i x :: st) := by
  intro p e s m args below meth c C H locs lsr hR hO hL hl
  refine lv_i2l C.1 C.2.1 hd rfl ?_
  have k9 := k p e s m args below meth c C H locs lsr hR hO hL hl
  simp only [List.map_cons, ab_c, ab_i2l, Int32.ofInt_toInt, Int64.ofInt_toInt] at k9
  exact k9
theorem aw_l2i {x : Int} (hd : decode Y.2.1 pc = .ok (.l2i, 1)) (k : aW G Y R Z kc ks h (pc + 1) ls (ab_i (ab_l2i x) :: st)) : aW G Y R Z kc ks h pc ls (ab_l x :: st) := by
  intro p e s m args below meth c C H locs lsr hR hO hL hl
  refine lv_l2i C.1 C.2.1 hd rfl ?_
  have k9 := k p e s m args below meth c C H locs lsr hR hO hL hl
  simp only [List.map_cons, ab_c, ab_l2i, Int32.ofInt_toInt, Int64.ofInt_toInt] at k9
  exact k9
theorem aw_i2c {x : Int} (hd : decode Y.2.1 pc = .ok (.i2c, 1)) (k : aW G Y R Z kc ks h (pc + 1) ls (ab_i (ab_i2c x) :: st)) : aW G Y R Z kc ks h pc ls (ab_i x :: st) := by
  intro p e s m args below meth c C H locs lsr hR hO hL hl
  refine lv_i2c C.1 C.2.1 hd rfl ?_
  have k9 := k p e s m args below meth c C H locs lsr hR hO hL hl
  simp only [List.map_cons, ab_c, ab_i2c, Int32.ofInt_toInt, Int64.ofInt_toInt] at k9
  exact k9
theorem aw_lcmp {x y : Int} (hd : decode Y.2.1 pc = .ok (.lcmp, 1)) (k : aW G Y R Z kc ks h (pc + 1) ls (ab_i (ab_lcmp x y) :: st)) : aW G Y R Z kc ks h pc ls (ab_l y :: ab_l x :: st) := by
  intro p e s m args below meth c C H locs lsr hR hO hL hl
  refine W.lcmp C.1 C.2.1 hd ?_
  have k9 := k p e s m args below meth c C H locs lsr hR hO hL hl
  simp only [List.map_cons, ab_c, ab_lcmp, Int32.ofInt_toInt, Int64.ofInt_toInt] at k9
  exact k9
theorem aw_iconst {n : Int} (hd : decode Y.2.1 pc = .ok (.iconst n, 1)) (k : aW G Y R Z kc ks h (pc + 1) ls (ab_i n :: st)) : aW G Y R Z kc ks h pc ls st := by
  intro p e s m args below meth c C H locs lsr hR hO hL hl
  exact lv_iconst C.1 C.2.1 hd rfl (k p e s m args below meth c C H locs lsr hR hO hL hl)
theorem aw_bipush {n : Int} (hd : decode Y.2.1 pc = .ok (.bipush n, 2)) (hn : (Int8.ofInt n).toInt32 = Int32.ofInt n) (k : aW G Y R Z kc ks h (pc + 2) ls (ab_i n :: st)) : aW G Y R Z kc ks h pc ls st := by
  intro p e s m args below meth c C H locs lsr hR hO hL hl
  exact lv_bipush C.1 C.2.1 hd hn (k p e s m args below meth c C H locs lsr hR hO hL hl)
theorem aw_sipush {n : Int} (hd : decode Y.2.1 pc = .ok (.sipush n, 3)) (hn : (Int16.ofInt n).toInt32 = Int32.ofInt n) (k : aW G Y R Z kc ks h (pc + 3) ls (ab_i n :: st)) : aW G Y R Z kc ks h pc ls st := by
  intro p e s m args below meth c C H locs lsr hR hO hL hl
  exact lv_sipush C.1 C.2.1 hd hn (k p e s m args below meth c C H locs lsr hR hO hL hl)
theorem aw_lconst {n : Fin 2} {z : Int} (hd : decode Y.2.1 pc = .ok (.lconst n, 1)) (hn : Int64.ofNat (n : Nat) = Int64.ofInt z) (k : aW G Y R Z kc ks h (pc + 1) ls (ab_l z :: st)) : aW G Y R Z kc ks h pc ls st := by
  intro p e s m args below meth c C H locs lsr hR hO hL hl
  exact lv_lconst C.1 C.2.1 hd hn (k p e s m args below meth c C H locs lsr hR hO hL hl)
theorem aw_ldc {idx : Nat} {z : Int} (hd : decode Y.2.1 pc = .ok (.ldc idx, 2)) (hw : Cond.constant Y.1.cls idx (Int32.ofInt z) ∈ lw_all) (k : aW G Y R Z kc ks h (pc + 2) ls (ab_i z :: st)) : aW G Y R Z kc ks h pc ls st := by
  intro p e s m args below meth c C H locs lsr hR hO hL hl
  exact lv_ldc C.1 C.2.1 C.2.2.2.2.1 (C.2.2.2.2.2.1 _ hw) hd (k p e s m args below meth c C H locs lsr hR hO hL hl)
theorem aw_ldcw {idx : Nat} {z : Int} (hd : decode Y.2.1 pc = .ok (.ldc_w idx, 3)) (hw : Cond.constant Y.1.cls idx (Int32.ofInt z) ∈ lw_all) (k : aW G Y R Z kc ks h (pc + 3) ls (ab_i z :: st)) : aW G Y R Z kc ks h pc ls st := by
  intro p e s m args below meth c C H locs lsr hR hO hL hl
  exact lv_ldcw C.1 C.2.1 C.2.2.2.2.1 (C.2.2.2.2.2.1 _ hw) hd (k p e s m args below meth c C H locs lsr hR hO hL hl)
theorem aw_ldc2 {idx : Nat} {z : Int} (hd : decode Y.2.1 pc = .ok (.ldc2_w idx, 3)) (hw : Cond.constantLong Y.1.cls idx (Int64.ofInt z) ∈ lw_all) (k : aW G Y R Z kc ks h (pc + 3) ls (ab_l z :: st)) : aW G Y R Z kc ks h pc ls st := by
  intro p e s m args below meth c C H locs lsr hR hO hL hl
  exact lv_ldc2 C.1 C.2.1 C.2.2.2.2.1 (C.2.2.2.2.2.1 _ hw) hd (k p e s m args below meth c C H locs lsr hR hO hL hl)
theorem aw_ldcS {i : Nat} (hY : Y.1.cls = "ThreeOffers$Text") (hi : i < 15) (hd : decode Y.2.1 pc = .ok (.ldc (ab_six i), 2)) (k : aW G Y R Z kc ks h (pc + 2) ls (ab_r (1100 + i) :: st)) : aW G Y R Z kc ks h pc ls st := by
  intro p e s m args below meth c C H locs lsr hR hO hL hl
  have k9 := k p e s m args below meth c C H locs lsr hR hO hL hl
  have e9 : ab_c G (ab_r (1100 + i)) = .ref (ab_ax G (1100 + i)) := by
    show ab_rv G (1100 + i) = _
    unfold ab_rv ab_ad
    rw [if_neg (by omega), if_neg (by omega)]
  rw [List.map_cons, e9] at k9
  exact va_ldcS C.1 C.2.1 (hY ▸ C.2.2.2.2.1) (C.2.2.2.2.2.2.2.2.2.2.1 i hi) hd k9
theorem aw_dup {v : ab_V} (hd : decode Y.2.1 pc = .ok (.dup, 1)) (hv : ab_isl (some v) = false) (k : aW G Y R Z kc ks h (pc + 1) ls (v :: v :: st)) : aW G Y R Z kc ks h pc ls (v :: st) := by
  intro p e s m args below meth c C H locs lsr hR hO hL hl
  exact lv_dup C.1 C.2.1 hd (by rw [ab_cat, hv]; rfl) (k p e s m args below meth c C H locs lsr hR hO hL hl)
theorem aw_dup2 {v w : ab_V} (hd : decode Y.2.1 pc = .ok (.dup2, 1)) (hv : ab_isl (some v) = false) (hw : ab_isl (some w) = false) (k : aW G Y R Z kc ks h (pc + 1) ls (v :: w :: v :: w :: st)) : aW G Y R Z kc ks h pc ls (v :: w :: st) := by
  intro p e s m args below meth c C H locs lsr hR hO hL hl
  exact lv_dup2_11 C.1 C.2.1 hd (by rw [ab_cat, hv]; rfl) (by rw [ab_cat, hw]; rfl) (k p e s m args below meth c C H locs lsr hR hO hL hl)
theorem aw_pop {v : ab_V} (hd : decode Y.2.1 pc = .ok (.pop, 1)) (hv : ab_isl (some v) = false) (k : aW G Y R Z kc ks h (pc + 1) ls st) : aW G Y R Z kc ks h pc ls (v :: st) := by
  intro p e s m args below meth c C H locs lsr hR hO hL hl
  exact lv_pop C.1 C.2.1 hd (by rw [ab_cat, hv]; rfl) (k p e s m args below meth c C H locs lsr hR hO hL hl)
theorem aw_iload_n {n : Fin 4} {z : Int} (hd : decode Y.2.1 pc = .ok (.iload_n n, 1)) (hi : ls[(n : Nat)]? = some (some (ab_i z))) (k : aW G Y R Z kc ks h (pc + 1) ls (ab_i z :: st)) : aW G Y R Z kc ks h pc ls st := by
  intro p e s m args below meth c C H locs lsr hR hO hL hl
  exact lv_iload_n C.1 C.2.1 hd rfl (ab_has_ld hl hi) (k p e s m args below meth c C H locs lsr hR hO hL hl)
theorem aw_iload {i : Nat} {z : Int} (hd : decode Y.2.1 pc = .ok (.iload i, 2)) (hi : ls[i]? = some (some (ab_i z))) (k : aW G Y R Z kc ks h (pc + 2) ls (ab_i z :: st)) : aW G Y R Z kc ks h pc ls st := by
  intro p e s m args below meth c C H locs lsr hR hO hL hl
  exact lv_iload C.1 C.2.1 hd (ab_has_ld hl hi) (k p e s m args below meth c C H locs lsr hR hO hL hl)
theorem aw_lload_n {n : Fin 4} {z : Int} (hd : decode Y.2.1 pc = .ok (.lload_n n, 1)) (hi : ls[(n : Nat)]? = some (some (ab_l z))) (k : aW G Y R Z kc ks h (pc + 1) ls (ab_l z :: st)) : aW G Y R Z kc ks h pc ls st := by
  intro p e s m args below meth c C H locs lsr hR hO hL hl
  exact lv_lload_n C.1 C.2.1 hd rfl (ab_has_ld hl hi) (k p e s m args below meth c C H locs lsr hR hO hL hl)
theorem aw_lload {i : Nat} {z : Int} (hd : decode Y.2.1 pc = .ok (.lload i, 2)) (hi : ls[i]? = some (some (ab_l z))) (k : aW G Y R Z kc ks h (pc + 2) ls (ab_l z :: st)) : aW G Y R Z kc ks h pc ls st := by
  intro p e s m args below meth c C H locs lsr hR hO hL hl
  exact lv_lload C.1 C.2.1 hd (ab_has_ld hl hi) (k p e s m args below meth c C H locs lsr hR hO hL hl)
theorem aw_rv {r : Nat} (h0 : ¬ r = 0) : ab_c G (ab_r r) = .ref (ab_ad G r) := by
  show ab_rv G r = _
  unfold ab_rv
  rw [if_neg h0]
theorem aw_aload_n {n : Fin 4} {r : Nat} (hd : decode Y.2.1 pc = .ok (.aload_n n, 1)) (hi : ls[(n : Nat)]? = some (some (ab_r r))) (h0 : ¬ r = 0) (k : aW G Y R Z kc ks h (pc + 1) ls (ab_r r :: st)) : aW G Y R Z kc ks h pc ls st := by
  intro p e s m args below meth c C H locs lsr hR hO hL hl
  have k9 := k p e s m args below meth c C H locs lsr hR hO hL hl
  have k8 := ab_has_ld hl hi
  rw [List.map_cons, aw_rv h0] at k9
  rw [aw_rv h0] at k8
  exact lv_aload_n C.1 C.2.1 hd rfl k8 k9
theorem aw_aload {i : Nat} {r : Nat} (hd : decode Y.2.1 pc = .ok (.aload i, 2)) (hi : ls[i]? = some (some (ab_r r))) (h0 : ¬ r = 0) (k : aW G Y R Z kc ks h (pc + 2) ls (ab_r r :: st)) : aW G Y R Z kc ks h pc ls st := by
  intro p e s m args below meth c C H locs lsr hR hO hL hl
  have k9 := k p e s m args below meth c C H locs lsr hR hO hL hl
  have k8 := ab_has_ld hl hi
  rw [List.map_cons, aw_rv h0] at k9
  rw [aw_rv h0] at k8
  exact lv_aload C.1 C.2.1 hd k8 k9
theorem aw_istore_n {n : Fin 4} {z : Int} {ls' : List (Option ab_V)} (hd : decode Y.2.1 pc = .ok (.istore_n n, 1)) (hi : (n : Nat) < Y.2.2.1) (hl' : ab_st1 ls n (ab_i z) = ls') (k : aW G Y R Z kc ks h (pc + 1) ls' st) : aW G Y R Z kc ks h pc ls (ab_i z :: st) := by
  intro p e s m args below meth c C H locs lsr hR hO hL hl
  subst hl'
  exact lv_istore_n C.1 C.2.1 hd rfl hl hi rfl (fun lsr hl => k p e s m args below meth c C H locs lsr hR hO hL (ab_has1 hl))
theorem aw_istore {i : Nat} {z : Int} {ls' : List (Option ab_V)} (hd : decode Y.2.1 pc = .ok (.istore i, 2)) (hi : i < Y.2.2.1) (hl' : ab_st1 ls i (ab_i z) = ls') (k : aW G Y R Z kc ks h (pc + 2) ls' st) : aW G Y R Z kc ks h pc ls (ab_i z :: st) := by
  intro p e s m args below meth c C H locs lsr hR hO hL hl
  subst hl'
  exact lv_istore C.1 C.2.1 hd hl hi rfl (fun lsr hl => k p e s m args below meth c C H locs lsr hR hO hL (ab_has1 hl))
theorem aw_lstore_n {n : Fin 4} {z : Int} {ls' : List (Option ab_V)} (hd : decode Y.2.1 pc = .ok (.lstore_n n, 1)) (hi : (n : Nat) + 1 < Y.2.2.1) (hl' : ab_st2 ls n (ab_l z) = ls') (k : aW G Y R Z kc ks h (pc + 1) ls' st) : aW G Y R Z kc ks h pc ls (ab_l z :: st) := by
  intro p e s m args below meth c C H locs lsr hR hO hL hl
  subst hl'
  exact lv_lstore_n C.1 C.2.1 hd rfl hl hi rfl (fun lsr hl => k p e s m args below meth c C H locs lsr hR hO hL (ab_has2 hl))
theorem aw_lstore {i : Nat} {z : Int} {ls' : List (Option ab_V)} (hd : decode Y.2.1 pc = .ok (.lstore i, 2)) (hi : i + 1 < Y.2.2.1) (hl' : ab_st2 ls i (ab_l z) = ls') (k : aW G Y R Z kc ks h (pc + 2) ls' st) : aW G Y R Z kc ks h pc ls (ab_l z :: st) := by
  intro p e s m args below meth c C H locs lsr hR hO hL hl
  subst hl'
  exact lv_lstore C.1 C.2.1 hd hl hi rfl (fun lsr hl => k p e s m args below meth c C H locs lsr hR hO hL (ab_has2 hl))
theorem aw_astore_n {n : Fin 4} {r : Nat} {ls' : List (Option ab_V)} (hd : decode Y.2.1 pc = .ok (.astore_n n, 1)) (hi : (n : Nat) < Y.2.2.1) (h0 : ¬ r = 0) (hl' : ab_st1 ls (n : Nat) (ab_r r) = ls') (k : aW G Y R Z kc ks h (pc + 1) ls' st) : aW G Y R Z kc ks h pc ls (ab_r r :: st) := by
  intro p e s m args below meth c C H locs lsr hR hO hL hl
  subst hl'
  rw [List.map_cons, aw_rv h0]
  refine lv_astore_n C.1 C.2.1 hd rfl hl hi rfl (fun lsr hl => k p e s m args below meth c C H locs lsr hR hO hL (ab_has1 ?_))
  rw [aw_rv h0]
  exact hl
theorem aw_astore {i : Nat} {r : Nat} {ls' : List (Option ab_V)} (hd : decode Y.2.1 pc = .ok (.astore i, 2)) (hi : i < Y.2.2.1) (h0 : ¬ r = 0) (hl' : ab_st1 ls i (ab_r r) = ls') (k : aW G Y R Z kc ks h (pc + 2) ls' st) : aW G Y R Z kc ks h pc ls (ab_r r :: st) := by
  intro p e s m args below meth c C H locs lsr hR hO hL hl
  subst hl'
  rw [List.map_cons, aw_rv h0]
  refine lv_astore C.1 C.2.1 hd hl hi rfl (fun lsr hl => k p e s m args below meth c C H locs lsr hR hO hL (ab_has1 ?_))
  rw [aw_rv h0]
  exact hl
theorem aw_iinc {i : Nat} {n z : Int} {ls' : List (Option ab_V)} (hd : decode Y.2.1 pc = .ok (.iinc i n, 3)) (hi : i < Y.2.2.1) (hz : ls[i]? = some (some (ab_i z))) (hl' : ab_st1 ls i (ab_i (z + n)) = ls') (k : aW G Y R Z kc ks h (pc + 3) ls' st) : aW G Y R Z kc ks h pc ls st := by
  intro p e s m args below meth c C H locs lsr hR hO hL hl
  subst hl'
  obtain ⟨k9, hk9⟩ := List.getElem?_of_mem (ab_lo_at (G := G) (k := 0) hz)
  rw [Nat.zero_add] at hk9
  exact lv_iinc C.1 C.2.1 hd hl hk9 (v := Int32.ofInt (z + n)) (Int32.ofInt_add z n).symm hi rfl (fun lsr hl => k p e s m args below meth c C H locs lsr hR hO hL (ab_has1 hl))
theorem aw_if_eq {x off : Int} {tgt : Nat} (hd : decode Y.2.1 pc = .ok (.ifCond .eq off, 3)) (ht : (pc : Int) + off = (tgt : Int)) (hx : ab_In x) (kt : x = 0 → aW G Y R Z kc ks h tgt ls st) (kf : ¬ x = 0 → aW G Y R Z kc ks h (pc + 3) ls st) : aW G Y R Z kc ks h pc ls (ab_i x :: st) := by
  intro p e s m args below meth c C H locs lsr hR hO hL hl
  exact lv_if_eq C.1 C.2.1 hd ht (fun c9 => kt ((ab_eqi hx ab_in0).mp c9) p e s m args below meth c C H locs lsr hR hO hL hl) (fun c9 => kf (fun e9 => c9 ((ab_eqi hx ab_in0).mpr e9)) p e s m args below meth c C H locs lsr hR hO hL hl)
theorem aw_if_ne {x off : Int} {tgt : Nat} (hd : decode Y.2.1 pc = .ok (.ifCond .ne off, 3)) (ht : (pc : Int) + off = (tgt : Int)) (hx : ab_In x) (kt : ¬ x = 0 → aW G Y R Z kc ks h tgt ls st) (kf : x = 0 → aW G Y R Z kc ks h (pc + 3) ls st) : aW G Y R Z kc ks h pc ls (ab_i x :: st) := by
  intro p e s m args below meth c C H locs lsr hR hO hL hl
  exact lv_if_ne C.1 C.2.1 hd ht (fun c9 => kt (fun e9 => c9 ((ab_eqi hx ab_in0).mpr e9)) p e s m args below meth c C H locs lsr hR hO hL hl) (fun c9 => kf ((ab_eqi hx ab_in0).mp c9) p e s m args below meth c C H locs lsr hR hO hL hl)
theorem aw_if_lt {x off : Int} {tgt : Nat} (hd : decode Y.2.1 pc = .ok (.ifCond .lt off, 3)) (ht : (pc : Int) + off = (tgt : Int)) (hx : ab_In x) (kt : x < 0 → aW G Y R Z kc ks h tgt ls st) (kf : ¬ x < 0 → aW G Y R Z kc ks h (pc + 3) ls st) : aW G Y R Z kc ks h pc ls (ab_i x :: st) := by
  intro p e s m args below meth c C H locs lsr hR hO hL hl
  exact lv_if_lt C.1 C.2.1 hd ht (fun c9 => kt ((ab_lti hx ab_in0).mp c9) p e s m args below meth c C H locs lsr hR hO hL hl) (fun c9 => kf (fun e9 => c9 ((ab_lti hx ab_in0).mpr e9)) p e s m args below meth c C H locs lsr hR hO hL hl)
theorem aw_if_ge {x off : Int} {tgt : Nat} (hd : decode Y.2.1 pc = .ok (.ifCond .ge off, 3)) (ht : (pc : Int) + off = (tgt : Int)) (hx : ab_In x) (kt : 0 ≤ x → aW G Y R Z kc ks h tgt ls st) (kf : ¬ 0 ≤ x → aW G Y R Z kc ks h (pc + 3) ls st) : aW G Y R Z kc ks h pc ls (ab_i x :: st) := by
  intro p e s m args below meth c C H locs lsr hR hO hL hl
  exact lv_if_ge C.1 C.2.1 hd ht (fun c9 => kt ((ab_lei ab_in0 hx).mp c9) p e s m args below meth c C H locs lsr hR hO hL hl) (fun c9 => kf (fun e9 => c9 ((ab_lei ab_in0 hx).mpr e9)) p e s m args below meth c C H locs lsr hR hO hL hl)
theorem aw_if_gt {x off : Int} {tgt : Nat} (hd : decode Y.2.1 pc = .ok (.ifCond .gt off, 3)) (ht : (pc : Int) + off = (tgt : Int)) (hx : ab_In x) (kt : 0 < x → aW G Y R Z kc ks h tgt ls st) (kf : ¬ 0 < x → aW G Y R Z kc ks h (pc + 3) ls st) : aW G Y R Z kc ks h pc ls (ab_i x :: st) := by
  intro p e s m args below meth c C H locs lsr hR hO hL hl
  exact lv_if_gt C.1 C.2.1 hd ht (fun c9 => kt ((ab_lti ab_in0 hx).mp c9) p e s m args below meth c C H locs lsr hR hO hL hl) (fun c9 => kf (fun e9 => c9 ((ab_lti ab_in0 hx).mpr e9)) p e s m args below meth c C H locs lsr hR hO hL hl)
theorem aw_if_le {x off : Int} {tgt : Nat} (hd : decode Y.2.1 pc = .ok (.ifCond .le off, 3)) (ht : (pc : Int) + off = (tgt : Int)) (hx : ab_In x) (kt : x ≤ 0 → aW G Y R Z kc ks h tgt ls st) (kf : ¬ x ≤ 0 → aW G Y R Z kc ks h (pc + 3) ls st) : aW G Y R Z kc ks h pc ls (ab_i x :: st) := by
  intro p e s m args below meth c C H locs lsr hR hO hL hl
  exact lv_if_le C.1 C.2.1 hd ht (fun c9 => kt ((ab_lei hx ab_in0).mp c9) p e s m args below meth c C H locs lsr hR hO hL hl) (fun c9 => kf (fun e9 => c9 ((ab_lei hx ab_in0).mpr e9)) p e s m args below meth c C H locs lsr hR hO hL hl)
theorem aw_icmp_eq {x y off : Int} {tgt : Nat} (hd : decode Y.2.1 pc = .ok (.if_icmp .eq off, 3)) (ht : (pc : Int) + off = (tgt : Int)) (hx : ab_In x) (hy : ab_In y) (kt : x = y → aW G Y R Z kc ks h tgt ls st) (kf : ¬ x = y → aW G Y R Z kc ks h (pc + 3) ls st) : aW G Y R Z kc ks h pc ls (ab_i y :: ab_i x :: st) := by
  intro p e s m args below meth c C H locs lsr hR hO hL hl
  exact lv_icmp_eq C.1 C.2.1 hd ht (fun c9 => kt ((ab_eqi hx hy).mp c9) p e s m args below meth c C H locs lsr hR hO hL hl) (fun c9 => kf (fun e9 => c9 ((ab_eqi hx hy).mpr e9)) p e s m args below meth c C H locs lsr hR hO hL hl)
theorem aw_icmp_ne {x y off : Int} {tgt : Nat} (hd : decode Y.2.1 pc = .ok (.if_icmp .ne off, 3)) (ht : (pc : Int) + off = (tgt : Int)) (hx : ab_In x) (hy : ab_In y) (kt : ¬ x = y → aW G Y R Z kc ks h tgt ls st) (kf : x = y → aW G Y R Z kc ks h (pc + 3) ls st) : aW G Y R Z kc ks h pc ls (ab_i y :: ab_i x :: st) := by
  intro p e s m args below meth c C H locs lsr hR hO hL hl
  exact lv_icmp_ne C.1 C.2.1 hd ht (fun c9 => kt (fun e9 => c9 ((ab_eqi hx hy).mpr e9)) p e s m args below meth c C H locs lsr hR hO hL hl) (fun c9 => kf ((ab_eqi hx hy).mp c9) p e s m args below meth c C H locs lsr hR hO hL hl)
theorem aw_icmp_lt {x y off : Int} {tgt : Nat} (hd : decode Y.2.1 pc = .ok (.if_icmp .lt off, 3)) (ht : (pc : Int) + off = (tgt : Int)) (hx : ab_In x) (hy : ab_In y) (kt : x < y → aW G Y R Z kc ks h tgt ls st) (kf : ¬ x < y → aW G Y R Z kc ks h (pc + 3) ls st) : aW G Y R Z kc ks h pc ls (ab_i y :: ab_i x :: st) := by
  intro p e s m args below meth c C H locs lsr hR hO hL hl
  exact lv_icmp_lt C.1 C.2.1 hd ht (fun c9 => kt ((ab_lti hx hy).mp c9) p e s m args below meth c C H locs lsr hR hO hL hl) (fun c9 => kf (fun e9 => c9 ((ab_lti hx hy).mpr e9)) p e s m args below meth c C H locs lsr hR hO hL hl)
theorem aw_icmp_ge {x y off : Int} {tgt : Nat} (hd : decode Y.2.1 pc = .ok (.if_icmp .ge off, 3)) (ht : (pc : Int) + off = (tgt : Int)) (hx : ab_In x) (hy : ab_In y) (kt : y ≤ x → aW G Y R Z kc ks h tgt ls st) (kf : ¬ y ≤ x → aW G Y R Z kc ks h (pc + 3) ls st) : aW G Y R Z kc ks h pc ls (ab_i y :: ab_i x :: st) := by
  intro p e s m args below meth c C H locs lsr hR hO hL hl
  exact lv_icmp_ge C.1 C.2.1 hd ht (fun c9 => kt ((ab_lei hy hx).mp c9) p e s m args below meth c C H locs lsr hR hO hL hl) (fun c9 => kf (fun e9 => c9 ((ab_lei hy hx).mpr e9)) p e s m args below meth c C H locs lsr hR hO hL hl)
theorem aw_icmp_gt {x y off : Int} {tgt : Nat} (hd : decode Y.2.1 pc = .ok (.if_icmp .gt off, 3)) (ht : (pc : Int) + off = (tgt : Int)) (hx : ab_In x) (hy : ab_In y) (kt : y < x → aW G Y R Z kc ks h tgt ls st) (kf : ¬ y < x → aW G Y R Z kc ks h (pc + 3) ls st) : aW G Y R Z kc ks h pc ls (ab_i y :: ab_i x :: st) := by
  intro p e s m args below meth c C H locs lsr hR hO hL hl
  exact lv_icmp_gt C.1 C.2.1 hd ht (fun c9 => kt ((ab_lti hy hx).mp c9) p e s m args below meth c C H locs lsr hR hO hL hl) (fun c9 => kf (fun e9 => c9 ((ab_lti hy hx).mpr e9)) p e s m args below meth c C H locs lsr hR hO hL hl)
theorem aw_icmp_le {x y off : Int} {tgt : Nat} (hd : decode Y.2.1 pc = .ok (.if_icmp .le off, 3)) (ht : (pc : Int) + off = (tgt : Int)) (hx : ab_In x) (hy : ab_In y) (kt : x ≤ y → aW G Y R Z kc ks h tgt ls st) (kf : ¬ x ≤ y → aW G Y R Z kc ks h (pc + 3) ls st) : aW G Y R Z kc ks h pc ls (ab_i y :: ab_i x :: st) := by
  intro p e s m args below meth c C H locs lsr hR hO hL hl
  exact lv_icmp_le C.1 C.2.1 hd ht (fun c9 => kt ((ab_lei hx hy).mp c9) p e s m args below meth c C H locs lsr hR hO hL hl) (fun c9 => kf (fun e9 => c9 ((ab_lei hx hy).mpr e9)) p e s m args below meth c C H locs lsr hR hO hL hl)
theorem aw_goto {off : Int} {tgt : Nat} (hd : decode Y.2.1 pc = .ok (.goto off, 3)) (ht : (pc : Int) + off = (tgt : Int)) (k : aW G Y R Z kc ks h tgt ls st) : aW G Y R Z kc ks h pc ls st := by
  intro p e s m args below meth c C H locs lsr hR hO hL hl
  exact lv_goto C.1 C.2.1 hd ht (k p e s m args below meth c C H locs lsr hR hO hL hl)
theorem aw_tabOut {dflt lo hi x : Int} {offs : Array Int} {len tgt : Nat} (hd : decode Y.2.1 pc = .ok (.tableswitch dflt lo hi offs, len)) (hx : ab_In x) (hq : x < lo ∨ hi < x) (ht : (pc : Int) + dflt = (tgt : Int)) (k : aW G Y R Z kc ks h tgt ls st) : aW G Y R Z kc ks h pc ls (ab_i x :: st) := by
  intro p e s m args below meth c C H locs lsr hR hO hL hl
  exact lv_tableOut C.1 C.2.1 hd (by rw [ab_to hx]; exact hq) ht (k p e s m args below meth c C H locs lsr hR hO hL hl)
theorem aw_tabIn {dflt lo hi x : Int} {offs : Array Int} {len tgt : Nat} {off : Int} (hd : decode Y.2.1 pc = .ok (.tableswitch dflt lo hi offs, len)) (hx : ab_In x) (h1 : ¬ x < lo) (h2 : ¬ hi < x) (ho : offs[(x - lo).toNat]? = some off) (ht : (pc : Int) + off = (tgt : Int)) (k : aW G Y R Z kc ks h tgt ls st) : aW G Y R Z kc ks h pc ls (ab_i x :: st) := by
  intro p e s m args below meth c C H locs lsr hR hO hL hl
  exact lv_tableIn C.1 C.2.1 hd (by rw [ab_to hx]; exact h1) (by rw [ab_to hx]; exact h2) (by rw [ab_to hx]; exact ho) ht (k p e s m args below meth c C H locs lsr hR hO hL hl)
theorem aw_look {dflt x : Int} {ps : Array (Int × Int)} {len tgt : Nat} {off : Int} (hd : decode Y.2.1 pc = .ok (.lookupswitch dflt ps, len)) (hp : (ps.toList.zip (ps.toList.drop 1)).all (fun (a, next) => a.1 < next.1) = true) (hx : ab_In x) (ho : Op.lookupswitch.offset ps.toList dflt x = off) (ht : (pc : Int) + off = (tgt : Int)) (k : aW G Y R Z kc ks h tgt ls st) : aW G Y R Z kc ks h pc ls (ab_i x :: st) := by
  intro p e s m args below meth c C H locs lsr hR hO hL hl
  exact lv_lookup C.1 C.2.1 hd hp (by rw [ab_to hx]; exact ho) ht (k p e s m args below meth c C H locs lsr hR hO hL hl)
theorem aw_le {ls' : List (Option ab_V)} (hle : ab_le ls' ls) (k : aW G Y R Z kc ks h pc ls' st) : aW G Y R Z kc ks h pc ls st := by
  intro p e s m args below meth c C H locs lsr hR hO hL hl
  exact k p e s m args below meth c C H locs lsr hR hO hL (ab_has_le hl hle)
theorem aw_widen {kc' ks' : Nat} (h1 : kc ≤ kc') (h2 : ks ≤ ks') (k : aW G Y R Z kc' ks' h pc ls st) : aW G Y R Z kc ks h pc ls st := by
  intro p e s m args below meth c C H locs lsr hR hO hL hl
  exact W.widen h1 h2 (k p e s m args below meth c C H locs lsr hR hO hL hl)
end AR
end
section
def ab_KC (k : Nat) (C : String) (T : u_T) (N : Nat) : Prop := k < 20 ∧ vwCl[k]? = some (C, T, N) ∧ (∀ j, j < N → parseFieldDescriptor (T j).2.2.1 = some (ab_ty k j)) ∧ (∀ a, a < N → ∀ b, b < N → a ≠ b → (T a).2.1 ≠ (T b).2.1) ∧ (∀ j, j < N → (T j).1 = C) ∧ ∀ w ∈ u_ws C T N, w ∈ lw_all
/-- the entry idx of the class own names field j of class k; fin: it is final -/
def ab_FL (own : String) (idx k j : Nat) (fin : Bool) : Prop := ∃ (C : String) (T : u_T) (N : Nat), ab_KC k C T N ∧ j < N ∧ (T j).2.2.2 = fin ∧ Cond.fieldLink own idx C (T j).2.1 (T j).2.2.1 ∈ lw_all
theorem ab_ad_lt {G : ab_G} {i : Nat} (h : i < 1000) : ab_ad G i = ab_B G + i := if_pos h
theorem ab_ad_ge {G : ab_G} {i : Nat} (h : 1000 ≤ i) : ab_ad G i = ab_ax G i := if_neg (by omega)
theorem ab_cell.kept {G : ab_G} {I I' : Nat → Nat → Int} {F F' : Nat → Nat → Nat} {i : Nat} {H H' : Heap} (h : ab_cell G I F i H) (hq : H'[ab_ad G i]? = H[ab_ad G i]?) (hI : ∀ j, I' i j = I i j) (hF : ∀ j, F' i j = F i j) : ab_cell G I' F' i H' := by
  unfold ab_cell at h ⊢
  split at h
  · rename_i hk
    rw [if_pos hk]
    obtain ⟨q, h1, h2⟩ := h
    exact ⟨q, h1, (h2.kept hq).to (fun j _ => by rw [hI, hF])⟩
  · rename_i hk
    rw [if_neg hk, hq, h]
    congr 2
    funext j
    rw [hI, hF]
theorem ab_Rep.put {G : ab_G} {n i : Nat} {I I' : Nat → Nat → Int} {F F' : Nat → Nat → Nat} {H H' : Heap} (h : ab_Rep G (n, I, F) H) (hi : 1 ≤ i ∧ i ≤ n) (hz : H'.size = H.size) (ho : ∀ q : Nat, q ≠ ab_ad G i → H'[q]? = H[q]?)
    (hI : ∀ a j, a ≠ i → I' a j = I a j) (hF : ∀ a j, a ≠ i → F' a j = F a j) (hc : ab_cell G I' F' i H') : ab_Rep G (n, I', F') H' := by
  obtain ⟨h1, h2, h3⟩ := h
  refine ⟨h1, hz.trans h2, fun a h4 h5 => ?_⟩
  by_cases hai : a = i
  · subst hai; exact hc
  · have h1' : n < 1000 := h1
    have h5' : a ≤ n := h5
    refine (h3 a h4 h5).kept (ho _ ?_) (fun j => hI a j hai) (fun j => hF a j hai)
    rw [ab_ad_lt (by omega), ab_ad_lt (by omega)]
    omega
theorem ab_cellO {G : ab_G} {n : Nat} {I : Nat → Nat → Int} {F : Nat → Nat → Nat} {H : Heap} {i k : Nat} {C : String} {T : u_T} {N : Nat} (hR : ab_Rep G (n, I, F) H) (hi : 1 ≤ i ∧ i ≤ n) (hk : (ab_sh i).1 = k) (hc : ab_KC k C T N) : t_OB (ab_ad G i) (G.2.1 k) N (G.2.2.1 k) H (fun j => ab_sv G (ab_tag (ab_ty k j)) (I i j) (F i j)) := by
  have h := hR.2.2 i hi.1 hi.2
  unfold ab_cell at h
  rw [if_pos (by rw [hk]; exact hc.1), hk] at h
  obtain ⟨q, h1, h2⟩ := h
  have hq : q = (C, T, N) := Option.some.inj (h1.symm.trans hc.2.1)
  subst hq
  exact h2
theorem ab_cellA {G : ab_G} {n : Nat} {I : Nat → Nat → Int} {F : Nat → Nat → Nat} {H : Heap} {i k l : Nat} (hR : ab_Rep G (n, I, F) H) (hi : 1 ≤ i ∧ i ≤ n) (hk : ab_sh i = (k, l)) (hk2 : 20 ≤ k) : H[ab_ad G i]? = some (arrV (ab_cT G k) l (fun j => ab_sv G (ab_tag (ab_et k)) (I i j) (F i j))) := by
  have h := hR.2.2 i hi.1 hi.2
  unfold ab_cell at h
  rw [if_neg (by rw [hk]; exact Nat.not_lt.mpr hk2), hk] at h
  exact h
theorem ab_u_s {I : Nat → Nat → Int} {i j : Nat} {v : Int} : ab_u I i j v i j = v := if_pos ⟨rfl, rfl⟩
theorem ab_u_i {I : Nat → Nat → Int} {i j a b : Nat} {v : Int} (h : a ≠ i) : ab_u I i j v a b = I a b := if_neg (fun e => h e.1)
theorem ab_u_j {I : Nat → Nat → Int} {i j a b : Nat} {v : Int} (h : b ≠ j) : ab_u I i j v a b = I a b := if_neg (fun e => h e.2)
theorem ab_w_s {I : Nat → Nat → Nat} {i j : Nat} {v : Nat} : ab_w I i j v i j = v := if_pos ⟨rfl, rfl⟩
theorem ab_w_i {I : Nat → Nat → Nat} {i j a b : Nat} {v : Nat} (h : a ≠ i) : ab_w I i j v a b = I a b := if_neg (fun e => h e.1)
theorem ab_w_j {I : Nat → Nat → Nat} {i j a b : Nat} {v : Nat} (h : b ≠ j) : ab_w I i j v a b = I a b := if_neg (fun e => h e.2)
theorem ab_ixn {j : Int} {l : Nat} (h0 : 0 ≤ j) (hl : j < l) (hl2 : l < 1000000) : (Int32.ofInt j).toNatClampNeg = j.toNat ∧ ¬ (Int32.ofInt j < 0 ∨ l ≤ (Int32.ofInt j).toNatClampNeg) := by
  have e1 : (Int32.ofInt j).toNatClampNeg = j.toNat := by
    show (Int32.ofInt j).toInt.toNat = _
    rw [ab_to ⟨by omega, by omega⟩]
  refine ⟨e1, fun h => ?_⟩
  rcases h with h | h
  · have := (ab_lti (x := j) (y := 0) ⟨by omega, by omega⟩ ab_in0).mp h
    omega
  · rw [e1] at h
    omega
section AH
variable {G : ab_G} {Y : ab_Y} {R : Room} {Z : ab_Zt} {kc ks : Nat} {n : Nat} {I : Nat → Nat → Int} {F : Nat → Nat → Nat} {pc : Nat} {ls : List (Option ab_V)} {st : List ab_V}
theorem aw_getc {idx k j i : Nat} {fin : Bool} {v : ab_V} (hd : decode Y.2.1 pc = .ok (.getfield idx, 3)) (hF : ab_FL Y.1.cls idx k j fin) (hi : 1 ≤ i ∧ i ≤ n) (hk : (ab_sh i).1 = k) (hv : ab_c G v = ab_sv G (ab_tag (ab_ty k j)) (I i j) (F i j))
    (kk : aW G Y R Z kc ks (n, I, F) (pc + 3) ls (v :: st)) : aW G Y R Z kc ks (n, I, F) pc ls (ab_r i :: st) := by
  intro p e s m args below meth c Cx H locs lsr hR hO hL hl
  have k9 := kk p e s m args below meth c Cx H locs lsr hR hO hL hl
  obtain ⟨C, T, N, hKC, hj, -, hln⟩ := hF
  obtain ⟨cell, q1, q2, q3, q4⟩ := ab_cellO hR hi hk hKC
  have hts := Cx.2.2.2.2.2.1
  obtain ⟨hS, hfc, kC, hkC, hkind⟩ := Cx.2.2.2.2.2.2.2.2.1.1 k _ hKC.2.1
  obtain ⟨cf, kf, fi, f, hfi, hsl⟩ := hS j hj
  rw [List.map_cons, aw_rv (by omega)]
  refine W.getf Cx.1 Cx.2.1 Cx.2.2.2.2.1 (hts _ hln) ((hKC.2.2.2.2.1 j hj) ▸ hfi) (u_facts hfc hkC (u_lays hts hKC.2.2.2.2.2 hj) hfi).1 q1 (by rw [q3]; exact fun h => by cases h) (v := ab_c G v) ?_ rfl rfl hd k9
  rw [hsl, q4 j hj, hv]
theorem aw_geti {idx k j i : Nat} {fin : Bool} (hd : decode Y.2.1 pc = .ok (.getfield idx, 3)) (hF : ab_FL Y.1.cls idx k j fin) (hi : 1 ≤ i ∧ i ≤ n) (hk : (ab_sh i).1 = k) (ht : ab_tag (ab_ty k j) = 0) (kk : aW G Y R Z kc ks (n, I, F) (pc + 3) ls (ab_i (I i j) :: st)) : aW G Y R Z kc ks (n, I, F) pc ls (ab_r i :: st) :=
  aw_getc hd hF hi hk (by rw [ht]; rfl) kk
theorem aw_getr {idx k j i : Nat} {fin : Bool} (hd : decode Y.2.1 pc = .ok (.getfield idx, 3)) (hF : ab_FL Y.1.cls idx k j fin) (hi : 1 ≤ i ∧ i ≤ n) (hk : (ab_sh i).1 = k) (ht : ab_tag (ab_ty k j) = 1) (kk : aW G Y R Z kc ks (n, I, F) (pc + 3) ls (ab_r (F i j) :: st)) : aW G Y R Z kc ks (n, I, F) pc ls (ab_r i :: st) :=
  aw_getc hd hF hi hk (by rw [ht]; rfl) kk
theorem aw_getl {idx k j i : Nat} {fin : Bool} (hd : decode Y.2.1 pc = .ok (.getfield idx, 3)) (hF : ab_FL Y.1.cls idx k j fin) (hi : 1 ≤ i ∧ i ≤ n) (hk : (ab_sh i).1 = k) (ht : ab_tag (ab_ty k j) = 2) (kk : aW G Y R Z kc ks (n, I, F) (pc + 3) ls (ab_l (I i j) :: st)) : aW G Y R Z kc ks (n, I, F) pc ls (ab_r i :: st) :=
  aw_getc hd hF hi hk (by rw [ht]; rfl) kk
theorem ab_fit {k j : Nat} (v : ab_V) (hv : ∃ x r, ab_c G v = ab_sv G (ab_tag (ab_ty k j)) x r) (hty : ab_ty k j = .int ∨ ab_ty k j = .long ∨ ab_tag (ab_ty k j) = 1) : narrow (ab_ty k j) (ab_c G v) = ab_c G v ∧ fits (ab_ty k j) (ab_c G v) = true := by
  obtain ⟨x, r, hv⟩ := hv
  rw [hv]
  rcases hty with h | h | h
  · rw [h]; exact ⟨rfl, rfl⟩
  · rw [h]; exact ⟨rfl, rfl⟩
  · rw [h]
    show narrow _ (ab_rv G r) = ab_rv G r ∧ fits _ (ab_rv G r) = true
    unfold ab_rv
    cases hq : ab_ty k j with
    | object C => split <;> exact ⟨rfl, rfl⟩
    | array t => split <;> exact ⟨rfl, rfl⟩
    | _ => rw [hq] at h; cases h
theorem aw_putc {idx k j i : Nat} {v : ab_V} {I' : Nat → Nat → Int} {F' : Nat → Nat → Nat} (fin : Bool) (hfin : fin = true → Y.1.name = "<init>" ∧ ∃ (T : u_T) (N : Nat), vwCl[k]? = some (Y.1.cls, T, N)) (hd : decode Y.2.1 pc = .ok (.putfield idx, 3)) (hF : ab_FL Y.1.cls idx k j fin) (hi : 1 ≤ i ∧ i ≤ n) (hk : (ab_sh i).1 = k) (hty : ab_ty k j = .int ∨ ab_ty k j = .long ∨ ab_tag (ab_ty k j) = 1)
    (hv : ab_c G v = ab_sv G (ab_tag (ab_ty k j)) (I' i j) (F' i j)) (hI : ∀ a b, ¬ (a = i ∧ b = j) → I' a b = I a b) (hF' : ∀ a b, ¬ (a = i ∧ b = j) → F' a b = F a b)
    (kk : aW G Y R Z kc ks (n, I', F') (pc + 3) ls st) : aW G Y R Z kc ks (n, I, F) pc ls (v :: ab_r i :: st) := by
  intro p e s m args below meth c Cx H locs lsr hR hO hL hl
  obtain ⟨C, T, N, hKC, hj, hfn, hln⟩ := hF
  obtain ⟨cell, q1, q2, q3, q4⟩ := ab_cellO hR hi hk hKC
  have hts := Cx.2.2.2.2.2.1
  have hK := Cx.2.2.2.2.2.2.2.2.1
  obtain ⟨hS, hfc, kC, hkC, hkind⟩ := hK.1 k _ hKC.2.1
  obtain ⟨cf, kf, fi, f, hfi, hsl⟩ := hS j hj
  have hap := va_apart (own := C) hts hKC.2.2.2.2.2 (ab_ty k) hKC.2.2.1 hKC.2.2.2.1 hK hKC.2.1
  have hi0 : i < 1000 := Nat.lt_of_le_of_lt hi.2 hR.1
  have hst := (u_facts hfc hkC (u_lays hts hKC.2.2.2.2.2 hj) hfi).1
  have hlay := hts _ (hKC.2.2.2.2.2 _ (u_in_lay hj))
  unfold u_lay at hlay
  obtain ⟨hn9, hf9⟩ := ab_fit (G := G) v ⟨_, _, hv⟩ hty
  have fi' : s.fieldFound? C (T j).2.1 (T j).2.2.1 = some (cf, kf, fi, f) := (hKC.2.2.2.2.1 j hj) ▸ hfi
  have fin9 : ∀ H' : Heap, H'[ab_ad G i]? = some (cell.setSlot f.slot (ab_c G v)) → H'.size = H.size → (∀ q, q ≠ ab_ad G i → H'[q]? = H[q]?) → W p G.1 e R s m args below meth c H' (locs ++ [⟨ab_ad G i, f.slot⟩]) kc ks (Z below args s) (F0 m (pc + 3) lsr (st.map (ab_c G))) := by
    intro H' e1 e2 e3
    have hB : ab_ad G i = ab_B G + i := ab_ad_lt hi0
    refine kk p e s m args below meth c Cx H' _ lsr (hR.put hi e2 e3 (fun a b h => hI a b (fun q => h q.1)) (fun a b h => hF' a b (fun q => h q.1)) ?_) (fun q hq => by rw [e3 q (by omega)]; exact hO q hq) (fun q hq => ?_) hl
    · unfold ab_cell
      rw [if_pos (by rw [hk]; exact hKC.1), hk]
      refine ⟨_, hKC.2.1, t_OB.to (V := updV (fun j => ab_sv G (ab_tag (ab_ty k j)) (I i j) (F i j)) j (ab_c G v)) ⟨_, e1, q2, q3, ?_⟩ (fun b hb => ?_)⟩
      · rw [hsl]
        exact t_set q4 hap hj _
      · unfold updV
        by_cases hbj : b = j
        · subst hbj
          rw [if_pos rfl, hv]
        · rw [if_neg hbj, hI i b (fun q => hbj q.2), hF' i b (fun q => hbj q.2)]
    · rcases List.mem_append.mp hq with h | h
      · exact hL q h
      · rw [List.mem_singleton.mp h]
        show ab_B G < ab_ad G i
        omega
  rw [List.map_cons, List.map_cons, aw_rv (by omega)]
  cases fin with
  | false =>
    rw [if_neg (by rw [hfn]; decide)] at hlay
    have h6 := u_store hfc hkC hkind hlay hfi (hKC.2.2.1 j hj) hn9 hf9
    exact W.putK Cx.1 Cx.2.1 (f := f) ⟨Cx.2.2.2.2.1, hts _ hln, ⟨_, _, _, fi'⟩, hst⟩ (by rw [q2]; exact h6) q1 q3 (by rw [hsl]; exact k2_hasslot (q4 j hj)) rfl rfl hd fin9
  | true =>
    rw [if_pos hfn] at hlay
    obtain ⟨hin, T2, N2, hown2⟩ := hfin rfl
    have hC : C = Y.1.cls := by
      have := hKC.2.1.symm.trans hown2
      exact congrArg Prod.fst (Option.some.inj this)
    have hcf : m.cls = cf := by
      obtain ⟨_, _, c', _, _, _, -, -, hf', -, -, -, hown3, -⟩ := Cond.laysFinal_spec hlay
      have e1 : c' = cf := by have := hfi.symm.trans hf'; simp at this; exact this.1.symm
      rw [hKC.2.2.2.2.1 j hj, hC] at hown3
      rw [← e1]; exact Option.some.inj (Cx.2.2.2.2.1.symm.trans hown3)
    have h6 := u_fits hfc hkC hkind (Or.inr hlay) hfi (hKC.2.2.1 j hj) hn9 hf9
    exact W.putFinK Cx.1 Cx.2.1 Cx.2.2.2.2.1 (hts _ hln) fi' hst hcf (Cx.2.2.2.2.2.2.2.1.trans hin) (by rw [q2]; exact h6) q1 q3 (by rw [hsl]; exact k2_hasslot (q4 j hj)) rfl rfl hd fin9
theorem aw_puti {idx k j i : Nat} {x : Int} (hd : decode Y.2.1 pc = .ok (.putfield idx, 3)) (hF : ab_FL Y.1.cls idx k j false) (hi : 1 ≤ i ∧ i ≤ n) (hk : (ab_sh i).1 = k) (ht : ab_ty k j = .int) (kk : aW G Y R Z kc ks (n, ab_u I i j x, F) (pc + 3) ls st) : aW G Y R Z kc ks (n, I, F) pc ls (ab_i x :: ab_r i :: st) :=
  aw_putc false (fun h => by cases h) hd hF hi hk (Or.inl ht) (by rw [ht, if_pos ⟨rfl, rfl⟩]; rfl) (fun a b h => if_neg h) (fun _ _ _ => rfl) kk
theorem aw_putl {idx k j i : Nat} {x : Int} (hd : decode Y.2.1 pc = .ok (.putfield idx, 3)) (hF : ab_FL Y.1.cls idx k j false) (hi : 1 ≤ i ∧ i ≤ n) (hk : (ab_sh i).1 = k) (ht : ab_ty k j = .long) (kk : aW G Y R Z kc ks (n, ab_u I i j x, F) (pc + 3) ls st) : aW G Y R Z kc ks (n, I, F) pc ls (ab_l x :: ab_r i :: st) :=
  aw_putc false (fun h => by cases h) hd hF hi hk (Or.inr (Or.inl ht)) (by rw [ht, if_pos ⟨rfl, rfl⟩]; rfl) (fun a b h => if_neg h) (fun _ _ _ => rfl) kk
theorem aw_putF {idx k j i r : Nat} (hd : decode Y.2.1 pc = .ok (.putfield idx, 3)) (hF : ab_FL Y.1.cls idx k j true) (hi : 1 ≤ i ∧ i ≤ n) (hk : (ab_sh i).1 = k) (ht : ab_tag (ab_ty k j) = 1) (hy : Y.1.name = "<init>") (hc : ∃ (T : u_T) (N : Nat), vwCl[k]? = some (Y.1.cls, T, N)) (kk : aW G Y R Z kc ks (n, I, ab_w F i j r) (pc + 3) ls st) : aW G Y R Z kc ks (n, I, F) pc ls (ab_r r :: ab_r i :: st) :=
  aw_putc true (fun _ => ⟨hy, hc⟩) hd hF hi hk (Or.inr (Or.inr ht)) (by rw [ht, if_pos ⟨rfl, rfl⟩]; rfl) (fun _ _ _ => rfl) (fun a b h => if_neg h) kk
-- arrays
theorem aw_iald {i l : Nat} {j : Int} (hd : decode Y.2.1 pc = .ok (.iaload, 1)) (hi : 1 ≤ i ∧ i ≤ n) (hk : ab_sh i = (20, l)) (h0 : 0 ≤ j) (hl9 : j < l) (hz : l < 1000000) (kk : aW G Y R Z kc ks (n, I, F) (pc + 1) ls (ab_i (I i j.toNat) :: st)) : aW G Y R Z kc ks (n, I, F) pc ls (ab_i j :: ab_r i :: st) := by
  intro p e s m args below meth c Cx H locs lsr hR hO hL hl
  have k9 := kk p e s m args below meth c Cx H locs lsr hR hO hL hl
  obtain ⟨e1, e2⟩ := ab_ixn h0 hl9 hz
  rw [List.map_cons, List.map_cons, aw_rv (by omega)]
  refine W.iald Cx.1 Cx.2.1 (ab_cellA hR hi hk (by omega)) ((Cx.2.2.2.2.2.2.2.2.1.2 0 (_, .int) rfl).1 l _) (fun h => by cases h) (by rw [arrV_size]; exact e2) (v := .int (Int32.ofInt (I i j.toNat))) ?_ rfl rfl hd k9
  rw [e1, arrV_read _ _ (by omega)]
  rfl
theorem aw_cald {i l : Nat} {j : Int} (hd : decode Y.2.1 pc = .ok (.caload, 1)) (hi : 1 ≤ i ∧ i ≤ n) (hk : ab_sh i = (21, l)) (h0 : 0 ≤ j) (hl9 : j < l) (hz : l < 1000000) (kk : aW G Y R Z kc ks (n, I, F) (pc + 1) ls (ab_i (I i j.toNat) :: st)) : aW G Y R Z kc ks (n, I, F) pc ls (ab_i j :: ab_r i :: st) := by
  intro p e s m args below meth c Cx H locs lsr hR hO hL hl
  have k9 := kk p e s m args below meth c Cx H locs lsr hR hO hL hl
  obtain ⟨e1, e2⟩ := ab_ixn h0 hl9 hz
  rw [List.map_cons, List.map_cons, aw_rv (by omega)]
  refine W.cald Cx.1 Cx.2.1 (ab_cellA hR hi hk (by omega)) ((Cx.2.2.2.2.2.2.2.2.1.2 1 (_, .char) rfl).1 l _) (fun h => by cases h) (by rw [arrV_size]; exact e2) (v := .int (Int32.ofInt (I i j.toNat))) ?_ rfl rfl hd k9
  rw [e1, arrV_read _ _ (by omega)]
  rfl
theorem aw_zald {i l : Nat} {j : Int} (hd : decode Y.2.1 pc = .ok (.baload, 1)) (hi : 1 ≤ i ∧ i ≤ n) (hk : ab_sh i = (22, l)) (h0 : 0 ≤ j) (hl9 : j < l) (hz : l < 1000000) (kk : aW G Y R Z kc ks (n, I, F) (pc + 1) ls (ab_i (I i j.toNat) :: st)) : aW G Y R Z kc ks (n, I, F) pc ls (ab_i j :: ab_r i :: st) := by
  intro p e s m args below meth c Cx H locs lsr hR hO hL hl
  have k9 := kk p e s m args below meth c Cx H locs lsr hR hO hL hl
  obtain ⟨e1, e2⟩ := ab_ixn h0 hl9 hz
  rw [List.map_cons, List.map_cons, aw_rv (by omega)]
  refine W.zald Cx.1 Cx.2.1 (ab_cellA hR hi hk (by omega)) ((Cx.2.2.2.2.2.2.2.2.1.2 2 (_, .boolean) rfl).1 l _) (fun h => by cases h) (by rw [arrV_size]; exact e2) (v := .int (Int32.ofInt (I i j.toNat))) ?_ rfl rfl hd k9
  rw [e1, arrV_read _ _ (by omega)]
  rfl
theorem aw_aald {i l k : Nat} {j : Int} (hd : decode Y.2.1 pc = .ok (.aaload, 1)) (hi : 1 ≤ i ∧ i ≤ n) (hk : ab_sh i = (k, l)) (hk2 : k = 23 ∨ k = 24) (h0 : 0 ≤ j) (hl9 : j < l) (hz : l < 1000000) (kk : aW G Y R Z kc ks (n, I, F) (pc + 1) ls (ab_r (F i j.toNat) :: st)) : aW G Y R Z kc ks (n, I, F) pc ls (ab_i j :: ab_r i :: st) := by
  intro p e s m args below meth c Cx H locs lsr hR hO hL hl
  have k9 := kk p e s m args below meth c Cx H locs lsr hR hO hL hl
  obtain ⟨e1, e2⟩ := ab_ixn h0 hl9 hz
  rw [List.map_cons, List.map_cons, aw_rv (by omega)]
  rcases hk2 with rfl | rfl
  · refine W.aald Cx.1 Cx.2.1 (ab_cellA hR hi hk (by omega)) ((Cx.2.2.2.2.2.2.2.2.1.2 3 (_, .array .int) rfl).1 l _) rfl (fun h => by cases h) (by rw [arrV_size]; exact e2) (v := ab_rv G (F i j.toNat)) ?_ rfl rfl hd k9
    rw [e1, arrV_read _ _ (by omega)]
    rfl
  · refine W.aald Cx.1 Cx.2.1 (ab_cellA hR hi hk (by omega)) ((Cx.2.2.2.2.2.2.2.2.1.2 4 (_, .object "ThreeOffers$Person") rfl).1 l _) rfl (fun h => by cases h) (by rw [arrV_size]; exact e2) (v := ab_rv G (F i j.toNat)) ?_ rfl rfl hd k9
    rw [e1, arrV_read _ _ (by omega)]
    rfl
theorem ab_put_arr {s : State} {H H' : Heap} {i k l j : Nat} {v : Value} {I' : Nat → Nat → Int} {F' : Nat → Nat → Nat} (hR : ab_Rep G (n, I, F) H) (hi : 1 ≤ i ∧ i ≤ n) (hk : ab_sh i = (k, l)) (hk2 : 20 ≤ k) (e1 : H'[ab_ad G i]? = some ((arrV (ab_cT G k) l (fun j => ab_sv G (ab_tag (ab_et k)) (I i j) (F i j))).setSlot j v)) (e2 : H'.size = H.size) (e3 : ∀ q : Nat, q ≠ ab_ad G i → H'[q]? = H[q]?)
    (hv : v = ab_sv G (ab_tag (ab_et k)) (I' i j) (F' i j)) (hI : ∀ a b, ¬ (a = i ∧ b = j) → I' a b = I a b) (hF' : ∀ a b, ¬ (a = i ∧ b = j) → F' a b = F a b) : ab_Rep G (n, I', F') H' := by
  refine hR.put hi e2 e3 (fun a b h => hI a b (fun q => h q.1)) (fun a b h => hF' a b (fun q => h q.1)) ?_
  unfold ab_cell
  rw [if_neg (by rw [hk]; exact Nat.not_lt.mpr hk2), hk, e1, arrV_store]
  congr 2
  funext b
  unfold updV
  by_cases hbj : b = j
  · subst hbj
    rw [if_pos rfl, hv]
  · rw [if_neg hbj, hI i b (fun q => hbj q.2), hF' i b (fun q => hbj q.2)]
theorem aw_iast {i l : Nat} {j x : Int} (hd : decode Y.2.1 pc = .ok (.iastore, 1)) (hi : 1 ≤ i ∧ i ≤ n) (hk : ab_sh i = (20, l)) (h0 : 0 ≤ j) (hl9 : j < l) (hz : l < 1000000) (kk : aW G Y R Z kc ks (n, ab_u I i j.toNat x, F) (pc + 1) ls st) : aW G Y R Z kc ks (n, I, F) pc ls (ab_i x :: ab_i j :: ab_r i :: st) := by
  intro p e s m args below meth c Cx H locs lsr hR hO hL hl
  obtain ⟨e1, e2⟩ := ab_ixn h0 hl9 hz
  have hB : ab_ad G i = ab_B G + i := ab_ad_lt (Nat.lt_of_le_of_lt hi.2 hR.1)
  rw [List.map_cons, List.map_cons, List.map_cons, aw_rv (by omega)]
  refine W.iast Cx.1 Cx.2.1 (ab_cellA hR hi hk (by omega)) ((Cx.2.2.2.2.2.2.2.2.1.2 0 (_, .int) rfl).1 l _) (fun h => by cases h) (by rw [arrV_size]; exact e2) rfl rfl hd (fun H' a1 a2 a3 => ?_)
  refine kk p e s m args below meth c Cx H' _ lsr (ab_put_arr (s := s) hR hi hk (by omega) (j := j.toNat) (by rw [a1, e1]) a2 a3 (by rw [ab_u_s]; rfl) (fun a b h => if_neg h) (fun _ _ _ => rfl)) (fun q hq => by rw [a3 q (by intro z; subst z; omega)]; exact hO q hq) (fun q hq => ?_) hl
  rcases List.mem_append.mp hq with h | h
  · exact hL q h
  · rw [List.mem_singleton.mp h]
    show ab_B G < ab_ad G i
    omega
theorem aw_cast {i l : Nat} {j x : Int} (hd : decode Y.2.1 pc = .ok (.castore, 1)) (hi : 1 ≤ i ∧ i ≤ n) (hk : ab_sh i = (21, l)) (h0 : 0 ≤ j) (hl9 : j < l) (hz : l < 1000000) (hx : (Int32.ofInt x).toUInt32.toUInt16.toUInt32.toInt32 = Int32.ofInt x) (kk : aW G Y R Z kc ks (n, ab_u I i j.toNat x, F) (pc + 1) ls st) : aW G Y R Z kc ks (n, I, F) pc ls (ab_i x :: ab_i j :: ab_r i :: st) := by
  intro p e s m args below meth c Cx H locs lsr hR hO hL hl
  obtain ⟨e1, e2⟩ := ab_ixn h0 hl9 hz
  have hB : ab_ad G i = ab_B G + i := ab_ad_lt (Nat.lt_of_le_of_lt hi.2 hR.1)
  rw [List.map_cons, List.map_cons, List.map_cons, aw_rv (by omega)]
  refine W.cast Cx.1 Cx.2.1 (ab_cellA hR hi hk (by omega)) ((Cx.2.2.2.2.2.2.2.2.1.2 1 (_, .char) rfl).1 l _) (fun h => by cases h) (by rw [arrV_size]; exact e2) rfl rfl hd (fun H' a1 a2 a3 => ?_)
  refine kk p e s m args below meth c Cx H' _ lsr (ab_put_arr (s := s) hR hi hk (by omega) (j := j.toNat) (by rw [a1, e1]) a2 a3 (by rw [ab_u_s]; first | exact congrArg Value.int hx | (simp only [narrow]; exact congrArg Value.int hx)) (fun a b h => if_neg h) (fun _ _ _ => rfl)) (fun q hq => by rw [a3 q (by intro z; subst z; omega)]; exact hO q hq) (fun q hq => ?_) hl
  rcases List.mem_append.mp hq with h | h
  · exact hL q h
  · rw [List.mem_singleton.mp h]
    show ab_B G < ab_ad G i
    omega
theorem aw_zast {i l : Nat} {j x : Int} (hd : decode Y.2.1 pc = .ok (.bastore, 1)) (hi : 1 ≤ i ∧ i ≤ n) (hk : ab_sh i = (22, l)) (h0 : 0 ≤ j) (hl9 : j < l) (hz : l < 1000000) (hx : x = 0 ∨ x = 1) (kk : aW G Y R Z kc ks (n, ab_u I i j.toNat x, F) (pc + 1) ls st) : aW G Y R Z kc ks (n, I, F) pc ls (ab_i x :: ab_i j :: ab_r i :: st) := by
  intro p e s m args below meth c Cx H locs lsr hR hO hL hl
  obtain ⟨e1, e2⟩ := ab_ixn h0 hl9 hz
  have hB : ab_ad G i = ab_B G + i := ab_ad_lt (Nat.lt_of_le_of_lt hi.2 hR.1)
  rw [List.map_cons, List.map_cons, List.map_cons, aw_rv (by omega)]
  refine W.zast Cx.1 Cx.2.1 (ab_cellA hR hi hk (by omega)) ((Cx.2.2.2.2.2.2.2.2.1.2 2 (_, .boolean) rfl).1 l _) (fun h => by cases h) (by rw [arrV_size]; exact e2) rfl rfl hd (fun H' a1 a2 a3 => ?_)
  refine kk p e s m args below meth c Cx H' _ lsr (ab_put_arr (s := s) hR hi hk (by omega) (j := j.toNat) (by rw [a1, e1]) a2 a3 (by rw [ab_u_s]; rcases hx with rfl | rfl <;> rfl) (fun a b h => if_neg h) (fun _ _ _ => rfl)) (fun q hq => by rw [a3 q (by intro z; subst z; omega)]; exact hO q hq) (fun q hq => ?_) hl
  rcases List.mem_append.mp hq with h | h
  · exact hL q h
  · rw [List.mem_singleton.mp h]
    show ab_B G < ab_ad G i
    omega
theorem aw_alen {i l k : Nat} (hd : decode Y.2.1 pc = .ok (.arraylength, 1)) (hi : 1 ≤ i ∧ i ≤ n) (hk : ab_sh i = (k, l)) (hk2 : k = 20) (kk : aW G Y R Z kc ks (n, I, F) (pc + 1) ls (ab_i (l : Int) :: st)) : aW G Y R Z kc ks (n, I, F) pc ls (ab_r i :: st) := by
  intro p e s m args below meth c Cx H locs lsr hR hO hL hl
  have k9 := kk p e s m args below meth c Cx H locs lsr hR hO hL hl
  subst hk2
  rw [List.map_cons, aw_rv (by omega)]
  refine W.alen Cx.1 Cx.2.1 (ab_cellA hR hi hk (by omega)) ((Cx.2.2.2.2.2.2.2.2.1.2 0 (_, .int) rfl).1 l _) (n := Int32.ofInt l) ?_ rfl rfl hd k9
  rw [arrV_size]
  exact Int32.ofInt_eq_ofNat.symm
end AH
end
