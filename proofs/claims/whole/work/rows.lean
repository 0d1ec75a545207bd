section
-- ===== PART A: goes FIRST, ahead of the names: the tables' words, and 'selects' of the private methods out of them =====
/-- a private method of a class that the tables say can be made, by its rows of tables_1 -/
def lw_okq (q : MethodName × Nat) : Prop := (q.1.cls ≠ "java/lang/invoke/MethodHandle" ∧ q.1.cls ≠ "java/lang/invoke/VarHandle") ∧ Cond.instantiable q.1.cls q.2 ∈ tables_1 ∧ Cond.privateMethod q.1 ∈ tables_1 ∧ Cond.instanceMethod q.1 ∈ tables_1
theorem lw_p0 : lw_okq (⟨"ThreeOffers$Course", "offer", "(ILThreeOffers$Rules;)V"⟩, 7) := ⟨⟨by decide +kernel, by decide +kernel⟩, List.mem_of_getElem? (i := 160) (by decide +kernel), List.mem_of_getElem? (i := 442) (by decide +kernel), List.mem_of_getElem? (i := 443) (by decide +kernel)⟩
theorem lw_p1 : lw_okq (⟨"ThreeOffers$Course", "isAhead", "(LThreeOffers$Person;LThreeOffers$Person;I)Z"⟩, 7) := ⟨⟨by decide +kernel, by decide +kernel⟩, List.mem_of_getElem? (i := 160) (by decide +kernel), List.mem_of_getElem? (i := 450) (by decide +kernel), List.mem_of_getElem? (i := 451) (by decide +kernel)⟩
theorem lw_p2 : lw_okq (⟨"ThreeOffers$Course", "sayNo", "(LThreeOffers$Person;LThreeOffers$Rules;)Z"⟩, 7) := ⟨⟨by decide +kernel, by decide +kernel⟩, List.mem_of_getElem? (i := 160) (by decide +kernel), List.mem_of_getElem? (i := 458) (by decide +kernel), List.mem_of_getElem? (i := 459) (by decide +kernel)⟩
theorem lw_p3 : lw_okq (⟨"ThreeOffers$Course", "house", "(LThreeOffers$Person;I)V"⟩, 7) := ⟨⟨by decide +kernel, by decide +kernel⟩, List.mem_of_getElem? (i := 160) (by decide +kernel), List.mem_of_getElem? (i := 462) (by decide +kernel), List.mem_of_getElem? (i := 463) (by decide +kernel)⟩
theorem lw_p4 : lw_okq (⟨"ThreeOffers$Course", "arrive", "(I)V"⟩, 7) := ⟨⟨by decide +kernel, by decide +kernel⟩, List.mem_of_getElem? (i := 160) (by decide +kernel), List.mem_of_getElem? (i := 466) (by decide +kernel), List.mem_of_getElem? (i := 467) (by decide +kernel)⟩
theorem lw_p5 : lw_okq (⟨"ThreeOffers$Course", "growOlder", "(I)V"⟩, 7) := ⟨⟨by decide +kernel, by decide +kernel⟩, List.mem_of_getElem? (i := 160) (by decide +kernel), List.mem_of_getElem? (i := 471) (by decide +kernel), List.mem_of_getElem? (i := 472) (by decide +kernel)⟩
theorem lw_p6 : lw_okq (⟨"ThreeOffers$Text", "goOn", "()V"⟩, 6) := ⟨⟨by decide +kernel, by decide +kernel⟩, List.mem_of_getElem? (i := 132) (by decide +kernel), List.mem_of_getElem? (i := 513) (by decide +kernel), List.mem_of_getElem? (i := 514) (by decide +kernel)⟩
theorem lw_p7 : lw_okq (⟨"ThreeOffers$Text", "readLine", "(LThreeOffers$Rules;)Z"⟩, 6) := ⟨⟨by decide +kernel, by decide +kernel⟩, List.mem_of_getElem? (i := 132) (by decide +kernel), List.mem_of_getElem? (i := 520) (by decide +kernel), List.mem_of_getElem? (i := 521) (by decide +kernel)⟩
theorem lw_p8 : lw_okq (⟨"ThreeOffers$Text", "pass", "(Ljava/lang/String;)Z"⟩, 6) := ⟨⟨by decide +kernel, by decide +kernel⟩, List.mem_of_getElem? (i := 132) (by decide +kernel), List.mem_of_getElem? (i := 525) (by decide +kernel), List.mem_of_getElem? (i := 526) (by decide +kernel)⟩
theorem lw_p9 : lw_okq (⟨"ThreeOffers$Text", "choose", "(Ljava/lang/String;Ljava/lang/String;Ljava/lang/String;)I"⟩, 6) := ⟨⟨by decide +kernel, by decide +kernel⟩, List.mem_of_getElem? (i := 132) (by decide +kernel), List.mem_of_getElem? (i := 580) (by decide +kernel), List.mem_of_getElem? (i := 581) (by decide +kernel)⟩
theorem lw_p10 : lw_okq (⟨"ThreeOffers$Text", "number", "(I)I"⟩, 6) := ⟨⟨by decide +kernel, by decide +kernel⟩, List.mem_of_getElem? (i := 132) (by decide +kernel), List.mem_of_getElem? (i := 585) (by decide +kernel), List.mem_of_getElem? (i := 586) (by decide +kernel)⟩
theorem lw_p11 : lw_okq (⟨"ThreeOffers$Text", "readWay", "(LThreeOffers$Rules;)Z"⟩, 6) := ⟨⟨by decide +kernel, by decide +kernel⟩, List.mem_of_getElem? (i := 132) (by decide +kernel), List.mem_of_getElem? (i := 595) (by decide +kernel), List.mem_of_getElem? (i := 596) (by decide +kernel)⟩
theorem lw_p12 : lw_okq (⟨"ThreeOffers", "tryOut", "(ILThreeOffers$Rules;)V"⟩, 11) := ⟨⟨by decide +kernel, by decide +kernel⟩, List.mem_of_getElem? (i := 23) (by decide +kernel), List.mem_of_getElem? (i := 625) (by decide +kernel), List.mem_of_getElem? (i := 626) (by decide +kernel)⟩
theorem lw_p13 : lw_okq (⟨"ThreeOffers$Rest", "findLikeBars", "()V"⟩, 6) := ⟨⟨by decide +kernel, by decide +kernel⟩, List.mem_of_getElem? (i := 231) (by decide +kernel), List.mem_of_getElem? (i := 667) (by decide +kernel), List.mem_of_getElem? (i := 668) (by decide +kernel)⟩
theorem lw_p14 : lw_okq (⟨"ThreeOffers$Rest", "kindsTaken", "(II)I"⟩, 6) := ⟨⟨by decide +kernel, by decide +kernel⟩, List.mem_of_getElem? (i := 231) (by decide +kernel), List.mem_of_getElem? (i := 671) (by decide +kernel), List.mem_of_getElem? (i := 672) (by decide +kernel)⟩
theorem lw_p15 : lw_okq (⟨"ThreeOffers$Rest", "likeSetting", "(I)I"⟩, 6) := ⟨⟨by decide +kernel, by decide +kernel⟩, List.mem_of_getElem? (i := 231) (by decide +kernel), List.mem_of_getElem? (i := 675) (by decide +kernel), List.mem_of_getElem? (i := 676) (by decide +kernel)⟩
def lw_privs_1 : List (MethodName × Nat) := [(⟨"ThreeOffers$Course", "offer", "(ILThreeOffers$Rules;)V"⟩, 7), (⟨"ThreeOffers$Course", "isAhead", "(LThreeOffers$Person;LThreeOffers$Person;I)Z"⟩, 7), (⟨"ThreeOffers$Course", "sayNo", "(LThreeOffers$Person;LThreeOffers$Rules;)Z"⟩, 7), (⟨"ThreeOffers$Course", "house", "(LThreeOffers$Person;I)V"⟩, 7), (⟨"ThreeOffers$Course", "arrive", "(I)V"⟩, 7), (⟨"ThreeOffers$Course", "growOlder", "(I)V"⟩, 7), (⟨"ThreeOffers$Text", "goOn", "()V"⟩, 6), (⟨"ThreeOffers$Text", "readLine", "(LThreeOffers$Rules;)Z"⟩, 6), (⟨"ThreeOffers$Text", "pass", "(Ljava/lang/String;)Z"⟩, 6), (⟨"ThreeOffers$Text", "choose", "(Ljava/lang/String;Ljava/lang/String;Ljava/lang/String;)I"⟩, 6), (⟨"ThreeOffers$Text", "number", "(I)I"⟩, 6), (⟨"ThreeOffers$Text", "readWay", "(LThreeOffers$Rules;)Z"⟩, 6), (⟨"ThreeOffers", "tryOut", "(ILThreeOffers$Rules;)V"⟩, 11), (⟨"ThreeOffers$Rest", "findLikeBars", "()V"⟩, 6), (⟨"ThreeOffers$Rest", "kindsTaken", "(II)I"⟩, 6), (⟨"ThreeOffers$Rest", "likeSetting", "(I)I"⟩, 6)]
theorem lw_r1 : ∀ q ∈ lw_privs_1, lw_okq q := List.forall_mem_cons.mpr ⟨lw_p0, List.forall_mem_cons.mpr ⟨lw_p1, List.forall_mem_cons.mpr ⟨lw_p2, List.forall_mem_cons.mpr ⟨lw_p3, List.forall_mem_cons.mpr ⟨lw_p4, List.forall_mem_cons.mpr ⟨lw_p5, List.forall_mem_cons.mpr ⟨lw_p6, List.forall_mem_cons.mpr ⟨lw_p7, List.forall_mem_cons.mpr ⟨lw_p8, List.forall_mem_cons.mpr ⟨lw_p9, List.forall_mem_cons.mpr ⟨lw_p10, List.forall_mem_cons.mpr ⟨lw_p11, List.forall_mem_cons.mpr ⟨lw_p12, List.forall_mem_cons.mpr ⟨lw_p13, List.forall_mem_cons.mpr ⟨lw_p14, List.forall_mem_cons.mpr ⟨lw_p15, fun _ h => absurd h List.not_mem_nil⟩⟩⟩⟩⟩⟩⟩⟩⟩⟩⟩⟩⟩⟩⟩⟩
theorem lw_p16 : lw_okq (⟨"ThreeOffers$Rest", "setWays", "(LThreeOffers$Rules;I)V"⟩, 6) := ⟨⟨by decide +kernel, by decide +kernel⟩, List.mem_of_getElem? (i := 231) (by decide +kernel), List.mem_of_getElem? (i := 684) (by decide +kernel), List.mem_of_getElem? (i := 685) (by decide +kernel)⟩
theorem lw_p17 : lw_okq (⟨"ThreeOffers$Rest", "isAtRest", "(I)Z"⟩, 6) := ⟨⟨by decide +kernel, by decide +kernel⟩, List.mem_of_getElem? (i := 231) (by decide +kernel), List.mem_of_getElem? (i := 692) (by decide +kernel), List.mem_of_getElem? (i := 693) (by decide +kernel)⟩
theorem lw_p18 : lw_okq (⟨"ThreeOffers$Lot", "rowsFrom", "(IIII)I"⟩, 4) := ⟨⟨by decide +kernel, by decide +kernel⟩, List.mem_of_getElem? (i := 259) (by decide +kernel), List.mem_of_getElem? (i := 715) (by decide +kernel), List.mem_of_getElem? (i := 716) (by decide +kernel)⟩
theorem lw_p19 : lw_okq (⟨"ThreeOffers$Lot", "kindTaken", "(I)I"⟩, 4) := ⟨⟨by decide +kernel, by decide +kernel⟩, List.mem_of_getElem? (i := 259) (by decide +kernel), List.mem_of_getElem? (i := 719) (by decide +kernel), List.mem_of_getElem? (i := 720) (by decide +kernel)⟩
theorem lw_p20 : lw_okq (⟨"ThreeOffers$Swaps", "closeRing", "(I)I"⟩, 3) := ⟨⟨by decide +kernel, by decide +kernel⟩, List.mem_of_getElem? (i := 302) (by decide +kernel), List.mem_of_getElem? (i := 748) (by decide +kernel), List.mem_of_getElem? (i := 749) (by decide +kernel)⟩
theorem lw_p21 : lw_okq (⟨"ThreeOffers$Swaps", "pointedTo", "(II)I"⟩, 3) := ⟨⟨by decide +kernel, by decide +kernel⟩, List.mem_of_getElem? (i := 302) (by decide +kernel), List.mem_of_getElem? (i := 756) (by decide +kernel), List.mem_of_getElem? (i := 757) (by decide +kernel)⟩
theorem lw_p22 : lw_okq (⟨"ThreeOffers$Chain", "goOn", "(III)V"⟩, 4) := ⟨⟨by decide +kernel, by decide +kernel⟩, List.mem_of_getElem? (i := 320) (by decide +kernel), List.mem_of_getElem? (i := 776) (by decide +kernel), List.mem_of_getElem? (i := 777) (by decide +kernel)⟩
theorem lw_p23 : lw_okq (⟨"ThreeOffersModel", "add", "(I)V"⟩, 32) := ⟨⟨by decide +kernel, by decide +kernel⟩, List.mem_of_getElem? (i := 796) (by decide +kernel), List.mem_of_getElem? (i := 929) (by decide +kernel), List.mem_of_getElem? (i := 930) (by decide +kernel)⟩
theorem lw_p24 : lw_okq (⟨"ThreeOffersModel", "goWeek", "()V"⟩, 32) := ⟨⟨by decide +kernel, by decide +kernel⟩, List.mem_of_getElem? (i := 796) (by decide +kernel), List.mem_of_getElem? (i := 937) (by decide +kernel), List.mem_of_getElem? (i := 938) (by decide +kernel)⟩
theorem lw_p25 : lw_okq (⟨"ThreeOffersModel", "offer", "(I)V"⟩, 32) := ⟨⟨by decide +kernel, by decide +kernel⟩, List.mem_of_getElem? (i := 796) (by decide +kernel), List.mem_of_getElem? (i := 941) (by decide +kernel), List.mem_of_getElem? (i := 942) (by decide +kernel)⟩
theorem lw_p26 : lw_okq (⟨"ThreeOffersModel", "findOrder", "()V"⟩, 32) := ⟨⟨by decide +kernel, by decide +kernel⟩, List.mem_of_getElem? (i := 796) (by decide +kernel), List.mem_of_getElem? (i := 945) (by decide +kernel), List.mem_of_getElem? (i := 946) (by decide +kernel)⟩
theorem lw_p27 : lw_okq (⟨"ThreeOffersModel", "isAhead", "(II)Z"⟩, 32) := ⟨⟨by decide +kernel, by decide +kernel⟩, List.mem_of_getElem? (i := 796) (by decide +kernel), List.mem_of_getElem? (i := 949) (by decide +kernel), List.mem_of_getElem? (i := 950) (by decide +kernel)⟩
theorem lw_p28 : lw_okq (⟨"ThreeOffersModel", "doesTake", "(II)Z"⟩, 32) := ⟨⟨by decide +kernel, by decide +kernel⟩, List.mem_of_getElem? (i := 796) (by decide +kernel), List.mem_of_getElem? (i := 953) (by decide +kernel), List.mem_of_getElem? (i := 954) (by decide +kernel)⟩
theorem lw_p29 : lw_okq (⟨"ThreeOffersModel", "isRead", "()Z"⟩, 32) := ⟨⟨by decide +kernel, by decide +kernel⟩, List.mem_of_getElem? (i := 796) (by decide +kernel), List.mem_of_getElem? (i := 982) (by decide +kernel), List.mem_of_getElem? (i := 983) (by decide +kernel)⟩
theorem lw_p30 : lw_okq (⟨"ThreeOffersModel", "isLine", "()Z"⟩, 32) := ⟨⟨by decide +kernel, by decide +kernel⟩, List.mem_of_getElem? (i := 796) (by decide +kernel), List.mem_of_getElem? (i := 986) (by decide +kernel), List.mem_of_getElem? (i := 987) (by decide +kernel)⟩
theorem lw_p31 : lw_okq (⟨"ThreeOffersModel", "nextToken", "()V"⟩, 32) := ⟨⟨by decide +kernel, by decide +kernel⟩, List.mem_of_getElem? (i := 796) (by decide +kernel), List.mem_of_getElem? (i := 990) (by decide +kernel), List.mem_of_getElem? (i := 991) (by decide +kernel)⟩
def lw_privs_2 : List (MethodName × Nat) := [(⟨"ThreeOffers$Rest", "setWays", "(LThreeOffers$Rules;I)V"⟩, 6), (⟨"ThreeOffers$Rest", "isAtRest", "(I)Z"⟩, 6), (⟨"ThreeOffers$Lot", "rowsFrom", "(IIII)I"⟩, 4), (⟨"ThreeOffers$Lot", "kindTaken", "(I)I"⟩, 4), (⟨"ThreeOffers$Swaps", "closeRing", "(I)I"⟩, 3), (⟨"ThreeOffers$Swaps", "pointedTo", "(II)I"⟩, 3), (⟨"ThreeOffers$Chain", "goOn", "(III)V"⟩, 4), (⟨"ThreeOffersModel", "add", "(I)V"⟩, 32), (⟨"ThreeOffersModel", "goWeek", "()V"⟩, 32), (⟨"ThreeOffersModel", "offer", "(I)V"⟩, 32), (⟨"ThreeOffersModel", "findOrder", "()V"⟩, 32), (⟨"ThreeOffersModel", "isAhead", "(II)Z"⟩, 32), (⟨"ThreeOffersModel", "doesTake", "(II)Z"⟩, 32), (⟨"ThreeOffersModel", "isRead", "()Z"⟩, 32), (⟨"ThreeOffersModel", "isLine", "()Z"⟩, 32), (⟨"ThreeOffersModel", "nextToken", "()V"⟩, 32)]
theorem lw_r2 : ∀ q ∈ lw_privs_2, lw_okq q := List.forall_mem_cons.mpr ⟨lw_p16, List.forall_mem_cons.mpr ⟨lw_p17, List.forall_mem_cons.mpr ⟨lw_p18, List.forall_mem_cons.mpr ⟨lw_p19, List.forall_mem_cons.mpr ⟨lw_p20, List.forall_mem_cons.mpr ⟨lw_p21, List.forall_mem_cons.mpr ⟨lw_p22, List.forall_mem_cons.mpr ⟨lw_p23, List.forall_mem_cons.mpr ⟨lw_p24, List.forall_mem_cons.mpr ⟨lw_p25, List.forall_mem_cons.mpr ⟨lw_p26, List.forall_mem_cons.mpr ⟨lw_p27, List.forall_mem_cons.mpr ⟨lw_p28, List.forall_mem_cons.mpr ⟨lw_p29, List.forall_mem_cons.mpr ⟨lw_p30, List.forall_mem_cons.mpr ⟨lw_p31, fun _ h => absurd h List.not_mem_nil⟩⟩⟩⟩⟩⟩⟩⟩⟩⟩⟩⟩⟩⟩⟩⟩
theorem lw_p32 : lw_okq (⟨"ThreeOffersModel", "isOf", "(IJJJ)Z"⟩, 32) := ⟨⟨by decide +kernel, by decide +kernel⟩, List.mem_of_getElem? (i := 796) (by decide +kernel), List.mem_of_getElem? (i := 1004) (by decide +kernel), List.mem_of_getElem? (i := 1005) (by decide +kernel)⟩
theorem lw_p33 : lw_okq (⟨"ThreeOffersModel", "fails", "()Z"⟩, 32) := ⟨⟨by decide +kernel, by decide +kernel⟩, List.mem_of_getElem? (i := 796) (by decide +kernel), List.mem_of_getElem? (i := 1008) (by decide +kernel), List.mem_of_getElem? (i := 1009) (by decide +kernel)⟩
theorem lw_p34 : lw_okq (⟨"ThreeOffersModel", "isNumber", "(II)Z"⟩, 32) := ⟨⟨by decide +kernel, by decide +kernel⟩, List.mem_of_getElem? (i := 796) (by decide +kernel), List.mem_of_getElem? (i := 1013) (by decide +kernel), List.mem_of_getElem? (i := 1014) (by decide +kernel)⟩
theorem lw_p35 : lw_okq (⟨"ThreeOffersModel", "isWay", "()Z"⟩, 32) := ⟨⟨by decide +kernel, by decide +kernel⟩, List.mem_of_getElem? (i := 796) (by decide +kernel), List.mem_of_getElem? (i := 1023) (by decide +kernel), List.mem_of_getElem? (i := 1024) (by decide +kernel)⟩
theorem lw_p36 : lw_okq (⟨"ThreeOffersModel", "goOn", "(I)V"⟩, 32) := ⟨⟨by decide +kernel, by decide +kernel⟩, List.mem_of_getElem? (i := 796) (by decide +kernel), List.mem_of_getElem? (i := 1046) (by decide +kernel), List.mem_of_getElem? (i := 1047) (by decide +kernel)⟩
theorem lw_p37 : lw_okq (⟨"ThreeOffersModel", "more", "(I)I"⟩, 32) := ⟨⟨by decide +kernel, by decide +kernel⟩, List.mem_of_getElem? (i := 796) (by decide +kernel), List.mem_of_getElem? (i := 1050) (by decide +kernel), List.mem_of_getElem? (i := 1051) (by decide +kernel)⟩
theorem lw_p38 : lw_okq (⟨"ThreeOffersModel", "layBack", "()V"⟩, 32) := ⟨⟨by decide +kernel, by decide +kernel⟩, List.mem_of_getElem? (i := 796) (by decide +kernel), List.mem_of_getElem? (i := 1054) (by decide +kernel), List.mem_of_getElem? (i := 1055) (by decide +kernel)⟩
theorem lw_p39 : lw_okq (⟨"ThreeOffersModel", "gainOf", "(I)I"⟩, 32) := ⟨⟨by decide +kernel, by decide +kernel⟩, List.mem_of_getElem? (i := 796) (by decide +kernel), List.mem_of_getElem? (i := 1063) (by decide +kernel), List.mem_of_getElem? (i := 1064) (by decide +kernel)⟩
theorem lw_p40 : lw_okq (⟨"ThreeOffersModel", "keepRules", "()V"⟩, 32) := ⟨⟨by decide +kernel, by decide +kernel⟩, List.mem_of_getElem? (i := 796) (by decide +kernel), List.mem_of_getElem? (i := 1071) (by decide +kernel), List.mem_of_getElem? (i := 1072) (by decide +kernel)⟩
theorem lw_p41 : lw_okq (⟨"ThreeOffersModel", "layBackRules", "()V"⟩, 32) := ⟨⟨by decide +kernel, by decide +kernel⟩, List.mem_of_getElem? (i := 796) (by decide +kernel), List.mem_of_getElem? (i := 1075) (by decide +kernel), List.mem_of_getElem? (i := 1076) (by decide +kernel)⟩
theorem lw_p42 : lw_okq (⟨"ThreeOffersModel", "findGains", "(I)V"⟩, 32) := ⟨⟨by decide +kernel, by decide +kernel⟩, List.mem_of_getElem? (i := 796) (by decide +kernel), List.mem_of_getElem? (i := 1083) (by decide +kernel), List.mem_of_getElem? (i := 1084) (by decide +kernel)⟩
theorem lw_p43 : lw_okq (⟨"ThreeOffersModel", "isAtRest", "(I)Z"⟩, 32) := ⟨⟨by decide +kernel, by decide +kernel⟩, List.mem_of_getElem? (i := 796) (by decide +kernel), List.mem_of_getElem? (i := 1087) (by decide +kernel), List.mem_of_getElem? (i := 1088) (by decide +kernel)⟩
theorem lw_p44 : lw_okq (⟨"ThreeOffersModel", "lotOf", "(III)I"⟩, 32) := ⟨⟨by decide +kernel, by decide +kernel⟩, List.mem_of_getElem? (i := 796) (by decide +kernel), List.mem_of_getElem? (i := 1095) (by decide +kernel), List.mem_of_getElem? (i := 1096) (by decide +kernel)⟩
theorem lw_p45 : lw_okq (⟨"ThreeOffersModel", "part", "(JJI)I"⟩, 32) := ⟨⟨by decide +kernel, by decide +kernel⟩, List.mem_of_getElem? (i := 796) (by decide +kernel), List.mem_of_getElem? (i := 1099) (by decide +kernel), List.mem_of_getElem? (i := 1100) (by decide +kernel)⟩
theorem lw_p46 : lw_okq (⟨"ThreeOffersModel", "swapAll", "()V"⟩, 32) := ⟨⟨by decide +kernel, by decide +kernel⟩, List.mem_of_getElem? (i := 796) (by decide +kernel), List.mem_of_getElem? (i := 1114) (by decide +kernel), List.mem_of_getElem? (i := 1115) (by decide +kernel)⟩
theorem lw_p47 : lw_okq (⟨"ThreeOffersModel", "worthTo", "(II)I"⟩, 32) := ⟨⟨by decide +kernel, by decide +kernel⟩, List.mem_of_getElem? (i := 796) (by decide +kernel), List.mem_of_getElem? (i := 1118) (by decide +kernel), List.mem_of_getElem? (i := 1119) (by decide +kernel)⟩
def lw_privs_3 : List (MethodName × Nat) := [(⟨"ThreeOffersModel", "isOf", "(IJJJ)Z"⟩, 32), (⟨"ThreeOffersModel", "fails", "()Z"⟩, 32), (⟨"ThreeOffersModel", "isNumber", "(II)Z"⟩, 32), (⟨"ThreeOffersModel", "isWay", "()Z"⟩, 32), (⟨"ThreeOffersModel", "goOn", "(I)V"⟩, 32), (⟨"ThreeOffersModel", "more", "(I)I"⟩, 32), (⟨"ThreeOffersModel", "layBack", "()V"⟩, 32), (⟨"ThreeOffersModel", "gainOf", "(I)I"⟩, 32), (⟨"ThreeOffersModel", "keepRules", "()V"⟩, 32), (⟨"ThreeOffersModel", "layBackRules", "()V"⟩, 32), (⟨"ThreeOffersModel", "findGains", "(I)V"⟩, 32), (⟨"ThreeOffersModel", "isAtRest", "(I)Z"⟩, 32), (⟨"ThreeOffersModel", "lotOf", "(III)I"⟩, 32), (⟨"ThreeOffersModel", "part", "(JJI)I"⟩, 32), (⟨"ThreeOffersModel", "swapAll", "()V"⟩, 32), (⟨"ThreeOffersModel", "worthTo", "(II)I"⟩, 32)]
theorem lw_r3 : ∀ q ∈ lw_privs_3, lw_okq q := List.forall_mem_cons.mpr ⟨lw_p32, List.forall_mem_cons.mpr ⟨lw_p33, List.forall_mem_cons.mpr ⟨lw_p34, List.forall_mem_cons.mpr ⟨lw_p35, List.forall_mem_cons.mpr ⟨lw_p36, List.forall_mem_cons.mpr ⟨lw_p37, List.forall_mem_cons.mpr ⟨lw_p38, List.forall_mem_cons.mpr ⟨lw_p39, List.forall_mem_cons.mpr ⟨lw_p40, List.forall_mem_cons.mpr ⟨lw_p41, List.forall_mem_cons.mpr ⟨lw_p42, List.forall_mem_cons.mpr ⟨lw_p43, List.forall_mem_cons.mpr ⟨lw_p44, List.forall_mem_cons.mpr ⟨lw_p45, List.forall_mem_cons.mpr ⟨lw_p46, List.forall_mem_cons.mpr ⟨lw_p47, fun _ h => absurd h List.not_mem_nil⟩⟩⟩⟩⟩⟩⟩⟩⟩⟩⟩⟩⟩⟩⟩⟩
theorem lw_p48 : lw_okq (⟨"ThreeOffersModel", "wouldGo", "(II)Z"⟩, 32) := ⟨⟨by decide +kernel, by decide +kernel⟩, List.mem_of_getElem? (i := 796) (by decide +kernel), List.mem_of_getElem? (i := 1130) (by decide +kernel), List.mem_of_getElem? (i := 1131) (by decide +kernel)⟩
def lw_privs_4 : List (MethodName × Nat) := [(⟨"ThreeOffersModel", "wouldGo", "(II)Z"⟩, 32)]
theorem lw_r4 : ∀ q ∈ lw_privs_4, lw_okq q := List.forall_mem_cons.mpr ⟨lw_p48, fun _ h => absurd h List.not_mem_nil⟩
def lw_privs : List (MethodName × Nat) := lw_privs_1 ++ (lw_privs_2 ++ (lw_privs_3 ++ (lw_privs_4)))
def lw_tbl : List Cond := k2_sels lw_privs ++ tables_1
theorem lw_privs_ok : ∀ q ∈ lw_privs, lw_okq q := by
  show ∀ q ∈ lw_privs_1 ++ (lw_privs_2 ++ (lw_privs_3 ++ (lw_privs_4))), lw_okq q
  exact List.forall_mem_append.mpr ⟨lw_r1, List.forall_mem_append.mpr ⟨lw_r2, List.forall_mem_append.mpr ⟨lw_r3, lw_r4⟩⟩⟩
end
section
def RX0 : String := "ThreeOffers$Chain"
def TX0 : u_T := fun k => match k with
  | 0 => ("ThreeOffers$Chain", "holders", "LThreeOffers$Holders;", true)
  | 1 => ("ThreeOffers$Chain", "tried", "[I", true)
  | 2 => ("ThreeOffers$Chain", "longest", "[I", true)
  | _ => ("ThreeOffers$Chain", "length", "I", false)
def tyX0 : Nat → FieldType := fun k => match k with
  | 0 => .object "ThreeOffers$Holders"
  | 1 => .array .int
  | 2 => .array .int
  | _ => .int
theorem nmX0 : ∀ a, a < 4 → ∀ b, b < 4 → a ≠ b → (TX0 a).2.1 ≠ (TX0 b).2.1 := by decide +kernel
theorem tyX0_ok : ∀ k, k < 4 → parseFieldDescriptor (TX0 k).2.2.1 = some (tyX0 k) := by decide +kernel
abbrev cX0_init : ByteArray := prog_2_method_1_code
def yX0_init : MethodName := ⟨RX0, "<init>", "(LThreeOffers$Holders;)V"⟩
abbrev cX0_find : ByteArray := prog_2_method_2_code
def yX0_find : MethodName := ⟨RX0, "find", "(I)V"⟩
abbrev cX0_goOn : ByteArray := prog_2_method_3_code
def yX0_goOn : MethodName := ⟨RX0, "goOn", "(III)V"⟩
def RX1 : String := "ThreeOffers$Course"
def TX1 : u_T := fun k => match k with
  | 0 => ("ThreeOffers$Course", "town", "LThreeOffers$Town;", true)
  | 1 => ("ThreeOffers$Course", "list", "[LThreeOffers$Person;", true)
  | 2 => ("ThreeOffers$Course", "size", "I", false)
  | 3 => ("ThreeOffers$Course", "week", "I", false)
  | 4 => ("ThreeOffers$Course", "nextNumber", "I", false)
  | 5 => ("ThreeOffers$Course", "emptyHouses", "I", false)
  | _ => ("ThreeOffers$Course", "tallies", "[[I", true)
def tyX1 : Nat → FieldType := fun k => match k with
  | 0 => .object "ThreeOffers$Town"
  | 1 => .array (.object "ThreeOffers$Person")
  | 2 => .int
  | 3 => .int
  | 4 => .int
  | 5 => .int
  | _ => .array (.array .int)
theorem nmX1 : ∀ a, a < 7 → ∀ b, b < 7 → a ≠ b → (TX1 a).2.1 ≠ (TX1 b).2.1 := by decide +kernel
theorem tyX1_ok : ∀ k, k < 7 → parseFieldDescriptor (TX1 k).2.2.1 = some (tyX1 k) := by decide +kernel
abbrev cX1_init : ByteArray := prog_3_method_1_code
def yX1_init : MethodName := ⟨RX1, "<init>", "(LThreeOffers$Town;)V"⟩
abbrev cX1_beginLike : ByteArray := prog_3_method_2_code
def yX1_beginLike : MethodName := ⟨RX1, "beginLike", "(LThreeOffers$Course;)V"⟩
abbrev cX1_isFull : ByteArray := prog_3_method_3_code
def yX1_isFull : MethodName := ⟨RX1, "isFull", "()Z"⟩
abbrev cX1_add : ByteArray := prog_3_method_4_code
def yX1_add : MethodName := ⟨RX1, "add", "(I)V"⟩
abbrev cX1_total : ByteArray := prog_3_method_5_code
def yX1_total : MethodName := ⟨RX1, "total", "(I)I"⟩
abbrev cX1_gained : ByteArray := prog_3_method_6_code
def yX1_gained : MethodName := ⟨RX1, "gained", "(I)I"⟩
abbrev cX1_pass : ByteArray := prog_3_method_7_code
def yX1_pass : MethodName := ⟨RX1, "pass", "(ILThreeOffers$Rules;)V"⟩
abbrev cX1_stand : ByteArray := prog_3_method_8_code
def yX1_stand : MethodName := ⟨RX1, "stand", "(I)V"⟩
abbrev cX1_isAhead : ByteArray := prog_3_method_9_code
def yX1_isAhead : MethodName := ⟨RX1, "isAhead", "(LThreeOffers$Person;LThreeOffers$Person;I)Z"⟩
abbrev cX1_offer : ByteArray := prog_3_method_10_code
def yX1_offer : MethodName := ⟨RX1, "offer", "(ILThreeOffers$Rules;)V"⟩
abbrev cX1_house : ByteArray := prog_3_method_11_code
def yX1_house : MethodName := ⟨RX1, "house", "(LThreeOffers$Person;I)V"⟩
abbrev cX1_sayNo : ByteArray := prog_3_method_12_code
def yX1_sayNo : MethodName := ⟨RX1, "sayNo", "(LThreeOffers$Person;LThreeOffers$Rules;)Z"⟩
abbrev cX1_arrive : ByteArray := prog_3_method_13_code
def yX1_arrive : MethodName := ⟨RX1, "arrive", "(I)V"⟩
abbrev cX1_growOlder : ByteArray := prog_3_method_14_code
def yX1_growOlder : MethodName := ⟨RX1, "growOlder", "(I)V"⟩
def RX2 : String := "ThreeOffers$Holders"
def TX2 : u_T := fun k => match k with
  | 0 => ("ThreeOffers$Holders", "town", "LThreeOffers$Town;", true)
  | 1 => ("ThreeOffers$Holders", "sorts", "[I", true)
  | 2 => ("ThreeOffers$Holders", "kinds", "[I", true)
  | _ => ("ThreeOffers$Holders", "many", "I", false)
def tyX2 : Nat → FieldType := fun k => match k with
  | 0 => .object "ThreeOffers$Town"
  | 1 => .array .int
  | 2 => .array .int
  | _ => .int
theorem nmX2 : ∀ a, a < 4 → ∀ b, b < 4 → a ≠ b → (TX2 a).2.1 ≠ (TX2 b).2.1 := by decide +kernel
theorem tyX2_ok : ∀ k, k < 4 → parseFieldDescriptor (TX2 k).2.2.1 = some (tyX2 k) := by decide +kernel
abbrev cX2_init : ByteArray := prog_4_method_1_code
def yX2_init : MethodName := ⟨RX2, "<init>", "(LThreeOffers$Town;)V"⟩
abbrev cX2_add : ByteArray := prog_4_method_2_code
def yX2_add : MethodName := ⟨RX2, "add", "(II)I"⟩
abbrev cX2_likesMore : ByteArray := prog_4_method_3_code
def yX2_likesMore : MethodName := ⟨RX2, "likesMore", "(III)Z"⟩
def RX3 : String := "ThreeOffers$Lot"
def TX3 : u_T := fun k => match k with
  | 0 => ("ThreeOffers$Lot", "town", "LThreeOffers$Town;", true)
  | 1 => ("ThreeOffers$Lot", "sorts", "[I", true)
  | 2 => ("ThreeOffers$Lot", "people", "I", false)
  | _ => ("ThreeOffers$Lot", "left", "[I", true)
def tyX3 : Nat → FieldType := fun k => match k with
  | 0 => .object "ThreeOffers$Town"
  | 1 => .array .int
  | 2 => .int
  | _ => .array .int
theorem nmX3 : ∀ a, a < 4 → ∀ b, b < 4 → a ≠ b → (TX3 a).2.1 ≠ (TX3 b).2.1 := by decide +kernel
theorem tyX3_ok : ∀ k, k < 4 → parseFieldDescriptor (TX3 k).2.2.1 = some (tyX3 k) := by decide +kernel
abbrev cX3_init : ByteArray := prog_5_method_1_code
def yX3_init : MethodName := ⟨RX3, "<init>", "(LThreeOffers$Town;)V"⟩
abbrev cX3_gather : ByteArray := prog_5_method_2_code
def yX3_gather : MethodName := ⟨RX3, "gather", "(LThreeOffers$Course;I)V"⟩
abbrev cX3_lay : ByteArray := prog_5_method_3_code
def yX3_lay : MethodName := ⟨RX3, "lay", "(II)V"⟩
abbrev cX3_rowsFor : ByteArray := prog_5_method_4_code
def yX3_rowsFor : MethodName := ⟨RX3, "rowsFor", "(II)I"⟩
abbrev cX3_rowsFrom : ByteArray := prog_5_method_5_code
def yX3_rowsFrom : MethodName := ⟨RX3, "rowsFrom", "(IIII)I"⟩
abbrev cX3_kindTaken : ByteArray := prog_5_method_6_code
def yX3_kindTaken : MethodName := ⟨RX3, "kindTaken", "(I)I"⟩
def RX4 : String := "ThreeOffers$Person"
def TX4 : u_T := fun k => match k with
  | 0 => ("ThreeOffers$Person", "sort", "I", false)
  | 1 => ("ThreeOffers$Person", "number", "I", false)
  | 2 => ("ThreeOffers$Person", "points", "I", false)
  | 3 => ("ThreeOffers$Person", "noes", "I", false)
  | _ => ("ThreeOffers$Person", "waited", "I", false)
def tyX4 : Nat → FieldType := fun k => match k with
  | 0 => .int
  | 1 => .int
  | 2 => .int
  | 3 => .int
  | _ => .int
theorem nmX4 : ∀ a, a < 5 → ∀ b, b < 5 → a ≠ b → (TX4 a).2.1 ≠ (TX4 b).2.1 := by decide +kernel
theorem tyX4_ok : ∀ k, k < 5 → parseFieldDescriptor (TX4 k).2.2.1 = some (tyX4 k) := by decide +kernel
abbrev cX4_init : ByteArray := prog_6_method_1_code
def yX4_init : MethodName := ⟨RX4, "<init>", "()V"⟩
abbrev cX4_begin : ByteArray := prog_6_method_2_code
def yX4_begin : MethodName := ⟨RX4, "begin", "(II)V"⟩
abbrev cX4_copy : ByteArray := prog_6_method_3_code
def yX4_copy : MethodName := ⟨RX4, "copy", "(LThreeOffers$Person;)V"⟩
def RX5 : String := "ThreeOffers$Rest"
def TX5 : u_T := fun k => match k with
  | 0 => ("ThreeOffers$Rest", "town", "LThreeOffers$Town;", true)
  | 1 => ("ThreeOffers$Rest", "gains", "[I", true)
  | 2 => ("ThreeOffers$Rest", "like", "[[I", true)
  | 3 => ("ThreeOffers$Rest", "found", "[I", true)
  | 4 => ("ThreeOffers$Rest", "many", "I", false)
  | _ => ("ThreeOffers$Rest", "knownFor", "I", false)
def tyX5 : Nat → FieldType := fun k => match k with
  | 0 => .object "ThreeOffers$Town"
  | 1 => .array .int
  | 2 => .array (.array .int)
  | 3 => .array .int
  | 4 => .int
  | _ => .int
theorem nmX5 : ∀ a, a < 6 → ∀ b, b < 6 → a ≠ b → (TX5 a).2.1 ≠ (TX5 b).2.1 := by decide +kernel
theorem tyX5_ok : ∀ k, k < 6 → parseFieldDescriptor (TX5 k).2.2.1 = some (tyX5 k) := by decide +kernel
abbrev cX5_init : ByteArray := prog_7_method_1_code
def yX5_init : MethodName := ⟨RX5, "<init>", "(LThreeOffers$Town;)V"⟩
abbrev cX5_forget : ByteArray := prog_7_method_2_code
def yX5_forget : MethodName := ⟨RX5, "forget", "()V"⟩
abbrev cX5_areKnownFor : ByteArray := prog_7_method_3_code
def yX5_areKnownFor : MethodName := ⟨RX5, "areKnownFor", "(I)Z"⟩
abbrev cX5_find : ByteArray := prog_7_method_4_code
def yX5_find : MethodName := ⟨RX5, "find", "(ILThreeOffers$Course;LThreeOffers$Course;LThreeOffers$Rules;)V"⟩
abbrev cX5_findLikeBars : ByteArray := prog_7_method_5_code
def yX5_findLikeBars : MethodName := ⟨RX5, "findLikeBars", "()V"⟩
abbrev cX5_kindsTaken : ByteArray := prog_7_method_6_code
def yX5_kindsTaken : MethodName := ⟨RX5, "kindsTaken", "(II)I"⟩
abbrev cX5_likeSetting : ByteArray := prog_7_method_7_code
def yX5_likeSetting : MethodName := ⟨RX5, "likeSetting", "(I)I"⟩
abbrev cX5_barOf : ByteArray := prog_7_method_8_code
def yX5_barOf : MethodName := ⟨RX5, "barOf", "(II)I"⟩
abbrev cX5_setWays : ByteArray := prog_7_method_9_code
def yX5_setWays : MethodName := ⟨RX5, "setWays", "(LThreeOffers$Rules;I)V"⟩
abbrev cX5_isAtRest : ByteArray := prog_7_method_10_code
def yX5_isAtRest : MethodName := ⟨RX5, "isAtRest", "(I)Z"⟩
def RX6 : String := "ThreeOffers$Row"
def TX6 : u_T := fun k => match k with
  | 0 => ("ThreeOffers$Row", "items", "[I", true)
  | _ => ("ThreeOffers$Row", "size", "I", false)
def tyX6 : Nat → FieldType := fun k => match k with
  | 0 => .array .int
  | _ => .int
theorem nmX6 : ∀ a, a < 2 → ∀ b, b < 2 → a ≠ b → (TX6 a).2.1 ≠ (TX6 b).2.1 := by decide +kernel
theorem tyX6_ok : ∀ k, k < 2 → parseFieldDescriptor (TX6 k).2.2.1 = some (tyX6 k) := by decide +kernel
abbrev cX6_init : ByteArray := prog_8_method_1_code
def yX6_init : MethodName := ⟨RX6, "<init>", "()V"⟩
abbrev cX6_isFull : ByteArray := prog_8_method_2_code
def yX6_isFull : MethodName := ⟨RX6, "isFull", "()Z"⟩
abbrev cX6_add : ByteArray := prog_8_method_3_code
def yX6_add : MethodName := ⟨RX6, "add", "(I)I"⟩
abbrev cX6_inWeek : ByteArray := prog_8_method_4_code
def yX6_inWeek : MethodName := ⟨RX6, "inWeek", "(I)I"⟩
def RX7 : String := "ThreeOffers$Rules"
def TX7 : u_T := fun k => match k with
  | 0 => ("ThreeOffers$Rules", "order", "I", false)
  | 1 => ("ThreeOffers$Rules", "noes", "I", false)
  | 2 => ("ThreeOffers$Rules", "then", "I", false)
  | 3 => ("ThreeOffers$Rules", "grow", "I", false)
  | 4 => ("ThreeOffers$Rules", "ways", "[I", true)
  | 5 => ("ThreeOffers$Rules", "bars", "[I", true)
  | _ => ("ThreeOffers$Rules", "falls", "[I", true)
def tyX7 : Nat → FieldType := fun k => match k with
  | 0 => .int
  | 1 => .int
  | 2 => .int
  | 3 => .int
  | 4 => .array .int
  | 5 => .array .int
  | _ => .array .int
theorem nmX7 : ∀ a, a < 7 → ∀ b, b < 7 → a ≠ b → (TX7 a).2.1 ≠ (TX7 b).2.1 := by decide +kernel
theorem tyX7_ok : ∀ k, k < 7 → parseFieldDescriptor (TX7 k).2.2.1 = some (tyX7 k) := by decide +kernel
abbrev cX7_init : ByteArray := prog_9_method_1_code
def yX7_init : MethodName := ⟨RX7, "<init>", "()V"⟩
abbrev cX7_setAsAtFirst : ByteArray := prog_9_method_2_code
def yX7_setAsAtFirst : MethodName := ⟨RX7, "setAsAtFirst", "()V"⟩
abbrev cX7_copy : ByteArray := prog_9_method_3_code
def yX7_copy : MethodName := ⟨RX7, "copy", "(LThreeOffers$Rules;)V"⟩
abbrev cX7_setWay : ByteArray := prog_9_method_4_code
def yX7_setWay : MethodName := ⟨RX7, "setWay", "(IIII)V"⟩
abbrev cX7_takes : ByteArray := prog_9_method_5_code
def yX7_takes : MethodName := ⟨RX7, "takes", "(III)Z"⟩
def RX8 : String := "ThreeOffers$Swaps"
def TX8 : u_T := fun k => match k with
  | 0 => ("ThreeOffers$Swaps", "holders", "LThreeOffers$Holders;", true)
  | 1 => ("ThreeOffers$Swaps", "gets", "[I", true)
  | _ => ("ThreeOffers$Swaps", "ringsOfSeveral", "I", false)
def tyX8 : Nat → FieldType := fun k => match k with
  | 0 => .object "ThreeOffers$Holders"
  | 1 => .array .int
  | _ => .int
theorem nmX8 : ∀ a, a < 3 → ∀ b, b < 3 → a ≠ b → (TX8 a).2.1 ≠ (TX8 b).2.1 := by decide +kernel
theorem tyX8_ok : ∀ k, k < 3 → parseFieldDescriptor (TX8 k).2.2.1 = some (tyX8 k) := by decide +kernel
abbrev cX8_init : ByteArray := prog_10_method_1_code
def yX8_init : MethodName := ⟨RX8, "<init>", "(LThreeOffers$Holders;)V"⟩
abbrev cX8_settle : ByteArray := prog_10_method_2_code
def yX8_settle : MethodName := ⟨RX8, "settle", "()V"⟩
abbrev cX8_closeRing : ByteArray := prog_10_method_3_code
def yX8_closeRing : MethodName := ⟨RX8, "closeRing", "(I)I"⟩
abbrev cX8_pointedTo : ByteArray := prog_10_method_4_code
def yX8_pointedTo : MethodName := ⟨RX8, "pointedTo", "(II)I"⟩
def RX9 : String := "ThreeOffers$Text"
def TX9 : u_T := fun k => match k with
  | 0 => ("ThreeOffers$Text", "signs", "[C", true)
  | 1 => ("ThreeOffers$Text", "length", "I", false)
  | 2 => ("ThreeOffers$Text", "lines", "I", false)
  | 3 => ("ThreeOffers$Text", "start", "I", false)
  | 4 => ("ThreeOffers$Text", "end", "I", false)
  | _ => ("ThreeOffers$Text", "look", "I", false)
def tyX9 : Nat → FieldType := fun k => match k with
  | 0 => .array .char
  | 1 => .int
  | 2 => .int
  | 3 => .int
  | 4 => .int
  | _ => .int
theorem nmX9 : ∀ a, a < 6 → ∀ b, b < 6 → a ≠ b → (TX9 a).2.1 ≠ (TX9 b).2.1 := by decide +kernel
theorem tyX9_ok : ∀ k, k < 6 → parseFieldDescriptor (TX9 k).2.2.1 = some (tyX9 k) := by decide +kernel
abbrev cX9_init : ByteArray := prog_11_method_1_code
def yX9_init : MethodName := ⟨RX9, "<init>", "()V"⟩
abbrev cX9_add : ByteArray := prog_11_method_2_code
def yX9_add : MethodName := ⟨RX9, "add", "(C)V"⟩
abbrev cX9_readInto : ByteArray := prog_11_method_3_code
def yX9_readInto : MethodName := ⟨RX9, "readInto", "(LThreeOffers$Rules;)I"⟩
abbrev cX9_readLine : ByteArray := prog_11_method_4_code
def yX9_readLine : MethodName := ⟨RX9, "readLine", "(LThreeOffers$Rules;)Z"⟩
abbrev cX9_readWay : ByteArray := prog_11_method_5_code
def yX9_readWay : MethodName := ⟨RX9, "readWay", "(LThreeOffers$Rules;)Z"⟩
abbrev cX9_choose : ByteArray := prog_11_method_6_code
def yX9_choose : MethodName := ⟨RX9, "choose", "(Ljava/lang/String;Ljava/lang/String;Ljava/lang/String;)I"⟩
abbrev cX9_number : ByteArray := prog_11_method_7_code
def yX9_number : MethodName := ⟨RX9, "number", "(I)I"⟩
abbrev cX9_pass : ByteArray := prog_11_method_8_code
def yX9_pass : MethodName := ⟨RX9, "pass", "(Ljava/lang/String;)Z"⟩
abbrev cX9_goOn : ByteArray := prog_11_method_9_code
def yX9_goOn : MethodName := ⟨RX9, "goOn", "()V"⟩
abbrev cX9_lookOf : ByteArray := prog_11_method_10_code
def yX9_lookOf : MethodName := ⟨RX9, "lookOf", "(C)I"⟩
def RX10 : String := "ThreeOffers$Town"
def TX10 : u_T := fun k => match k with
  | 0 => ("ThreeOffers$Town", "worths", "[[I", true)
  | 1 => ("ThreeOffers$Town", "needs", "[I", true)
  | 2 => ("ThreeOffers$Town", "houses", "LThreeOffers$Row;", true)
  | _ => ("ThreeOffers$Town", "comers", "LThreeOffers$Row;", true)
def tyX10 : Nat → FieldType := fun k => match k with
  | 0 => .array (.array .int)
  | 1 => .array .int
  | 2 => .object "ThreeOffers$Row"
  | _ => .object "ThreeOffers$Row"
theorem nmX10 : ∀ a, a < 4 → ∀ b, b < 4 → a ≠ b → (TX10 a).2.1 ≠ (TX10 b).2.1 := by decide +kernel
theorem tyX10_ok : ∀ k, k < 4 → parseFieldDescriptor (TX10 k).2.2.1 = some (tyX10 k) := by decide +kernel
abbrev cX10_init : ByteArray := prog_12_method_1_code
def yX10_init : MethodName := ⟨RX10, "<init>", "()V"⟩
def RX11 : String := "ThreeOffers"
def TX11 : u_T := fun k => match k with
  | 0 => ("ThreeOffers", "town", "LThreeOffers$Town;", true)
  | 1 => ("ThreeOffers", "told", "LThreeOffers$Rules;", true)
  | 2 => ("ThreeOffers", "draft", "LThreeOffers$Rules;", true)
  | 3 => ("ThreeOffers", "text", "LThreeOffers$Text;", true)
  | 4 => ("ThreeOffers", "now", "LThreeOffers$Course;", true)
  | 5 => ("ThreeOffers", "trial", "LThreeOffers$Course;", true)
  | 6 => ("ThreeOffers", "settings", "LThreeOffers$Rest;", true)
  | 7 => ("ThreeOffers", "draw", "LThreeOffers$Lot;", true)
  | 8 => ("ThreeOffers", "holders", "LThreeOffers$Holders;", true)
  | 9 => ("ThreeOffers", "exchange", "LThreeOffers$Swaps;", true)
  | _ => ("ThreeOffers", "moves", "LThreeOffers$Chain;", true)
def tyX11 : Nat → FieldType := fun k => match k with
  | 0 => .object "ThreeOffers$Town"
  | 1 => .object "ThreeOffers$Rules"
  | 2 => .object "ThreeOffers$Rules"
  | 3 => .object "ThreeOffers$Text"
  | 4 => .object "ThreeOffers$Course"
  | 5 => .object "ThreeOffers$Course"
  | 6 => .object "ThreeOffers$Rest"
  | 7 => .object "ThreeOffers$Lot"
  | 8 => .object "ThreeOffers$Holders"
  | 9 => .object "ThreeOffers$Swaps"
  | _ => .object "ThreeOffers$Chain"
theorem nmX11 : ∀ a, a < 11 → ∀ b, b < 11 → a ≠ b → (TX11 a).2.1 ≠ (TX11 b).2.1 := by decide +kernel
theorem tyX11_ok : ∀ k, k < 11 → parseFieldDescriptor (TX11 k).2.2.1 = some (tyX11 k) := by decide +kernel
abbrev cX11_init : ByteArray := prog_1_method_1_code
def yX11_init : MethodName := ⟨RX11, "<init>", "()V"⟩
abbrev cX11_worth : ByteArray := prog_1_method_2_code
def yX11_worth : MethodName := ⟨RX11, "worth", "(III)I"⟩
abbrev cX11_need : ByteArray := prog_1_method_3_code
def yX11_need : MethodName := ⟨RX11, "need", "(II)I"⟩
abbrev cX11_coming : ByteArray := prog_1_method_4_code
def yX11_coming : MethodName := ⟨RX11, "coming", "(I)I"⟩
abbrev cX11_joining : ByteArray := prog_1_method_5_code
def yX11_joining : MethodName := ⟨RX11, "joining", "(I)I"⟩
abbrev cX11_join : ByteArray := prog_1_method_6_code
def yX11_join : MethodName := ⟨RX11, "join", "(I)I"⟩
abbrev cX11_run : ByteArray := prog_1_method_7_code
def yX11_run : MethodName := ⟨RX11, "run", "(I)I"⟩
abbrev cX11_person : ByteArray := prog_1_method_8_code
def yX11_person : MethodName := ⟨RX11, "person", "(II)I"⟩
abbrev cX11_of : ByteArray := prog_1_method_9_code
def yX11_of : MethodName := ⟨RX11, "of", "(II)I"⟩
abbrev cX11_empty : ByteArray := prog_1_method_10_code
def yX11_empty : MethodName := ⟨RX11, "empty", "()I"⟩
abbrev cX11_write : ByteArray := prog_1_method_11_code
def yX11_write : MethodName := ⟨RX11, "write", "(JI)I"⟩
abbrev cX11_erase : ByteArray := prog_1_method_12_code
def yX11_erase : MethodName := ⟨RX11, "erase", "()I"⟩
abbrev cX11_fault : ByteArray := prog_1_method_13_code
def yX11_fault : MethodName := ⟨RX11, "fault", "()I"⟩
abbrev cX11_rules : ByteArray := prog_1_method_14_code
def yX11_rules : MethodName := ⟨RX11, "rules", "()I"⟩
abbrev cX11_rule : ByteArray := prog_1_method_15_code
def yX11_rule : MethodName := ⟨RX11, "rule", "(I)I"⟩
abbrev cX11_way : ByteArray := prog_1_method_16_code
def yX11_way : MethodName := ⟨RX11, "way", "(II)I"⟩
abbrev cX11_would : ByteArray := prog_1_method_17_code
def yX11_would : MethodName := ⟨RX11, "would", "(II)I"⟩
abbrev cX11_gain : ByteArray := prog_1_method_18_code
def yX11_gain : MethodName := ⟨RX11, "gain", "(II)I"⟩
abbrev cX11_best : ByteArray := prog_1_method_19_code
def yX11_best : MethodName := ⟨RX11, "best", "(II)I"⟩
abbrev cX11_rest : ByteArray := prog_1_method_20_code
def yX11_rest : MethodName := ⟨RX11, "rest", "(II)I"⟩
abbrev cX11_lot : ByteArray := prog_1_method_21_code
def yX11_lot : MethodName := ⟨RX11, "lot", "(IIIII)I"⟩
abbrev cX11_holder : ByteArray := prog_1_method_22_code
def yX11_holder : MethodName := ⟨RX11, "holder", "(II)I"⟩
abbrev cX11_swaps : ByteArray := prog_1_method_23_code
def yX11_swaps : MethodName := ⟨RX11, "swaps", "(I)I"⟩
abbrev cX11_rings : ByteArray := prog_1_method_24_code
def yX11_rings : MethodName := ⟨RX11, "rings", "()I"⟩
abbrev cX11_chain : ByteArray := prog_1_method_25_code
def yX11_chain : MethodName := ⟨RX11, "chain", "(II)I"⟩
abbrev cX11_mean : ByteArray := prog_1_method_26_code
def yX11_mean : MethodName := ⟨RX11, "mean", "(IIII)J"⟩
abbrev cX11_count : ByteArray := prog_1_method_27_code
def yX11_count : MethodName := ⟨RX11, "count", "(I)I"⟩
abbrev cX11_tryOut : ByteArray := prog_1_method_28_code
def yX11_tryOut : MethodName := ⟨RX11, "tryOut", "(ILThreeOffers$Rules;)V"⟩
abbrev cX11_within : ByteArray := prog_1_method_29_code
def yX11_within : MethodName := ⟨RX11, "within", "(III)Z"⟩
abbrev cX11_isSort : ByteArray := prog_1_method_30_code
def yX11_isSort : MethodName := ⟨RX11, "isSort", "(I)Z"⟩
abbrev cX11_isKind : ByteArray := prog_1_method_31_code
def yX11_isKind : MethodName := ⟨RX11, "isKind", "(I)Z"⟩
abbrev cX11_power : ByteArray := prog_1_method_32_code
def yX11_power : MethodName := ⟨RX11, "power", "(JI)J"⟩
abbrev cX11_lowest : ByteArray := prog_1_method_33_code
def yX11_lowest : MethodName := ⟨RX11, "lowest", "(JJI)J"⟩
abbrev cX11_commonDivisor : ByteArray := prog_1_method_34_code
def yX11_commonDivisor : MethodName := ⟨RX11, "commonDivisor", "(JJ)J"⟩
def RX12 : String := "ThreeOffersModel"
def TX12 : u_T := fun k => match k with
  | 0 => ("ThreeOffersModel", "worth", "[I", true)
  | 1 => ("ThreeOffersModel", "need", "[I", true)
  | 2 => ("ThreeOffersModel", "comings", "I", false)
  | 3 => ("ThreeOffersModel", "coming", "[I", true)
  | 4 => ("ThreeOffersModel", "joinings", "I", false)
  | 5 => ("ThreeOffersModel", "joining", "[I", true)
  | 6 => ("ThreeOffersModel", "now", "[I", true)
  | 7 => ("ThreeOffersModel", "kept", "[I", true)
  | 8 => ("ThreeOffersModel", "order", "[I", true)
  | 9 => ("ThreeOffersModel", "isOff", "[Z", true)
  | 10 => ("ThreeOffersModel", "bytes", "I", false)
  | 11 => ("ThreeOffersModel", "text", "[I", true)
  | 12 => ("ThreeOffersModel", "position", "I", false)
  | 13 => ("ThreeOffersModel", "tokenAt", "I", false)
  | 14 => ("ThreeOffersModel", "token", "J", false)
  | 15 => ("ThreeOffersModel", "digits", "I", false)
  | 16 => ("ThreeOffersModel", "number", "I", false)
  | 17 => ("ThreeOffersModel", "faultAt", "I", false)
  | 18 => ("ThreeOffersModel", "readMany", "I", false)
  | 19 => ("ThreeOffersModel", "read", "[I", true)
  | 20 => ("ThreeOffersModel", "rule", "[I", true)
  | 21 => ("ThreeOffersModel", "told", "[I", true)
  | 22 => ("ThreeOffersModel", "gains", "[I", true)
  | 23 => ("ThreeOffersModel", "row", "[I", true)
  | 24 => ("ThreeOffersModel", "left", "[I", true)
  | 25 => ("ThreeOffersModel", "holders", "I", false)
  | 26 => ("ThreeOffersModel", "holderSort", "[I", true)
  | 27 => ("ThreeOffersModel", "holderKind", "[I", true)
  | 28 => ("ThreeOffersModel", "pointsTo", "[I", true)
  | 29 => ("ThreeOffersModel", "gets", "[I", true)
  | 30 => ("ThreeOffersModel", "ringMany", "I", false)
  | _ => ("ThreeOffersModel", "longest", "[I", true)
def tyX12 : Nat → FieldType := fun k => match k with
  | 0 => .array .int
  | 1 => .array .int
  | 2 => .int
  | 3 => .array .int
  | 4 => .int
  | 5 => .array .int
  | 6 => .array .int
  | 7 => .array .int
  | 8 => .array .int
  | 9 => .array .boolean
  | 10 => .int
  | 11 => .array .int
  | 12 => .int
  | 13 => .int
  | 14 => .long
  | 15 => .int
  | 16 => .int
  | 17 => .int
  | 18 => .int
  | 19 => .array .int
  | 20 => .array .int
  | 21 => .array .int
  | 22 => .array .int
  | 23 => .array .int
  | 24 => .array .int
  | 25 => .int
  | 26 => .array .int
  | 27 => .array .int
  | 28 => .array .int
  | 29 => .array .int
  | 30 => .int
  | _ => .array .int
theorem nmX12 : ∀ a, a < 32 → ∀ b, b < 32 → a ≠ b → (TX12 a).2.1 ≠ (TX12 b).2.1 := by decide +kernel
theorem tyX12_ok : ∀ k, k < 32 → parseFieldDescriptor (TX12 k).2.2.1 = some (tyX12 k) := by decide +kernel
abbrev cX12_init : ByteArray := prog_14_method_1_code
def yX12_init : MethodName := ⟨RX12, "<init>", "()V"⟩
abbrev cX12_firstRules : ByteArray := prog_14_method_2_code
def yX12_firstRules : MethodName := ⟨RX12, "firstRules", "([I)V"⟩
abbrev cX12_in : ByteArray := prog_14_method_3_code
def yX12_in : MethodName := ⟨RX12, "in", "(III)Z"⟩
abbrev cX12_isFour : ByteArray := prog_14_method_4_code
def yX12_isFour : MethodName := ⟨RX12, "isFour", "(I)Z"⟩
abbrev cX12_worth : ByteArray := prog_14_method_5_code
def yX12_worth : MethodName := ⟨RX12, "worth", "(III)I"⟩
abbrev cX12_need : ByteArray := prog_14_method_6_code
def yX12_need : MethodName := ⟨RX12, "need", "(II)I"⟩
abbrev cX12_coming : ByteArray := prog_14_method_7_code
def yX12_coming : MethodName := ⟨RX12, "coming", "(I)I"⟩
abbrev cX12_joining : ByteArray := prog_14_method_8_code
def yX12_joining : MethodName := ⟨RX12, "joining", "(I)I"⟩
abbrev cX12_add : ByteArray := prog_14_method_9_code
def yX12_add : MethodName := ⟨RX12, "add", "(I)V"⟩
abbrev cX12_join : ByteArray := prog_14_method_10_code
def yX12_join : MethodName := ⟨RX12, "join", "(I)I"⟩
abbrev cX12_isAhead : ByteArray := prog_14_method_11_code
def yX12_isAhead : MethodName := ⟨RX12, "isAhead", "(II)Z"⟩
abbrev cX12_findOrder : ByteArray := prog_14_method_12_code
def yX12_findOrder : MethodName := ⟨RX12, "findOrder", "()V"⟩
abbrev cX12_doesTake : ByteArray := prog_14_method_13_code
def yX12_doesTake : MethodName := ⟨RX12, "doesTake", "(II)Z"⟩
abbrev cX12_offer : ByteArray := prog_14_method_14_code
def yX12_offer : MethodName := ⟨RX12, "offer", "(I)V"⟩
abbrev cX12_goWeek : ByteArray := prog_14_method_15_code
def yX12_goWeek : MethodName := ⟨RX12, "goWeek", "()V"⟩
abbrev cX12_run : ByteArray := prog_14_method_16_code
def yX12_run : MethodName := ⟨RX12, "run", "(I)I"⟩
abbrev cX12_person : ByteArray := prog_14_method_17_code
def yX12_person : MethodName := ⟨RX12, "person", "(II)I"⟩
abbrev cX12_of : ByteArray := prog_14_method_18_code
def yX12_of : MethodName := ⟨RX12, "of", "(II)I"⟩
abbrev cX12_empty : ByteArray := prog_14_method_19_code
def yX12_empty : MethodName := ⟨RX12, "empty", "()I"⟩
abbrev cX12_write : ByteArray := prog_14_method_20_code
def yX12_write : MethodName := ⟨RX12, "write", "(JI)I"⟩
abbrev cX12_erase : ByteArray := prog_14_method_21_code
def yX12_erase : MethodName := ⟨RX12, "erase", "()I"⟩
abbrev cX12_nextToken : ByteArray := prog_14_method_22_code
def yX12_nextToken : MethodName := ⟨RX12, "nextToken", "()V"⟩
abbrev cX12_fails : ByteArray := prog_14_method_23_code
def yX12_fails : MethodName := ⟨RX12, "fails", "()Z"⟩
abbrev cX12_isNumber : ByteArray := prog_14_method_24_code
def yX12_isNumber : MethodName := ⟨RX12, "isNumber", "(II)Z"⟩
abbrev cX12_isOf : ByteArray := prog_14_method_25_code
def yX12_isOf : MethodName := ⟨RX12, "isOf", "(IJJJ)Z"⟩
abbrev cX12_isWay : ByteArray := prog_14_method_26_code
def yX12_isWay : MethodName := ⟨RX12, "isWay", "()Z"⟩
abbrev cX12_isLine : ByteArray := prog_14_method_27_code
def yX12_isLine : MethodName := ⟨RX12, "isLine", "()Z"⟩
abbrev cX12_isRead : ByteArray := prog_14_method_28_code
def yX12_isRead : MethodName := ⟨RX12, "isRead", "()Z"⟩
abbrev cX12_fault : ByteArray := prog_14_method_29_code
def yX12_fault : MethodName := ⟨RX12, "fault", "()I"⟩
abbrev cX12_rules : ByteArray := prog_14_method_30_code
def yX12_rules : MethodName := ⟨RX12, "rules", "()I"⟩
abbrev cX12_rule : ByteArray := prog_14_method_31_code
def yX12_rule : MethodName := ⟨RX12, "rule", "(I)I"⟩
abbrev cX12_way : ByteArray := prog_14_method_32_code
def yX12_way : MethodName := ⟨RX12, "way", "(II)I"⟩
abbrev cX12_keepRules : ByteArray := prog_14_method_33_code
def yX12_keepRules : MethodName := ⟨RX12, "keepRules", "()V"⟩
abbrev cX12_layBackRules : ByteArray := prog_14_method_34_code
def yX12_layBackRules : MethodName := ⟨RX12, "layBackRules", "()V"⟩
abbrev cX12_goOn : ByteArray := prog_14_method_35_code
def yX12_goOn : MethodName := ⟨RX12, "goOn", "(I)V"⟩
abbrev cX12_layBack : ByteArray := prog_14_method_36_code
def yX12_layBack : MethodName := ⟨RX12, "layBack", "()V"⟩
abbrev cX12_more : ByteArray := prog_14_method_37_code
def yX12_more : MethodName := ⟨RX12, "more", "(I)I"⟩
abbrev cX12_would : ByteArray := prog_14_method_38_code
def yX12_would : MethodName := ⟨RX12, "would", "(II)I"⟩
abbrev cX12_gainOf : ByteArray := prog_14_method_39_code
def yX12_gainOf : MethodName := ⟨RX12, "gainOf", "(I)I"⟩
abbrev cX12_gain : ByteArray := prog_14_method_40_code
def yX12_gain : MethodName := ⟨RX12, "gain", "(II)I"⟩
abbrev cX12_best : ByteArray := prog_14_method_41_code
def yX12_best : MethodName := ⟨RX12, "best", "(II)I"⟩
abbrev cX12_findGains : ByteArray := prog_14_method_42_code
def yX12_findGains : MethodName := ⟨RX12, "findGains", "(I)V"⟩
abbrev cX12_isAtRest : ByteArray := prog_14_method_43_code
def yX12_isAtRest : MethodName := ⟨RX12, "isAtRest", "(I)Z"⟩
abbrev cX12_rest : ByteArray := prog_14_method_44_code
def yX12_rest : MethodName := ⟨RX12, "rest", "(II)I"⟩
abbrev cX12_divisor : ByteArray := prog_14_method_45_code
def yX12_divisor : MethodName := ⟨RX12, "divisor", "(JJ)J"⟩
abbrev cX12_part : ByteArray := prog_14_method_46_code
def yX12_part : MethodName := ⟨RX12, "part", "(JJI)I"⟩
abbrev cX12_lotOf : ByteArray := prog_14_method_47_code
def yX12_lotOf : MethodName := ⟨RX12, "lotOf", "(III)I"⟩
abbrev cX12_lot : ByteArray := prog_14_method_48_code
def yX12_lot : MethodName := ⟨RX12, "lot", "(IIIII)I"⟩
abbrev cX12_holder : ByteArray := prog_14_method_49_code
def yX12_holder : MethodName := ⟨RX12, "holder", "(II)I"⟩
abbrev cX12_worthTo : ByteArray := prog_14_method_50_code
def yX12_worthTo : MethodName := ⟨RX12, "worthTo", "(II)I"⟩
abbrev cX12_swapAll : ByteArray := prog_14_method_51_code
def yX12_swapAll : MethodName := ⟨RX12, "swapAll", "()V"⟩
abbrev cX12_swaps : ByteArray := prog_14_method_52_code
def yX12_swaps : MethodName := ⟨RX12, "swaps", "(I)I"⟩
abbrev cX12_rings : ByteArray := prog_14_method_53_code
def yX12_rings : MethodName := ⟨RX12, "rings", "()I"⟩
abbrev cX12_wouldGo : ByteArray := prog_14_method_54_code
def yX12_wouldGo : MethodName := ⟨RX12, "wouldGo", "(II)Z"⟩
abbrev cX12_chain : ByteArray := prog_14_method_55_code
def yX12_chain : MethodName := ⟨RX12, "chain", "(II)I"⟩
abbrev cX12_mean : ByteArray := prog_14_method_56_code
def yX12_mean : MethodName := ⟨RX12, "mean", "(IIII)J"⟩
abbrev cX12_count : ByteArray := prog_14_method_57_code
def yX12_count : MethodName := ⟨RX12, "count", "(I)I"⟩
def RJ6 : String := "java/lang/Integer"
abbrev cJ6_numberOfTrailingZeros_0f7a4 : ByteArray := prog_15_method_48_code
def yJ6_numberOfTrailingZeros_0f7a4 : MethodName := ⟨RJ6, "numberOfTrailingZeros", "(I)I"⟩
def RJ9 : String := "java/lang/Math"
abbrev cJ9_min_7cf53 : ByteArray := prog_16_method_69_code
def yJ9_min_7cf53 : MethodName := ⟨RJ9, "min", "(II)I"⟩
def RJ0 : String := "java/lang/String"
abbrev cJ0_length_8abf5 : ByteArray := prog_17_method_54_code
def yJ0_length_8abf5 : MethodName := ⟨RJ0, "length", "()I"⟩
abbrev cJ0_charAt_5068e : ByteArray := prog_17_method_56_code
def yJ0_charAt_5068e : MethodName := ⟨RJ0, "charAt", "(I)C"⟩
abbrev cJ0_coder_7d493 : ByteArray := prog_17_method_152_code
def yJ0_coder_7d493 : MethodName := ⟨RJ0, "coder", "()B"⟩
abbrev cJ0_isLatin1_aae02 : ByteArray := prog_17_method_154_code
def yJ0_isLatin1_aae02 : MethodName := ⟨RJ0, "isLatin1", "()Z"⟩
abbrev cJ0_checkIndex_df160 : ByteArray := prog_17_method_155_code
def yJ0_checkIndex_df160 : MethodName := ⟨RJ0, "checkIndex", "(II)V"⟩
def RJ1 : String := "java/lang/StringLatin1"
abbrev cJ1_charAt_3b067 : ByteArray := prog_18_method_2_code
def yJ1_charAt_3b067 : MethodName := ⟨RJ1, "charAt", "([BI)C"⟩
def RJ2 : String := "java/lang/StringUTF16"
abbrev cJ2_getChar_3b067 : ByteArray := prog_19_method_5_code
def yJ2_getChar_3b067 : MethodName := ⟨RJ2, "getChar", "([BI)C"⟩
abbrev cJ2_length_9d52b : ByteArray := prog_19_method_6_code
def yJ2_length_9d52b : MethodName := ⟨RJ2, "length", "([B)I"⟩
abbrev cJ2_charAt_3b067 : ByteArray := prog_19_method_83_code
def yJ2_charAt_3b067 : MethodName := ⟨RJ2, "charAt", "([BI)C"⟩
abbrev cJ2_checkIndex_2214a : ByteArray := prog_19_method_91_code
def yJ2_checkIndex_2214a : MethodName := ⟨RJ2, "checkIndex", "(I[B)V"⟩
def RJ10 : String := "java/lang/System"
def RJ7 : String := "java/util/Arrays"
abbrev cJ7_fill_53178 : ByteArray := prog_21_method_103_code
def yJ7_fill_53178 : MethodName := ⟨RJ7, "fill", "([II)V"⟩
def RJ3 : String := "jdk/internal/util/Preconditions"
abbrev cJ3_checkIndex_8e157 : ByteArray := prog_22_method_11_code
def yJ3_checkIndex_8e157 : MethodName := ⟨RJ3, "checkIndex", "(IILjava/util/function/BiFunction;)I"⟩
def RL : String := "ThreeOffersLaw"
abbrev cL_law : ByteArray := code
def yL_law : MethodName := ⟨RL, "law", "([I)Z"⟩
abbrev vwCl : List vw_C := [(RX0, TX0, 4), (RX1, TX1, 7), (RX2, TX2, 4), (RX3, TX3, 4), (RX4, TX4, 5), (RX5, TX5, 6), (RX6, TX6, 2), (RX7, TX7, 7), (RX8, TX8, 3), (RX9, TX9, 6), (RX10, TX10, 4), (RX11, TX11, 11), (RX12, TX12, 32)]
end
section
-- the state of the whole system, in numbers: what a heap of the machine says
def lw_all : List Cond := lw_tbl.filter goodWord
theorem lw_all_in {w : Cond} {k : Nat} (h : lw_tbl[k]? = some w) (hg : goodWord w = true) : w ∈ lw_all := List.mem_filter.mpr ⟨List.mem_of_getElem? h, hg⟩
theorem lw_all_good (y : Cond) (hy : y ∈ lw_all) : GoodIn (y :: lw_all) (y :: lw_all) := fun w hw => ⟨hw, good_of_word (List.mem_filter.mp ((List.mem_cons.mp hw).elim (fun e => e ▸ hy) id)).2⟩
def ab_shl : List (Nat × Nat) := [(11, 11), (10, 4), (23, 4), (20, 4), (20, 4), (20, 4), (20, 4), (20, 4), (6, 2), (20, 24), (6, 2), (20, 24), (7, 7), (20, 4), (20, 4), (20, 4), (7, 7), (20, 4), (20, 4), (20, 4), (9, 6), (21, 160), (1, 7), (24, 12), (23, 6), (20, 4), (20, 4), (20, 4), (20, 4), (20, 4), (20, 4), (4, 5), (4, 5), (4, 5), (4, 5), (4, 5), (4, 5), (4, 5), (4, 5), (4, 5), (4, 5), (4, 5), (4, 5), (1, 7), (24, 12), (23, 6), (20, 4), (20, 4), (20, 4), (20, 4), (20, 4), (20, 4), (4, 5), (4, 5), (4, 5), (4, 5), (4, 5), (4, 5), (4, 5), (4, 5), (4, 5), (4, 5), (4, 5), (4, 5), (5, 6), (20, 2500), (23, 4), (20, 5), (20, 5), (20, 5), (20, 5), (20, 625), (3, 4), (20, 6), (20, 4), (2, 4), (20, 8), (20, 8), (8, 3), (20, 8), (0, 4), (20, 8), (20, 8), (12, 32), (20, 16), (20, 4), (20, 24), (20, 24), (20, 88), (20, 88), (20, 12), (22, 12), (20, 160), (20, 16), (20, 16), (20, 16), (20, 2500), (20, 6), (20, 4), (20, 8), (20, 8), (20, 8), (20, 8), (20, 2048)]
def ab_sh (i : Nat) : Nat × Nat := ab_shl.getD (i - 1) (0, 0)
def ab_ty (k : Nat) : Nat → FieldType := match k with
  | 0 => tyX0
  | 1 => tyX1
  | 2 => tyX2
  | 3 => tyX3
  | 4 => tyX4
  | 5 => tyX5
  | 6 => tyX6
  | 7 => tyX7
  | 8 => tyX8
  | 9 => tyX9
  | 10 => tyX10
  | 11 => tyX11
  | 12 => tyX12
  | _ => fun _ => .int
def ab_six (i : Nat) : Nat := [46, 48, 50, 52, 60, 68, 70, 71, 73, 77, 81, 86, 88, 90, 40].getD i 0
def ab_stx (i : Nat) : String := ["order", "time", "need", "points", "noes", "then", "end", "back", "stay", "grow", "way", "any", "bar", "fall", ";"].getD i ""
def ab_len : List Nat := [5, 4, 4, 6, 4, 4, 3, 4, 4, 4, 3, 3, 3, 4, 1]
def ab_byt : List (List Int32) := [[111, 114, 100, 101, 114], [116, 105, 109, 101], [110, 101, 101, 100], [112, 111, 105, 110, 116, 115], [110, 111, 101, 115], [116, 104, 101, 110], [101, 110, 100], [98, 97, 99, 107], [115, 116, 97, 121], [103, 114, 111, 119], [119, 97, 121], [97, 110, 121], [98, 97, 114], [102, 97, 108, 108], [59]]
abbrev ab_V : Type := Int ⊕ (Int ⊕ Nat)
abbrev ab_i (z : Int) : ab_V := Sum.inl z
abbrev ab_l (z : Int) : ab_V := Sum.inr (Sum.inl z)
abbrev ab_r (i : Nat) : ab_V := Sum.inr (Sum.inr i)
-- launch; class ids; slots; array class ids; the last old address; addresses of old cells; the script's length and values
abbrev ab_G : Type := Launch × (Nat → ClassId) × (Nat → Nat → Nat) × (Nat → ClassId) × Nat × (Nat → Nat) × Nat × (Nat → Int32)
abbrev ab_B (G : ab_G) : Nat := G.2.2.2.2.1
abbrev ab_ax (G : ab_G) : Nat → Nat := G.2.2.2.2.2.1
abbrev ab_cT (G : ab_G) : Nat → ClassId := G.2.2.2.1
abbrev ab_L (G : ab_G) : Nat := G.2.2.2.2.2.2.1
abbrev ab_xs (G : ab_G) : Nat → Int32 := G.2.2.2.2.2.2.2
-- how many cells are made; what ints and longs they hold; what references
abbrev ab_H : Type := Nat × (Nat → Nat → Int) × (Nat → Nat → Nat)
abbrev ab_Y : Type := MethodName × ByteArray × Nat × Option FieldType
def ab_ad (G : ab_G) (i : Nat) : Nat := if i < 1000 then ab_B G + i else ab_ax G i
def ab_rv (G : ab_G) (r : Nat) : Value := if r = 0 then .null else .ref (ab_ad G r)
def ab_c (G : ab_G) : ab_V → Value
  | .inl z => .int (Int32.ofInt z)
  | .inr (.inl z) => .long (Int64.ofInt z)
  | .inr (.inr r) => ab_rv G r
def ab_sv (G : ab_G) (t : Nat) (x : Int) (r : Nat) : Value := match t with
  | 0 => .int (Int32.ofInt x)
  | 1 => ab_rv G r
  | _ => .long (Int64.ofInt x)
def ab_tag (t : FieldType) : Nat := match t with
  | .long => 2
  | .object _ => 1
  | .array _ => 1
  | _ => 0
def ab_et (k : Nat) : FieldType := match k with
  | 20 => .int
  | 21 => .char
  | 22 => .boolean
  | 23 => .array .int
  | _ => .object "ThreeOffers$Person"
def ab_u (I : Nat → Nat → Int) (i j : Nat) (v : Int) : Nat → Nat → Int := fun a b => if a = i ∧ b = j then v else I a b
def ab_w (R : Nat → Nat → Nat) (i j : Nat) (v : Nat) : Nat → Nat → Nat := fun a b => if a = i ∧ b = j then v else R a b
def ab_cell (G : ab_G) (I : Nat → Nat → Int) (R : Nat → Nat → Nat) (i : Nat) (H : Heap) : Prop :=
  if (ab_sh i).1 < 20 then ∃ q : vw_C, vwCl[(ab_sh i).1]? = some q ∧ t_OB (ab_ad G i) (G.2.1 (ab_sh i).1) q.2.2 (G.2.2.1 (ab_sh i).1) H (fun j => ab_sv G (ab_tag (ab_ty (ab_sh i).1 j)) (I i j) (R i j))
  else H[ab_ad G i]? = some (arrV (ab_cT G (ab_sh i).1) (ab_sh i).2 (fun j => ab_sv G (ab_tag (ab_et (ab_sh i).1)) (I i j) (R i j)))
def ab_Rep (G : ab_G) (h : ab_H) (H : Heap) : Prop := h.1 < 1000 ∧ H.size = ab_B G + h.1 + 1 ∧ ∀ i, 1 ≤ i → i ≤ h.1 → ab_cell G h.2.1 h.2.2 i H
def ab_A (G : ab_G) : Nat → Prop := fun q => ab_B G < q
def ab_tys (G : ab_G) : List (ClassId × FieldType) := [(ab_cT G 20, .int), (ab_cT G 21, .char), (ab_cT G 22, .boolean), (ab_cT G 23, .array .int), (ab_cT G 24, .object "ThreeOffers$Person")]
def ab_fig (j : Nat) : Int := [1, 5, 25, 125].getD j 0
def ab_fac (j : Nat) : Int := [1, 1, 2, 6, 24, 120, 720].getD j 0
def ab_St (G : ab_G) (U : State) (H : Heap) : Prop :=
  va_Z "ThreeOffers" "FIGURES" "[I" (.ref (ab_ax G 1000)) (ab_A G) U H ∧ va_T .int (ab_ax G 1000) 4 (fun j => .int (Int32.ofInt (ab_fig j))) (ab_A G) U H ∧
  va_Z "ThreeOffers" "FACTORIALS" "[I" (.ref (ab_ax G 1001)) (ab_A G) U H ∧ va_T .int (ab_ax G 1001) 7 (fun j => .int (Int32.ofInt (ab_fac j))) (ab_A G) U H ∧
  vk_S 15 ab_len ab_byt (fun i => ab_ax G (1100 + i)) (fun i => ab_ax G (1200 + i)) (ab_A G) U H ∧
  va_Z "java/lang/String" "COMPACT_STRINGS" "Z" (.int 1) (ab_A G) U H ∧
  (va_X (ab_ax G 1002) (ab_L G) (ab_xs G) U H ∧ ab_ax G 1002 ≤ ab_B G)
def ab_Gl (G : ab_G) (U : State) : Prop :=
  va_K (G.2.1, G.2.2.1) vwCl (ab_tys G) U ∧ ab_St G U U.heap ∧ (∀ i, i < 15 → vk_R "ThreeOffers$Text" (ab_six i) (ab_stx i) (ab_ax G (1100 + i)) U) ∧ ab_B G < U.heap.size
theorem ab_St.moved {G : ab_G} {s U : State} {H : Heap} (hal : s.vm.Alike U.vm) (h : ab_St G s H) : ab_St G U H :=
  ⟨h.1.moved hal, h.2.1.moved hal, h.2.2.1.moved hal, h.2.2.2.1.moved hal, h.2.2.2.2.1.moved hal, h.2.2.2.2.2.1.moved hal, h.2.2.2.2.2.2.1.moved hal, h.2.2.2.2.2.2.2⟩
theorem ab_St.kept {G : ab_G} {U : State} {H H1 : Heap} (hq : ∀ q : Nat, q ≤ ab_B G → H1[q]? = H[q]?) (h : ab_St G U H) : ab_St G U H1 := by
  have hq' : ∀ a : Nat, a < H.size → ¬ ab_A G a → H1[a]? = H[a]? := fun a _ ha => hq a (Nat.not_lt.mp ha)
  exact ⟨h.1.kept hq', h.2.1.kept hq', h.2.2.1.kept hq', h.2.2.2.1.kept hq', h.2.2.2.2.1.kept hq', h.2.2.2.2.2.1.kept hq', h.2.2.2.2.2.2.1.kept (hq _ h.2.2.2.2.2.2.2), h.2.2.2.2.2.2.2⟩
theorem ab_Gl.warm {G : ab_G} {s U : State} (hW : s.WarmedH U.vm) (hq : ∀ q : Nat, q ≤ ab_B G → U.heap[q]? = s.heap[q]?) (hb : ab_B G < U.heap.size) (h : ab_Gl G s) : ab_Gl G U :=
  ⟨h.1.moved hW.alike, (h.2.1.moved hW.alike).kept hq, fun i hi => (h.2.2.1 i hi).warm hW, hb⟩
theorem ab_Gl.same {G : ab_G} {s U : State} (hv : U.vm = s.vm) (hh : U.heap = s.heap) (h : ab_Gl G s) : ab_Gl G U := by
  refine ⟨h.1.moved (hv ▸ Vm.Alike.refl _), ?_, fun i hi => (h.2.2.1 i hi).same hv, by rw [hh]; exact h.2.2.2⟩
  rw [hh]
  exact h.2.1.moved (hv ▸ Vm.Alike.refl _)
-- locals
def ab_lo (G : ab_G) : Nat → List (Option ab_V) → List (Nat × Value)
  | _, [] => []
  | k, none :: t => ab_lo G (k + 1) t
  | k, some v :: t => (k, ab_c G v) :: ab_lo G (k + 1) t
theorem ab_lo_at {G : ab_G} : ∀ {ls : List (Option ab_V)} {k j : Nat} {v : ab_V}, ls[j]? = some (some v) → (k + j, ab_c G v) ∈ ab_lo G k ls
  | [], k, j, v, h => by simp at h
  | none :: t, k, 0, v, h => by simp at h
  | some w :: t, k, 0, v, h => by
    simp at h
    subst h
    exact List.mem_cons_self
  | none :: t, k, j + 1, v, h => by
    have := ab_lo_at (G := G) (ls := t) (k := k + 1) (j := j) (v := v) (by simpa using h)
    rw [show k + (j + 1) = k + 1 + j by omega]
    exact this
  | some w :: t, k, j + 1, v, h => by
    have := ab_lo_at (G := G) (ls := t) (k := k + 1) (j := j) (v := v) (by simpa using h)
    rw [show k + (j + 1) = k + 1 + j by omega]
    exact List.mem_cons_of_mem _ this
theorem ab_lo_of {G : ab_G} : ∀ {ls : List (Option ab_V)} {k : Nat} {q : Nat × Value}, q ∈ ab_lo G k ls → ∃ (j : Nat) (v : ab_V), ls[j]? = some (some v) ∧ q = (k + j, ab_c G v)
  | [], k, q, h => by simp [ab_lo] at h
  | none :: t, k, q, h => by
    obtain ⟨j, v, h1, h2⟩ := ab_lo_of (ls := t) (k := k + 1) h
    exact ⟨j + 1, v, by simpa using h1, by rw [h2]; congr 1; omega⟩
  | some w :: t, k, q, h => by
    rcases List.mem_cons.mp h with h | h
    · exact ⟨0, w, rfl, h⟩
    · obtain ⟨j, v, h1, h2⟩ := ab_lo_of (ls := t) (k := k + 1) h
      exact ⟨j + 1, v, by simpa using h1, by rw [h2]; congr 1; omega⟩
def ab_isl : Option ab_V → Bool
  | some (.inr (.inl _)) => true
  | _ => false
def ab_clr (ls : List (Option ab_V)) (i : Nat) : List (Option ab_V) := match i with
  | 0 => ls
  | i + 1 => match ls[i]? with
    | some (some (.inr (.inl _))) => ls.set i none
    | _ => ls
def ab_st1 (ls : List (Option ab_V)) (i : Nat) (v : ab_V) : List (Option ab_V) := (ab_clr ls i).set i (some v)
def ab_st2 (ls : List (Option ab_V)) (i : Nat) (v : ab_V) : List (Option ab_V) := ((ab_clr ls i).set i (some v)).set (i + 1) none
theorem ab_clr_at {ls : List (Option ab_V)} {i j : Nat} {v : ab_V} (h : (ab_clr ls i)[j]? = some (some v)) : ls[j]? = some (some v) ∧ ¬ (j + 1 = i ∧ ab_isl (some v) = true) := by
  cases i with
  | zero => exact ⟨h, by omega⟩
  | succ i =>
    unfold ab_clr at h
    simp only at h
    split at h
    · rename_i w hw
      by_cases hij : i = j
      · subst hij
        rw [List.getElem?_set_self (List.getElem?_eq_some_iff.mp hw).1] at h
        simp at h
      · rw [List.getElem?_set_ne hij] at h
        exact ⟨h, by omega⟩
    · rename_i hne
      refine ⟨h, fun ⟨h1, h2⟩ => ?_⟩
      have h1 : j = i := by omega
      subst h1
      match v, h2 with
      | .inr (.inl z), _ => exact hne z h
theorem ab_cat (G : ab_G) (v : ab_V) : (ab_c G v).category = if ab_isl (some v) = true then 2 else 1 := by
  match v with
  | .inl z => rfl
  | .inr (.inl z) => rfl
  | .inr (.inr r) =>
    show (ab_rv G r).category = _
    unfold ab_rv
    split <;> rfl
theorem ab_has1 {G : ab_G} {ls : List (Option ab_V)} {nL i : Nat} {v : ab_V} {l' : Array Slot} (h : lv_has l' nL ((i, ab_c G v) :: (ab_lo G 0 ls).filter (fun q => !(q.1 == i) && !(q.1 + 1 == i && q.2.category == 2)))) : lv_has l' nL (ab_lo G 0 (ab_st1 ls i v)) := by
  refine ⟨h.1, h.2.1, fun q hq => ?_⟩
  obtain ⟨j, w, hj, rfl⟩ := ab_lo_of hq
  apply h.2.2
  unfold ab_st1 at hj
  by_cases hij : i = j
  · subst hij
    have hl := (List.getElem?_eq_some_iff.mp hj).1
    rw [List.length_set] at hl
    rw [List.getElem?_set_self hl] at hj
    cases hj
    rw [Nat.zero_add]
    exact List.mem_cons_self
  · rw [List.getElem?_set_ne hij] at hj
    obtain ⟨h1, h2⟩ := ab_clr_at hj
    refine List.mem_cons_of_mem _ (List.mem_filter.mpr ⟨ab_lo_at h1, ?_⟩)
    have hc := ab_cat G w
    simp only [Nat.zero_add, Bool.and_eq_true, Bool.not_eq_true', beq_eq_false_iff_ne, ne_eq, Bool.and_eq_false_iff]
    refine ⟨fun e => hij e.symm, ?_⟩
    by_cases e : j + 1 = i
    · right
      intro e2
      rw [hc] at e2
      split at e2
      · rename_i e3; exact h2 ⟨e, e3⟩
      · cases e2
    · left; exact e
theorem ab_has2 {G : ab_G} {ls : List (Option ab_V)} {nL i : Nat} {v : ab_V} {l' : Array Slot} (h : lv_has l' nL ((i, ab_c G v) :: (ab_lo G 0 ls).filter (fun q => !(q.1 == i) && (!(q.1 == i + 1) && !(q.1 + 1 == i && q.2.category == 2))))) : lv_has l' nL (ab_lo G 0 (ab_st2 ls i v)) := by
  refine ⟨h.1, h.2.1, fun q hq => ?_⟩
  obtain ⟨j, w, hj, rfl⟩ := ab_lo_of hq
  apply h.2.2
  unfold ab_st2 at hj
  by_cases hij1 : i + 1 = j
  · subst hij1
    have hl := (List.getElem?_eq_some_iff.mp hj).1
    rw [List.length_set] at hl
    rw [List.getElem?_set_self hl] at hj
    cases hj
  · rw [List.getElem?_set_ne hij1] at hj
    by_cases hij : i = j
    · subst hij
      have hl := (List.getElem?_eq_some_iff.mp hj).1
      rw [List.length_set] at hl
      rw [List.getElem?_set_self hl] at hj
      cases hj
      rw [Nat.zero_add]
      exact List.mem_cons_self
    · rw [List.getElem?_set_ne hij] at hj
      obtain ⟨h1, h2⟩ := ab_clr_at hj
      refine List.mem_cons_of_mem _ (List.mem_filter.mpr ⟨ab_lo_at h1, ?_⟩)
      have hc := ab_cat G w
      simp only [Nat.zero_add, Bool.and_eq_true, Bool.not_eq_true', beq_eq_false_iff_ne, ne_eq, Bool.and_eq_false_iff]
      refine ⟨fun e => hij e.symm, fun e => hij1 e.symm, ?_⟩
      by_cases e : j + 1 = i
      · right
        intro e2
        rw [hc] at e2
        split at e2
        · rename_i e3; exact h2 ⟨e, e3⟩
        · cases e2
      · left; exact e
theorem ab_has_ld {G : ab_G} {ls : List (Option ab_V)} {nL i : Nat} {v : ab_V} {l' : Array Slot} (h : lv_has l' nL (ab_lo G 0 ls)) (hi : ls[i]? = some (some v)) : l'[i]? = some (.val (ab_c G v)) := by
  have := h.2.2 _ (ab_lo_at (G := G) (k := 0) hi)
  rwa [Nat.zero_add] at this
-- fewer known locals
def ab_le : List (Option ab_V) → List (Option ab_V) → Prop := fun a b => ∀ (j : Nat) (v : ab_V), a[j]? = some (some v) → b[j]? = some (some v)
theorem ab_has_le {G : ab_G} {a b : List (Option ab_V)} {nL : Nat} {l' : Array Slot} (h : lv_has l' nL (ab_lo G 0 b)) (hab : ab_le a b) : lv_has l' nL (ab_lo G 0 a) := by
  refine ⟨h.1, h.2.1, fun q hq => ?_⟩
  obtain ⟨j, w, hj, rfl⟩ := ab_lo_of hq
  exact h.2.2 _ (ab_lo_at (hab j w hj))
-- the locals at a method's entry
def ab_en : List ab_V → List (Option ab_V)
  | [] => []
  | .inr (.inl z) :: t => some (.inr (.inl z)) :: none :: ab_en t
  | v :: t => some v :: ab_en t
theorem ab_en_args (G : ab_G) : ∀ (as : List ab_V) (k : Nat), lv_args k (as.map (ab_c G)) = ab_lo G k (ab_en as)
  | [], k => rfl
  | .inl z :: t, k => by
    show (k, _) :: lv_args (k + 1) _ = _
    rw [ab_en_args G t (k + 1)]; rfl
  | .inr (.inl z) :: t, k => by
    show (k, _) :: lv_args (k + 2) _ = _
    rw [ab_en_args G t (k + 2)]; rfl
  | .inr (.inr r) :: t, k => by
    have hc : ¬ (ab_c G (.inr (.inr r))).category = 2 := by rw [ab_cat, if_neg (by simp [ab_isl])]; decide
    show (k, _) :: lv_args (if (ab_c G (.inr (.inr r))).category = 2 then k + 2 else k + 1) _ = _
    rw [if_neg hc, ab_en_args G t (k + 1)]; rfl
theorem ab_en_len (G : ab_G) : ∀ (as : List ab_V), (lg_sl (as.map (ab_c G))).length = (ab_en as).length
  | [] => rfl
  | .inl z :: t => by
    have := ab_en_len G t
    simp [lg_sl, ab_en, ab_c, Value.category] at this ⊢
    omega
  | .inr (.inl z) :: t => by
    have := ab_en_len G t
    simp [lg_sl, ab_en, ab_c, Value.category] at this ⊢
    omega
  | .inr (.inr r) :: t => by
    have := ab_en_len G t
    have hc : ¬ (ab_rv G r).category = 2 := by unfold ab_rv; split <;> simp [Value.category]
    simp [lg_sl, ab_en, ab_c, hc] at this ⊢
    omega
theorem ab_lo_pad (G : ab_G) (ls : List (Option ab_V)) (n : Nat) {l' : Array Slot} {nL : Nat} (h : lv_has l' nL (ab_lo G 0 ls)) : lv_has l' nL (ab_lo G 0 (ls ++ List.replicate n none)) := by
  refine ab_has_le h (fun j v hj => ?_)
  by_cases hl : j < ls.length
  · rw [List.getElem?_append_left hl] at hj; exact hj
  · rw [List.getElem?_append_right (by omega)] at hj
    have := List.mem_of_getElem? hj
    have := (List.mem_replicate.mp this).2
    cases this
end
section
def ab_rm (d mc ms : Nat) : Room := { frames := d, cells := mc, slots := ms, locals := 64 * d }
def ab_Cx (G : ab_G) (Y : ab_Y) (p : Program) (s : State) (m : MethodId) (args : Array Value) (meth : Method) (c : Code) : Prop :=
  p.tables.exec = Jvm.exec ∧ c.code = Y.2.1 ∧ meth.sig.returnType = Y.2.2.2 ∧ c.maxLocals = Y.2.2.1 ∧ s.vm.findClass Y.1.cls = some m.cls ∧ (∀ w ∈ lw_all, w.before args s = true) ∧ meth.locks = false ∧ meth.name = Y.1.name ∧ ab_Gl G s
abbrev ab_Zt : Type := List Frame → Array Value → State → State → Prop
/-- from this point of the method Y, with the heap h, the locals ls and the stack st, the machine comes to Z -/
def aW (G : ab_G) (Y : ab_Y) (R : Room) (Z : ab_Zt) (kc ks : Nat) (h : ab_H) (pc : Nat) (ls : List (Option ab_V)) (st : List ab_V) : Prop :=
  ∀ (p : Program) (e : Env) (s : State) (m : MethodId) (args : Array Value) (below : List Frame) (meth : Method) (c : Code), ab_Cx G Y p s m args meth c → ∀ (H : Heap) (locs : List Loc) (lsr : Array Slot), ab_Rep G h H → (∀ q : Nat, q ≤ ab_B G → H[q]? = s.heap[q]?) → (∀ q ∈ locs, ab_B G < q.base) → lv_has lsr Y.2.2.1 (ab_lo G 0 ls) → W p G.1 e R s m args below meth c H locs kc ks (Z below args s) (F0 m pc lsr (st.map (ab_c G)))
def ab_In (z : Int) : Prop := -2147483648 ≤ z ∧ z < 2147483648
def ab_Il (z : Int) : Prop := -9223372036854775808 ≤ z ∧ z < 9223372036854775808
theorem ab_to {z : Int} (h : ab_In z) : (Int32.ofInt z).toInt = z := Int32.toInt_ofInt_of_le h.1 h.2
theorem ab_tol {z : Int} (h : ab_Il z) : (Int64.ofInt z).toInt = z := Int64.toInt_ofInt_of_le h.1 h.2
theorem ab_eqi {x y : Int} (hx : ab_In x) (hy : ab_In y) : Int32.ofInt x = Int32.ofInt y ↔ x = y := by rw [← Int32.toInt_inj, ab_to hx, ab_to hy]
theorem ab_lti {x y : Int} (hx : ab_In x) (hy : ab_In y) : Int32.ofInt x < Int32.ofInt y ↔ x < y := by rw [Int32.lt_iff_toInt_lt, ab_to hx, ab_to hy]
theorem ab_lei {x y : Int} (hx : ab_In x) (hy : ab_In y) : Int32.ofInt x ≤ Int32.ofInt y ↔ x ≤ y := by rw [Int32.le_iff_toInt_le, ab_to hx, ab_to hy]
theorem ab_eql {x y : Int} (hx : ab_Il x) (hy : ab_Il y) : Int64.ofInt x = Int64.ofInt y ↔ x = y := by rw [← Int64.toInt_inj, ab_tol hx, ab_tol hy]
theorem ab_ltl {x y : Int} (hx : ab_Il x) (hy : ab_Il y) : Int64.ofInt x < Int64.ofInt y ↔ x < y := by rw [Int64.lt_iff_toInt_lt, ab_tol hx, ab_tol hy]
theorem ab_in0 : ab_In 0 := by unfold ab_In; omega
def ab_and (x y : Int) : Int := (Int32.ofInt x &&& Int32.ofInt y).toInt
def ab_or (x y : Int) : Int := (Int32.ofInt x ||| Int32.ofInt y).toInt
def ab_xor (x y : Int) : Int := (Int32.ofInt x ^^^ Int32.ofInt y).toInt
def ab_sl (x y : Int) : Int := (Int32.ofInt x <<< (Int32.ofInt y &&& 31)).toInt
def ab_sr (x y : Int) : Int := (Int32.ofInt x >>> (Int32.ofInt y &&& 31)).toInt
def ab_usr (x y : Int) : Int := ((Int32.ofInt x).toUInt32 >>> ((Int32.ofInt y).toUInt32 &&& Int32.toUInt32 31)).toInt32.toInt
def ab_div (x y : Int) : Int := (Int32.ofInt x / Int32.ofInt y).toInt
def ab_rem (x y : Int) : Int := (Int32.ofInt x - Int32.ofInt x / Int32.ofInt y * Int32.ofInt y).toInt
def ab_landL (x y : Int) : Int := (Int64.ofInt x &&& Int64.ofInt y).toInt
def ab_lorL (x y : Int) : Int := (Int64.ofInt x ||| Int64.ofInt y).toInt
def ab_ldivL (x y : Int) : Int := (Int64.ofInt x / Int64.ofInt y).toInt
def ab_lremL (x y : Int) : Int := (Int64.ofInt x - Int64.ofInt x / Int64.ofInt y * Int64.ofInt y).toInt
def ab_lshlL (x y : Int) : Int := (Int64.ofInt x <<< ((Int32.ofInt y).toInt64 &&& 63)).toInt
def ab_lshrL (x y : Int) : Int := (Int64.ofInt x >>> ((Int32.ofInt y).toInt64 &&& 63)).toInt
def ab_i2c (x : Int) : Int := ((Int32.ofInt x).toUInt32 % 65536).toInt32.toInt
def ab_i2l (x : Int) : Int := (Int32.ofInt x).toInt64.toInt
def ab_l2i (x : Int) : Int := (Int64.ofInt x).toInt32.toInt
def ab_lcmp (x y : Int) : Int := (lg_cmp (Int64.ofInt x) (Int64.ofInt y)).toInt
section AR
variable {G : ab_G} {Y : ab_Y} {R : Room} {Z : ab_Zt} {kc ks : Nat} {h : ab_H} {pc : Nat} {ls : List (Option ab_V)} {st : List ab_V}
theorem aw_iadd {x y : Int} (hd : decode Y.2.1 pc = .ok (.iadd, 1)) (k : aW G Y R Z kc ks h (pc + 1) ls (ab_i (x + y) :: st)) : aW G Y R Z kc ks h pc ls (ab_i y :: ab_i x :: st) := by
  intro p e s m args below meth c C H locs lsr hR hO hL hl
  refine lv_iadd C.1 C.2.1 hd ?_
  rw [← Int32.ofInt_add]
  exact k p e s m args below meth c C H locs lsr hR hO hL hl
theorem aw_isub {x y : Int} (hd : decode Y.2.1 pc = .ok (.isub, 1)) (k : aW G Y R Z kc ks h (pc + 1) ls (ab_i (x - y) :: st)) : aW G Y R Z kc ks h pc ls (ab_i y :: ab_i x :: st) := by
  intro p e s m args below meth c C H locs lsr hR hO hL hl
  refine lv_isub C.1 C.2.1 hd ?_
  rw [← Int32.ofInt_sub]
  exact k p e s m args below meth c C H locs lsr hR hO hL hl
theorem aw_imul {x y : Int} (hd : decode Y.2.1 pc = .ok (.imul, 1)) (k : aW G Y R Z kc ks h (pc + 1) ls (ab_i (x * y) :: st)) : aW G Y R Z kc ks h pc ls (ab_i y :: ab_i x :: st) := by
  intro p e s m args below meth c C H locs lsr hR hO hL hl
  refine lv_imul C.1 C.2.1 hd ?_
  rw [← Int32.ofInt_mul]
  exact k p e s m args below meth c C H locs lsr hR hO hL hl
theorem aw_ladd {x y : Int} (hd : decode Y.2.1 pc = .ok (.ladd, 1)) (k : aW G Y R Z kc ks h (pc + 1) ls (ab_l (x + y) :: st)) : aW G Y R Z kc ks h pc ls (ab_l y :: ab_l x :: st) := by
  intro p e s m args below meth c C H locs lsr hR hO hL hl
  refine lv_ladd C.1 C.2.1 hd ?_
  rw [← Int64.ofInt_add]
  exact k p e s m args below meth c C H locs lsr hR hO hL hl
theorem aw_lsub {x y : Int} (hd : decode Y.2.1 pc = .ok (.lsub, 1)) (k : aW G Y R Z kc ks h (pc + 1) ls (ab_l (x - y) :: st)) : aW G Y R Z kc ks h pc ls (ab_l y :: ab_l x :: st) := by
  intro p e s m args below meth c C H locs lsr hR hO hL hl
  refine lv_lsub C.1 C.2.1 hd ?_
  rw [← Int64.ofInt_sub]
  exact k p e s m args below meth c C H locs lsr hR hO hL hl
theorem aw_lmul {x y : Int} (hd : decode Y.2.1 pc = .ok (.lmul, 1)) (k : aW G Y R Z kc ks h (pc + 1) ls (ab_l (x * y) :: st)) : aW G Y R Z kc ks h pc ls (ab_l y :: ab_l x :: st) := by
  intro p e s m args below meth c C H locs lsr hR hO hL hl
  refine lv_lmul C.1 C.2.1 hd ?_
  rw [← Int64.ofInt_mul]
  exact k p e s m args below meth c C H locs lsr hR hO hL hl
theorem aw_iand {x y : Int} (hd : decode Y.2.1 pc = .ok (.iand, 1)) (k : aW G Y R Z kc ks h (pc + 1) ls (ab_i (ab_and x y) :: st)) : aW G Y R Z kc ks h pc ls (ab_i y :: ab_i x :: st) := by
  intro p e s m args below meth c C H locs lsr hR hO hL hl
  refine lv_iand C.1 C.2.1 hd ?_
  have k9 := k p e s m args below meth c C H locs lsr hR hO hL hl
  simp only [List.map_cons, ab_c, ab_and, Int32.ofInt_toInt, Int64.ofInt_toInt] at k9
  exact k9
theorem aw_ior {x y : Int} (hd : decode Y.2.1 pc = .ok (.ior, 1)) (k : aW G Y R Z kc ks h (pc + 1) ls (ab_i (ab_or x y) :: st)) : aW G Y R Z kc ks h pc ls (ab_i y :: ab_i x :: st) := by
  intro p e s m args below meth c C H locs lsr hR hO hL hl
  refine lv_ior C.1 C.2.1 hd ?_
  have k9 := k p e s m args below meth c C H locs lsr hR hO hL hl
  simp only [List.map_cons, ab_c, ab_or, Int32.ofInt_toInt, Int64.ofInt_toInt] at k9
  exact k9
theorem aw_ixor {x y : Int} (hd : decode Y.2.1 pc = .ok (.ixor, 1)) (k : aW G Y R Z kc ks h (pc + 1) ls (ab_i (ab_xor x y) :: st)) : aW G Y R Z kc ks h pc ls (ab_i y :: ab_i x :: st) := by
  intro p e s m args below meth c C H locs lsr hR hO hL hl
  refine lv_ixor C.1 C.2.1 hd ?_
  have k9 := k p e s m args below meth c C H locs lsr hR hO hL hl
  simp only [List.map_cons, ab_c, ab_xor, Int32.ofInt_toInt, Int64.ofInt_toInt] at k9
  exact k9
theorem aw_ishl {x y : Int} (hd : decode Y.2.1 pc = .ok (.ishl, 1)) (k : aW G Y R Z kc ks h (pc + 1) ls (ab_i (ab_sl x y) :: st)) : aW G Y R Z kc ks h pc ls (ab_i y :: ab_i x :: st) := by
  intro p e s m args below meth c C H locs lsr hR hO hL hl
  refine lv_ishl C.1 C.2.1 hd ?_
  have k9 := k p e s m args below meth c C H locs lsr hR hO hL hl
  simp only [List.map_cons, ab_c, ab_sl, Int32.ofInt_toInt, Int64.ofInt_toInt] at k9
  exact k9
theorem aw_ishr {x y : Int} (hd : decode Y.2.1 pc = .ok (.ishr, 1)) (k : aW G Y R Z kc ks h (pc + 1) ls (ab_i (ab_sr x y) :: st)) : aW G Y R Z kc ks h pc ls (ab_i y :: ab_i x :: st) := by
  intro p e s m args below meth c C H locs lsr hR hO hL hl
  refine lv_ishr C.1 C.2.1 hd ?_
  have k9 := k p e s m args below meth c C H locs lsr hR hO hL hl
  simp only [List.map_cons, ab_c, ab_sr, Int32.ofInt_toInt, Int64.ofInt_toInt] at k9
  exact k9
theorem aw_iushr {x y : Int} (hd : decode Y.2.1 pc = .ok (.iushr, 1)) (k : aW G Y R Z kc ks h (pc + 1) ls (ab_i (ab_usr x y) :: st)) : aW G Y R Z kc ks h pc ls (ab_i y :: ab_i x :: st) := by
  intro p e s m args below meth c C H locs lsr hR hO hL hl
  refine lv_iushr C.1 C.2.1 hd rfl ?_
  have k9 := k p e s m args below meth c C H locs lsr hR hO hL hl
  simp only [List.map_cons, ab_c, ab_usr, Int32.ofInt_toInt, Int64.ofInt_toInt] at k9
  exact k9
theorem aw_land {x y : Int} (hd : decode Y.2.1 pc = .ok (.land, 1)) (k : aW G Y R Z kc ks h (pc + 1) ls (ab_l (ab_landL x y) :: st)) : aW G Y R Z kc ks h pc ls (ab_l y :: ab_l x :: st) := by
  intro p e s m args below meth c C H locs lsr hR hO hL hl
  refine lv_land C.1 C.2.1 hd ?_
  have k9 := k p e s m args below meth c C H locs lsr hR hO hL hl
  simp only [List.map_cons, ab_c, ab_landL, Int32.ofInt_toInt, Int64.ofInt_toInt] at k9
  exact k9
theorem aw_lor {x y : Int} (hd : decode Y.2.1 pc = .ok (.lor, 1)) (k : aW G Y R Z kc ks h (pc + 1) ls (ab_l (ab_lorL x y) :: st)) : aW G Y R Z kc ks h pc ls (ab_l y :: ab_l x :: st) := by
  intro p e s m args below meth c C H locs lsr hR hO hL hl
  refine lv_lor C.1 C.2.1 hd ?_
  have k9 := k p e s m args below meth c C H locs lsr hR hO hL hl
  simp only [List.map_cons, ab_c, ab_lorL, Int32.ofInt_toInt, Int64.ofInt_toInt] at k9
  exact k9
theorem aw_idiv {x y : Int} (hd : decode Y.2.1 pc = .ok (.idiv, 1)) (hy : ab_In y) (h0 : ¬ y = 0) (k : aW G Y R Z kc ks h (pc + 1) ls (ab_i (ab_div x y) :: st)) : aW G Y R Z kc ks h pc ls (ab_i y :: ab_i x :: st) := by
  intro p e s m args below meth c C H locs lsr hR hO hL hl
  refine lv_idiv C.1 C.2.1 hd (fun e9 => h0 ((ab_eqi hy ab_in0).mp e9)) ?_
  have k9 := k p e s m args below meth c C H locs lsr hR hO hL hl
  simp only [List.map_cons, ab_c, ab_div, Int32.ofInt_toInt, Int64.ofInt_toInt] at k9
  exact k9
theorem aw_irem {x y : Int} (hd : decode Y.2.1 pc = .ok (.irem, 1)) (hy : ab_In y) (h0 : ¬ y = 0) (k : aW G Y R Z kc ks h (pc + 1) ls (ab_i (ab_rem x y) :: st)) : aW G Y R Z kc ks h pc ls (ab_i y :: ab_i x :: st) := by
  intro p e s m args below meth c C H locs lsr hR hO hL hl
  refine lv_irem C.1 C.2.1 hd (fun e9 => h0 ((ab_eqi hy ab_in0).mp e9)) ?_
  have k9 := k p e s m args below meth c C H locs lsr hR hO hL hl
  simp only [List.map_cons, ab_c, ab_rem, Int32.ofInt_toInt, Int64.ofInt_toInt] at k9
  exact k9
theorem aw_ldiv {x y : Int} (hd : decode Y.2.1 pc = .ok (.ldiv, 1)) (hy : ab_Il y) (h0 : ¬ y = 0) (k : aW G Y R Z kc ks h (pc + 1) ls (ab_l (ab_ldivL x y) :: st)) : aW G Y R Z kc ks h pc ls (ab_l y :: ab_l x :: st) := by
  intro p e s m args below meth c C H locs lsr hR hO hL hl
  refine lv_ldiv C.1 C.2.1 hd (fun e9 => h0 ((ab_eql hy (by unfold ab_Il; omega)).mp e9)) ?_
  have k9 := k p e s m args below meth c C H locs lsr hR hO hL hl
  simp only [List.map_cons, ab_c, ab_ldivL, Int32.ofInt_toInt, Int64.ofInt_toInt] at k9
  exact k9
theorem aw_lrem {x y : Int} (hd : decode Y.2.1 pc = .ok (.lrem, 1)) (hy : ab_Il y) (h0 : ¬ y = 0) (k : aW G Y R Z kc ks h (pc + 1) ls (ab_l (ab_lremL x y) :: st)) : aW G Y R Z kc ks h pc ls (ab_l y :: ab_l x :: st) := by
  intro p e s m args below meth c C H locs lsr hR hO hL hl
  refine lv_lrem C.1 C.2.1 hd (fun e9 => h0 ((ab_eql hy (by unfold ab_Il; omega)).mp e9)) ?_
  have k9 := k p e s m args below meth c C H locs lsr hR hO hL hl
  simp only [List.map_cons, ab_c, ab_lremL, Int32.ofInt_toInt, Int64.ofInt_toInt] at k9
  exact k9
theorem aw_lshl {x y : Int} (hd : decode Y.2.1 pc = .ok (.lshl, 1)) (k : aW G Y R Z kc ks h (pc + 1) ls (ab_l (ab_lshlL x y) :: st)) : aW G Y R Z kc ks h pc ls (ab_i y :: ab_l x :: st) := by
  intro p e s m args below meth c C H locs lsr hR hO hL hl
  refine lv_lshl C.1 C.2.1 hd rfl ?_
  have k9 := k p e s m args below meth c C H locs lsr hR hO hL hl
  simp only [List.map_cons, ab_c, ab_lshlL, Int32.ofInt_toInt, Int64.ofInt_toInt] at k9
  exact k9
theorem aw_lshr {x y : Int} (hd : decode Y.2.1 pc = .ok (.lshr, 1)) (k : aW G Y R Z kc ks h (pc + 1) ls (ab_l (ab_lshrL x y) :: st)) : aW G Y R Z kc ks h pc ls (ab_i y :: ab_l x :: st) := by
  intro p e s m args below meth c C H locs lsr hR hO hL hl
  refine lv_lshr C.1 C.2.1 hd rfl ?_
  have k9 := k p e s m args below meth c C H locs lsr hR hO hL hl
  simp only [List.map_cons, ab_c, ab_lshrL, Int32.ofInt_toInt, Int64.ofInt_toInt] at k9
  exact k9
theorem aw_i2l {x : Int} (hd : decode Y.2.1 pc = .ok (.i2l, 1)) (k : aW G Y R Z kc ks h (pc + 1) ls (ab_l (ab_i2l x) :: st)) : aW G Y R Z kc ks h pc ls (ab_i x :: st) := by
  intro p e s m args below meth c C H locs lsr hR hO hL hl
  refine lv_i2l C.1 C.2.1 hd rfl ?_
  have k9 := k p e s m args below meth c C H locs lsr hR hO hL hl
  simp only [List.map_cons, ab_c, ab_i2l, Int32.ofInt_toInt, Int64.ofInt_toInt] at k9
  exact k9
theorem aw_l2i {x : Int} (hd : decode Y.2.1 pc = .ok (.l2i, 1)) (k : aW G Y R Z kc ks h (pc + 1) ls (ab_i (ab_l2i x) :: st)) : aW G Y R Z kc ks h pc ls (ab_l x :: st) := by
  intro p e s m args below meth c C H locs lsr hR hO hL hl
  refine lv_l2i C.1 C.2.1 hd rfl ?_
  have k9 := k p e s m args below meth c C H locs lsr hR hO hL hl
  simp only [List.map_cons, ab_c, ab_l2i, Int32.ofInt_toInt, Int64.ofInt_toInt] at k9
  exact k9
theorem aw_i2c {x : Int} (hd : decode Y.2.1 pc = .ok (.i2c, 1)) (k : aW G Y R Z kc ks h (pc + 1) ls (ab_i (ab_i2c x) :: st)) : aW G Y R Z kc ks h pc ls (ab_i x :: st) := by
  intro p e s m args below meth c C H locs lsr hR hO hL hl
  refine lv_i2c C.1 C.2.1 hd rfl ?_
  have k9 := k p e s m args below meth c C H locs lsr hR hO hL hl
  simp only [List.map_cons, ab_c, ab_i2c, Int32.ofInt_toInt, Int64.ofInt_toInt] at k9
  exact k9
theorem aw_lcmp {x y : Int} (hd : decode Y.2.1 pc = .ok (.lcmp, 1)) (k : aW G Y R Z kc ks h (pc + 1) ls (ab_i (ab_lcmp x y) :: st)) : aW G Y R Z kc ks h pc ls (ab_l y :: ab_l x :: st) := by
  intro p e s m args below meth c C H locs lsr hR hO hL hl
  refine W.lcmp C.1 C.2.1 hd ?_
  have k9 := k p e s m args below meth c C H locs lsr hR hO hL hl
  simp only [List.map_cons, ab_c, ab_lcmp, Int32.ofInt_toInt, Int64.ofInt_toInt] at k9
  exact k9
theorem aw_iconst {n : Int} (hd : decode Y.2.1 pc = .ok (.iconst n, 1)) (k : aW G Y R Z kc ks h (pc + 1) ls (ab_i n :: st)) : aW G Y R Z kc ks h pc ls st := by
  intro p e s m args below meth c C H locs lsr hR hO hL hl
  exact lv_iconst C.1 C.2.1 hd rfl (k p e s m args below meth c C H locs lsr hR hO hL hl)
theorem aw_bipush {n : Int} (hd : decode Y.2.1 pc = .ok (.bipush n, 2)) (hn : (Int8.ofInt n).toInt32 = Int32.ofInt n) (k : aW G Y R Z kc ks h (pc + 2) ls (ab_i n :: st)) : aW G Y R Z kc ks h pc ls st := by
  intro p e s m args below meth c C H locs lsr hR hO hL hl
  exact lv_bipush C.1 C.2.1 hd hn (k p e s m args below meth c C H locs lsr hR hO hL hl)
theorem aw_sipush {n : Int} (hd : decode Y.2.1 pc = .ok (.sipush n, 3)) (hn : (Int16.ofInt n).toInt32 = Int32.ofInt n) (k : aW G Y R Z kc ks h (pc + 3) ls (ab_i n :: st)) : aW G Y R Z kc ks h pc ls st := by
  intro p e s m args below meth c C H locs lsr hR hO hL hl
  exact lv_sipush C.1 C.2.1 hd hn (k p e s m args below meth c C H locs lsr hR hO hL hl)
theorem aw_lconst {n : Fin 2} {z : Int} (hd : decode Y.2.1 pc = .ok (.lconst n, 1)) (hn : Int64.ofNat (n : Nat) = Int64.ofInt z) (k : aW G Y R Z kc ks h (pc + 1) ls (ab_l z :: st)) : aW G Y R Z kc ks h pc ls st := by
  intro p e s m args below meth c C H locs lsr hR hO hL hl
  exact lv_lconst C.1 C.2.1 hd hn (k p e s m args below meth c C H locs lsr hR hO hL hl)
theorem aw_ldc {idx : Nat} {z : Int} (hd : decode Y.2.1 pc = .ok (.ldc idx, 2)) (hw : Cond.constant Y.1.cls idx (Int32.ofInt z) ∈ lw_all) (k : aW G Y R Z kc ks h (pc + 2) ls (ab_i z :: st)) : aW G Y R Z kc ks h pc ls st := by
  intro p e s m args below meth c C H locs lsr hR hO hL hl
  exact lv_ldc C.1 C.2.1 C.2.2.2.2.1 (C.2.2.2.2.2.1 _ hw) hd (k p e s m args below meth c C H locs lsr hR hO hL hl)
theorem aw_ldcw {idx : Nat} {z : Int} (hd : decode Y.2.1 pc = .ok (.ldc_w idx, 3)) (hw : Cond.constant Y.1.cls idx (Int32.ofInt z) ∈ lw_all) (k : aW G Y R Z kc ks h (pc + 3) ls (ab_i z :: st)) : aW G Y R Z kc ks h pc ls st := by
  intro p e s m args below meth c C H locs lsr hR hO hL hl
  exact lv_ldcw C.1 C.2.1 C.2.2.2.2.1 (C.2.2.2.2.2.1 _ hw) hd (k p e s m args below meth c C H locs lsr hR hO hL hl)
theorem aw_ldc2 {idx : Nat} {z : Int} (hd : decode Y.2.1 pc = .ok (.ldc2_w idx, 3)) (hw : Cond.constantLong Y.1.cls idx (Int64.ofInt z) ∈ lw_all) (k : aW G Y R Z kc ks h (pc + 3) ls (ab_l z :: st)) : aW G Y R Z kc ks h pc ls st := by
  intro p e s m args below meth c C H locs lsr hR hO hL hl
  exact lv_ldc2 C.1 C.2.1 C.2.2.2.2.1 (C.2.2.2.2.2.1 _ hw) hd (k p e s m args below meth c C H locs lsr hR hO hL hl)
theorem aw_ldcS {i : Nat} (hY : Y.1.cls = "ThreeOffers$Text") (hi : i < 15) (hd : decode Y.2.1 pc = .ok (.ldc (ab_six i), 2)) (k : aW G Y R Z kc ks h (pc + 2) ls (ab_r (1100 + i) :: st)) : aW G Y R Z kc ks h pc ls st := by
  intro p e s m args below meth c C H locs lsr hR hO hL hl
  have k9 := k p e s m args below meth c C H locs lsr hR hO hL hl
  have e9 : ab_c G (ab_r (1100 + i)) = .ref (ab_ax G (1100 + i)) := by
    show ab_rv G (1100 + i) = _
    unfold ab_rv ab_ad
    rw [if_neg (by omega), if_neg (by omega)]
  rw [List.map_cons, e9] at k9
  exact va_ldcS C.1 C.2.1 (hY ▸ C.2.2.2.2.1) (C.2.2.2.2.2.2.2.2.2.2.1 i hi) hd k9
theorem aw_dup {v : ab_V} (hd : decode Y.2.1 pc = .ok (.dup, 1)) (hv : ab_isl (some v) = false) (k : aW G Y R Z kc ks h (pc + 1) ls (v :: v :: st)) : aW G Y R Z kc ks h pc ls (v :: st) := by
  intro p e s m args below meth c C H locs lsr hR hO hL hl
  exact lv_dup C.1 C.2.1 hd (by rw [ab_cat, hv]; rfl) (k p e s m args below meth c C H locs lsr hR hO hL hl)
theorem aw_dup2 {v w : ab_V} (hd : decode Y.2.1 pc = .ok (.dup2, 1)) (hv : ab_isl (some v) = false) (hw : ab_isl (some w) = false) (k : aW G Y R Z kc ks h (pc + 1) ls (v :: w :: v :: w :: st)) : aW G Y R Z kc ks h pc ls (v :: w :: st) := by
  intro p e s m args below meth c C H locs lsr hR hO hL hl
  exact lv_dup2_11 C.1 C.2.1 hd (by rw [ab_cat, hv]; rfl) (by rw [ab_cat, hw]; rfl) (k p e s m args below meth c C H locs lsr hR hO hL hl)
theorem aw_pop {v : ab_V} (hd : decode Y.2.1 pc = .ok (.pop, 1)) (hv : ab_isl (some v) = false) (k : aW G Y R Z kc ks h (pc + 1) ls st) : aW G Y R Z kc ks h pc ls (v :: st) := by
  intro p e s m args below meth c C H locs lsr hR hO hL hl
  exact lv_pop C.1 C.2.1 hd (by rw [ab_cat, hv]; rfl) (k p e s m args below meth c C H locs lsr hR hO hL hl)
theorem aw_iload_n {n : Fin 4} {z : Int} (hd : decode Y.2.1 pc = .ok (.iload_n n, 1)) (hi : ls[(n : Nat)]? = some (some (ab_i z))) (k : aW G Y R Z kc ks h (pc + 1) ls (ab_i z :: st)) : aW G Y R Z kc ks h pc ls st := by
  intro p e s m args below meth c C H locs lsr hR hO hL hl
  exact lv_iload_n C.1 C.2.1 hd rfl (ab_has_ld hl hi) (k p e s m args below meth c C H locs lsr hR hO hL hl)
theorem aw_iload {i : Nat} {z : Int} (hd : decode Y.2.1 pc = .ok (.iload i, 2)) (hi : ls[i]? = some (some (ab_i z))) (k : aW G Y R Z kc ks h (pc + 2) ls (ab_i z :: st)) : aW G Y R Z kc ks h pc ls st := by
  intro p e s m args below meth c C H locs lsr hR hO hL hl
  exact lv_iload C.1 C.2.1 hd (ab_has_ld hl hi) (k p e s m args below meth c C H locs lsr hR hO hL hl)
theorem aw_lload_n {n : Fin 4} {z : Int} (hd : decode Y.2.1 pc = .ok (.lload_n n, 1)) (hi : ls[(n : Nat)]? = some (some (ab_l z))) (k : aW G Y R Z kc ks h (pc + 1) ls (ab_l z :: st)) : aW G Y R Z kc ks h pc ls st := by
  intro p e s m args below meth c C H locs lsr hR hO hL hl
  exact lv_lload_n C.1 C.2.1 hd rfl (ab_has_ld hl hi) (k p e s m args below meth c C H locs lsr hR hO hL hl)
theorem aw_lload {i : Nat} {z : Int} (hd : decode Y.2.1 pc = .ok (.lload i, 2)) (hi : ls[i]? = some (some (ab_l z))) (k : aW G Y R Z kc ks h (pc + 2) ls (ab_l z :: st)) : aW G Y R Z kc ks h pc ls st := by
  intro p e s m args below meth c C H locs lsr hR hO hL hl
  exact lv_lload C.1 C.2.1 hd (ab_has_ld hl hi) (k p e s m args below meth c C H locs lsr hR hO hL hl)
theorem aw_rv {r : Nat} (h0 : ¬ r = 0) : ab_c G (ab_r r) = .ref (ab_ad G r) := by
  show ab_rv G r = _
  unfold ab_rv
  rw [if_neg h0]
theorem aw_aload_n {n : Fin 4} {r : Nat} (hd : decode Y.2.1 pc = .ok (.aload_n n, 1)) (hi : ls[(n : Nat)]? = some (some (ab_r r))) (h0 : ¬ r = 0) (k : aW G Y R Z kc ks h (pc + 1) ls (ab_r r :: st)) : aW G Y R Z kc ks h pc ls st := by
  intro p e s m args below meth c C H locs lsr hR hO hL hl
  have k9 := k p e s m args below meth c C H locs lsr hR hO hL hl
  have k8 := ab_has_ld hl hi
  rw [List.map_cons, aw_rv h0] at k9
  rw [aw_rv h0] at k8
  exact lv_aload_n C.1 C.2.1 hd rfl k8 k9
theorem aw_aload {i : Nat} {r : Nat} (hd : decode Y.2.1 pc = .ok (.aload i, 2)) (hi : ls[i]? = some (some (ab_r r))) (h0 : ¬ r = 0) (k : aW G Y R Z kc ks h (pc + 2) ls (ab_r r :: st)) : aW G Y R Z kc ks h pc ls st := by
  intro p e s m args below meth c C H locs lsr hR hO hL hl
  have k9 := k p e s m args below meth c C H locs lsr hR hO hL hl
  have k8 := ab_has_ld hl hi
  rw [List.map_cons, aw_rv h0] at k9
  rw [aw_rv h0] at k8
  exact lv_aload C.1 C.2.1 hd k8 k9
theorem aw_istore_n {n : Fin 4} {z : Int} {ls' : List (Option ab_V)} (hd : decode Y.2.1 pc = .ok (.istore_n n, 1)) (hi : (n : Nat) < Y.2.2.1) (hl' : ab_st1 ls n (ab_i z) = ls') (k : aW G Y R Z kc ks h (pc + 1) ls' st) : aW G Y R Z kc ks h pc ls (ab_i z :: st) := by
  intro p e s m args below meth c C H locs lsr hR hO hL hl
  subst hl'
  exact lv_istore_n C.1 C.2.1 hd rfl hl hi rfl (fun lsr hl => k p e s m args below meth c C H locs lsr hR hO hL (ab_has1 hl))
theorem aw_istore {i : Nat} {z : Int} {ls' : List (Option ab_V)} (hd : decode Y.2.1 pc = .ok (.istore i, 2)) (hi : i < Y.2.2.1) (hl' : ab_st1 ls i (ab_i z) = ls') (k : aW G Y R Z kc ks h (pc + 2) ls' st) : aW G Y R Z kc ks h pc ls (ab_i z :: st) := by
  intro p e s m args below meth c C H locs lsr hR hO hL hl
  subst hl'
  exact lv_istore C.1 C.2.1 hd hl hi rfl (fun lsr hl => k p e s m args below meth c C H locs lsr hR hO hL (ab_has1 hl))
theorem aw_lstore_n {n : Fin 4} {z : Int} {ls' : List (Option ab_V)} (hd : decode Y.2.1 pc = .ok (.lstore_n n, 1)) (hi : (n : Nat) + 1 < Y.2.2.1) (hl' : ab_st2 ls n (ab_l z) = ls') (k : aW G Y R Z kc ks h (pc + 1) ls' st) : aW G Y R Z kc ks h pc ls (ab_l z :: st) := by
  intro p e s m args below meth c C H locs lsr hR hO hL hl
  subst hl'
  exact lv_lstore_n C.1 C.2.1 hd rfl hl hi rfl (fun lsr hl => k p e s m args below meth c C H locs lsr hR hO hL (ab_has2 hl))
theorem aw_lstore {i : Nat} {z : Int} {ls' : List (Option ab_V)} (hd : decode Y.2.1 pc = .ok (.lstore i, 2)) (hi : i + 1 < Y.2.2.1) (hl' : ab_st2 ls i (ab_l z) = ls') (k : aW G Y R Z kc ks h (pc + 2) ls' st) : aW G Y R Z kc ks h pc ls (ab_l z :: st) := by
  intro p e s m args below meth c C H locs lsr hR hO hL hl
  subst hl'
  exact lv_lstore C.1 C.2.1 hd hl hi rfl (fun lsr hl => k p e s m args below meth c C H locs lsr hR hO hL (ab_has2 hl))
theorem aw_astore_n {n : Fin 4} {r : Nat} {ls' : List (Option ab_V)} (hd : decode Y.2.1 pc = .ok (.astore_n n, 1)) (hi : (n : Nat) < Y.2.2.1) (h0 : ¬ r = 0) (hl' : ab_st1 ls (n : Nat) (ab_r r) = ls') (k : aW G Y R Z kc ks h (pc + 1) ls' st) : aW G Y R Z kc ks h pc ls (ab_r r :: st) := by
  intro p e s m args below meth c C H locs lsr hR hO hL hl
  subst hl'
  rw [List.map_cons, aw_rv h0]
  refine lv_astore_n C.1 C.2.1 hd rfl hl hi rfl (fun lsr hl => k p e s m args below meth c C H locs lsr hR hO hL (ab_has1 ?_))
  rw [aw_rv h0]
  exact hl
theorem aw_astore {i : Nat} {r : Nat} {ls' : List (Option ab_V)} (hd : decode Y.2.1 pc = .ok (.astore i, 2)) (hi : i < Y.2.2.1) (h0 : ¬ r = 0) (hl' : ab_st1 ls i (ab_r r) = ls') (k : aW G Y R Z kc ks h (pc + 2) ls' st) : aW G Y R Z kc ks h pc ls (ab_r r :: st) := by
  intro p e s m args below meth c C H locs lsr hR hO hL hl
  subst hl'
  rw [List.map_cons, aw_rv h0]
  refine lv_astore C.1 C.2.1 hd hl hi rfl (fun lsr hl => k p e s m args below meth c C H locs lsr hR hO hL (ab_has1 ?_))
  rw [aw_rv h0]
  exact hl
theorem aw_iinc {i : Nat} {n z : Int} {ls' : List (Option ab_V)} (hd : decode Y.2.1 pc = .ok (.iinc i n, 3)) (hi : i < Y.2.2.1) (hz : ls[i]? = some (some (ab_i z))) (hl' : ab_st1 ls i (ab_i (z + n)) = ls') (k : aW G Y R Z kc ks h (pc + 3) ls' st) : aW G Y R Z kc ks h pc ls st := by
  intro p e s m args below meth c C H locs lsr hR hO hL hl
  subst hl'
  obtain ⟨k9, hk9⟩ := List.getElem?_of_mem (ab_lo_at (G := G) (k := 0) hz)
  rw [Nat.zero_add] at hk9
  exact lv_iinc C.1 C.2.1 hd hl hk9 (v := Int32.ofInt (z + n)) (Int32.ofInt_add z n).symm hi rfl (fun lsr hl => k p e s m args below meth c C H locs lsr hR hO hL (ab_has1 hl))
theorem aw_if_eq {x off : Int} {tgt : Nat} (hd : decode Y.2.1 pc = .ok (.ifCond .eq off, 3)) (ht : (pc : Int) + off = (tgt : Int)) (hx : ab_In x) (kt : x = 0 → aW G Y R Z kc ks h tgt ls st) (kf : ¬ x = 0 → aW G Y R Z kc ks h (pc + 3) ls st) : aW G Y R Z kc ks h pc ls (ab_i x :: st) := by
  intro p e s m args below meth c C H locs lsr hR hO hL hl
  exact lv_if_eq C.1 C.2.1 hd ht (fun c9 => kt ((ab_eqi hx ab_in0).mp c9) p e s m args below meth c C H locs lsr hR hO hL hl) (fun c9 => kf (fun e9 => c9 ((ab_eqi hx ab_in0).mpr e9)) p e s m args below meth c C H locs lsr hR hO hL hl)
theorem aw_if_ne {x off : Int} {tgt : Nat} (hd : decode Y.2.1 pc = .ok (.ifCond .ne off, 3)) (ht : (pc : Int) + off = (tgt : Int)) (hx : ab_In x) (kt : ¬ x = 0 → aW G Y R Z kc ks h tgt ls st) (kf : x = 0 → aW G Y R Z kc ks h (pc + 3) ls st) : aW G Y R Z kc ks h pc ls (ab_i x :: st) := by
  intro p e s m args below meth c C H locs lsr hR hO hL hl
  exact lv_if_ne C.1 C.2.1 hd ht (fun c9 => kt (fun e9 => c9 ((ab_eqi hx ab_in0).mpr e9)) p e s m args below meth c C H locs lsr hR hO hL hl) (fun c9 => kf ((ab_eqi hx ab_in0).mp c9) p e s m args below meth c C H locs lsr hR hO hL hl)
theorem aw_if_lt {x off : Int} {tgt : Nat} (hd : decode Y.2.1 pc = .ok (.ifCond .lt off, 3)) (ht : (pc : Int) + off = (tgt : Int)) (hx : ab_In x) (kt : x < 0 → aW G Y R Z kc ks h tgt ls st) (kf : ¬ x < 0 → aW G Y R Z kc ks h (pc + 3) ls st) : aW G Y R Z kc ks h pc ls (ab_i x :: st) := by
  intro p e s m args below meth c C H locs lsr hR hO hL hl
  exact lv_if_lt C.1 C.2.1 hd ht (fun c9 => kt ((ab_lti hx ab_in0).mp c9) p e s m args below meth c C H locs lsr hR hO hL hl) (fun c9 => kf (fun e9 => c9 ((ab_lti hx ab_in0).mpr e9)) p e s m args below meth c C H locs lsr hR hO hL hl)
theorem aw_if_ge {x off : Int} {tgt : Nat} (hd : decode Y.2.1 pc = .ok (.ifCond .ge off, 3)) (ht : (pc : Int) + off = (tgt : Int)) (hx : ab_In x) (kt : 0 ≤ x → aW G Y R Z kc ks h tgt ls st) (kf : ¬ 0 ≤ x → aW G Y R Z kc ks h (pc + 3) ls st) : aW G Y R Z kc ks h pc ls (ab_i x :: st) := by
  intro p e s m args below meth c C H locs lsr hR hO hL hl
  exact lv_if_ge C.1 C.2.1 hd ht (fun c9 => kt ((ab_lei ab_in0 hx).mp c9) p e s m args below meth c C H locs lsr hR hO hL hl) (fun c9 => kf (fun e9 => c9 ((ab_lei ab_in0 hx).mpr e9)) p e s m args below meth c C H locs lsr hR hO hL hl)
theorem aw_if_gt {x off : Int} {tgt : Nat} (hd : decode Y.2.1 pc = .ok (.ifCond .gt off, 3)) (ht : (pc : Int) + off = (tgt : Int)) (hx : ab_In x) (kt : 0 < x → aW G Y R Z kc ks h tgt ls st) (kf : ¬ 0 < x → aW G Y R Z kc ks h (pc + 3) ls st) : aW G Y R Z kc ks h pc ls (ab_i x :: st) := by
  intro p e s m args below meth c C H locs lsr hR hO hL hl
  exact lv_if_gt C.1 C.2.1 hd ht (fun c9 => kt ((ab_lti ab_in0 hx).mp c9) p e s m args below meth c C H locs lsr hR hO hL hl) (fun c9 => kf (fun e9 => c9 ((ab_lti ab_in0 hx).mpr e9)) p e s m args below meth c C H locs lsr hR hO hL hl)
theorem aw_if_le {x off : Int} {tgt : Nat} (hd : decode Y.2.1 pc = .ok (.ifCond .le off, 3)) (ht : (pc : Int) + off = (tgt : Int)) (hx : ab_In x) (kt : x ≤ 0 → aW G Y R Z kc ks h tgt ls st) (kf : ¬ x ≤ 0 → aW G Y R Z kc ks h (pc + 3) ls st) : aW G Y R Z kc ks h pc ls (ab_i x :: st) := by
  intro p e s m args below meth c C H locs lsr hR hO hL hl
  exact lv_if_le C.1 C.2.1 hd ht (fun c9 => kt ((ab_lei hx ab_in0).mp c9) p e s m args below meth c C H locs lsr hR hO hL hl) (fun c9 => kf (fun e9 => c9 ((ab_lei hx ab_in0).mpr e9)) p e s m args below meth c C H locs lsr hR hO hL hl)
theorem aw_icmp_eq {x y off : Int} {tgt : Nat} (hd : decode Y.2.1 pc = .ok (.if_icmp .eq off, 3)) (ht : (pc : Int) + off = (tgt : Int)) (hx : ab_In x) (hy : ab_In y) (kt : x = y → aW G Y R Z kc ks h tgt ls st) (kf : ¬ x = y → aW G Y R Z kc ks h (pc + 3) ls st) : aW G Y R Z kc ks h pc ls (ab_i y :: ab_i x :: st) := by
  intro p e s m args below meth c C H locs lsr hR hO hL hl
  exact lv_icmp_eq C.1 C.2.1 hd ht (fun c9 => kt ((ab_eqi hx hy).mp c9) p e s m args below meth c C H locs lsr hR hO hL hl) (fun c9 => kf (fun e9 => c9 ((ab_eqi hx hy).mpr e9)) p e s m args below meth c C H locs lsr hR hO hL hl)
theorem aw_icmp_ne {x y off : Int} {tgt : Nat} (hd : decode Y.2.1 pc = .ok (.if_icmp .ne off, 3)) (ht : (pc : Int) + off = (tgt : Int)) (hx : ab_In x) (hy : ab_In y) (kt : ¬ x = y → aW G Y R Z kc ks h tgt ls st) (kf : x = y → aW G Y R Z kc ks h (pc + 3) ls st) : aW G Y R Z kc ks h pc ls (ab_i y :: ab_i x :: st) := by
  intro p e s m args below meth c C H locs lsr hR hO hL hl
  exact lv_icmp_ne C.1 C.2.1 hd ht (fun c9 => kt (fun e9 => c9 ((ab_eqi hx hy).mpr e9)) p e s m args below meth c C H locs lsr hR hO hL hl) (fun c9 => kf ((ab_eqi hx hy).mp c9) p e s m args below meth c C H locs lsr hR hO hL hl)
theorem aw_icmp_lt {x y off : Int} {tgt : Nat} (hd : decode Y.2.1 pc = .ok (.if_icmp .lt off, 3)) (ht : (pc : Int) + off = (tgt : Int)) (hx : ab_In x) (hy : ab_In y) (kt : x < y → aW G Y R Z kc ks h tgt ls st) (kf : ¬ x < y → aW G Y R Z kc ks h (pc + 3) ls st) : aW G Y R Z kc ks h pc ls (ab_i y :: ab_i x :: st) := by
  intro p e s m args below meth c C H locs lsr hR hO hL hl
  exact lv_icmp_lt C.1 C.2.1 hd ht (fun c9 => kt ((ab_lti hx hy).mp c9) p e s m args below meth c C H locs lsr hR hO hL hl) (fun c9 => kf (fun e9 => c9 ((ab_lti hx hy).mpr e9)) p e s m args below meth c C H locs lsr hR hO hL hl)
theorem aw_icmp_ge {x y off : Int} {tgt : Nat} (hd : decode Y.2.1 pc = .ok (.if_icmp .ge off, 3)) (ht : (pc : Int) + off = (tgt : Int)) (hx : ab_In x) (hy : ab_In y) (kt : y ≤ x → aW G Y R Z kc ks h tgt ls st) (kf : ¬ y ≤ x → aW G Y R Z kc ks h (pc + 3) ls st) : aW G Y R Z kc ks h pc ls (ab_i y :: ab_i x :: st) := by
  intro p e s m args below meth c C H locs lsr hR hO hL hl
  exact lv_icmp_ge C.1 C.2.1 hd ht (fun c9 => kt ((ab_lei hy hx).mp c9) p e s m args below meth c C H locs lsr hR hO hL hl) (fun c9 => kf (fun e9 => c9 ((ab_lei hy hx).mpr e9)) p e s m args below meth c C H locs lsr hR hO hL hl)
theorem aw_icmp_gt {x y off : Int} {tgt : Nat} (hd : decode Y.2.1 pc = .ok (.if_icmp .gt off, 3)) (ht : (pc : Int) + off = (tgt : Int)) (hx : ab_In x) (hy : ab_In y) (kt : y < x → aW G Y R Z kc ks h tgt ls st) (kf : ¬ y < x → aW G Y R Z kc ks h (pc + 3) ls st) : aW G Y R Z kc ks h pc ls (ab_i y :: ab_i x :: st) := by
  intro p e s m args below meth c C H locs lsr hR hO hL hl
  exact lv_icmp_gt C.1 C.2.1 hd ht (fun c9 => kt ((ab_lti hy hx).mp c9) p e s m args below meth c C H locs lsr hR hO hL hl) (fun c9 => kf (fun e9 => c9 ((ab_lti hy hx).mpr e9)) p e s m args below meth c C H locs lsr hR hO hL hl)
theorem aw_icmp_le {x y off : Int} {tgt : Nat} (hd : decode Y.2.1 pc = .ok (.if_icmp .le off, 3)) (ht : (pc : Int) + off = (tgt : Int)) (hx : ab_In x) (hy : ab_In y) (kt : x ≤ y → aW G Y R Z kc ks h tgt ls st) (kf : ¬ x ≤ y → aW G Y R Z kc ks h (pc + 3) ls st) : aW G Y R Z kc ks h pc ls (ab_i y :: ab_i x :: st) := by
  intro p e s m args below meth c C H locs lsr hR hO hL hl
  exact lv_icmp_le C.1 C.2.1 hd ht (fun c9 => kt ((ab_lei hx hy).mp c9) p e s m args below meth c C H locs lsr hR hO hL hl) (fun c9 => kf (fun e9 => c9 ((ab_lei hx hy).mpr e9)) p e s m args below meth c C H locs lsr hR hO hL hl)
theorem aw_goto {off : Int} {tgt : Nat} (hd : decode Y.2.1 pc = .ok (.goto off, 3)) (ht : (pc : Int) + off = (tgt : Int)) (k : aW G Y R Z kc ks h tgt ls st) : aW G Y R Z kc ks h pc ls st := by
  intro p e s m args below meth c C H locs lsr hR hO hL hl
  exact lv_goto C.1 C.2.1 hd ht (k p e s m args below meth c C H locs lsr hR hO hL hl)
theorem aw_tabOut {dflt lo hi x : Int} {offs : Array Int} {len tgt : Nat} (hd : decode Y.2.1 pc = .ok (.tableswitch dflt lo hi offs, len)) (hx : ab_In x) (hq : x < lo ∨ hi < x) (ht : (pc : Int) + dflt = (tgt : Int)) (k : aW G Y R Z kc ks h tgt ls st) : aW G Y R Z kc ks h pc ls (ab_i x :: st) := by
  intro p e s m args below meth c C H locs lsr hR hO hL hl
  exact lv_tableOut C.1 C.2.1 hd (by rw [ab_to hx]; exact hq) ht (k p e s m args below meth c C H locs lsr hR hO hL hl)
theorem aw_tabIn {dflt lo hi x : Int} {offs : Array Int} {len tgt : Nat} {off : Int} (hd : decode Y.2.1 pc = .ok (.tableswitch dflt lo hi offs, len)) (hx : ab_In x) (h1 : ¬ x < lo) (h2 : ¬ hi < x) (ho : offs[(x - lo).toNat]? = some off) (ht : (pc : Int) + off = (tgt : Int)) (k : aW G Y R Z kc ks h tgt ls st) : aW G Y R Z kc ks h pc ls (ab_i x :: st) := by
  intro p e s m args below meth c C H locs lsr hR hO hL hl
  exact lv_tableIn C.1 C.2.1 hd (by rw [ab_to hx]; exact h1) (by rw [ab_to hx]; exact h2) (by rw [ab_to hx]; exact ho) ht (k p e s m args below meth c C H locs lsr hR hO hL hl)
theorem aw_look {dflt x : Int} {ps : Array (Int × Int)} {len tgt : Nat} {off : Int} (hd : decode Y.2.1 pc = .ok (.lookupswitch dflt ps, len)) (hp : (ps.toList.zip (ps.toList.drop 1)).all (fun (a, next) => a.1 < next.1) = true) (hx : ab_In x) (ho : Op.lookupswitch.offset ps.toList dflt x = off) (ht : (pc : Int) + off = (tgt : Int)) (k : aW G Y R Z kc ks h tgt ls st) : aW G Y R Z kc ks h pc ls (ab_i x :: st) := by
  intro p e s m args below meth c C H locs lsr hR hO hL hl
  exact lv_lookup C.1 C.2.1 hd hp (by rw [ab_to hx]; exact ho) ht (k p e s m args below meth c C H locs lsr hR hO hL hl)
theorem aw_le {ls' : List (Option ab_V)} (hle : ab_le ls' ls) (k : aW G Y R Z kc ks h pc ls' st) : aW G Y R Z kc ks h pc ls st := by
  intro p e s m args below meth c C H locs lsr hR hO hL hl
  exact k p e s m args below meth c C H locs lsr hR hO hL (ab_has_le hl hle)
theorem aw_widen {kc' ks' : Nat} (h1 : kc ≤ kc') (h2 : ks ≤ ks') (k : aW G Y R Z kc' ks' h pc ls st) : aW G Y R Z kc ks h pc ls st := by
  intro p e s m args below meth c C H locs lsr hR hO hL hl
  exact W.widen h1 h2 (k p e s m args below meth c C H locs lsr hR hO hL hl)
end AR
end
section
def ab_KC (k : Nat) (C : String) (T : u_T) (N : Nat) : Prop := k < 20 ∧ vwCl[k]? = some (C, T, N) ∧ (∀ j, j < N → parseFieldDescriptor (T j).2.2.1 = some (ab_ty k j)) ∧ (∀ a, a < N → ∀ b, b < N → a ≠ b → (T a).2.1 ≠ (T b).2.1) ∧ (∀ j, j < N → (T j).1 = C) ∧ ∀ w ∈ u_ws C T N, w ∈ lw_all
/-- the entry idx of the class own names field j of class k; fin: it is final -/
def ab_FL (own : String) (idx k j : Nat) (fin : Bool) : Prop := ∃ (C : String) (T : u_T) (N : Nat), ab_KC k C T N ∧ j < N ∧ (T j).2.2.2 = fin ∧ Cond.fieldLink own idx C (T j).2.1 (T j).2.2.1 ∈ lw_all
theorem ab_ad_lt {G : ab_G} {i : Nat} (h : i < 1000) : ab_ad G i = ab_B G + i := if_pos h
theorem ab_ad_ge {G : ab_G} {i : Nat} (h : 1000 ≤ i) : ab_ad G i = ab_ax G i := if_neg (by omega)
theorem ab_cell.kept {G : ab_G} {I I' : Nat → Nat → Int} {F F' : Nat → Nat → Nat} {i : Nat} {H H' : Heap} (h : ab_cell G I F i H) (hq : H'[ab_ad G i]? = H[ab_ad G i]?) (hI : ∀ j, I' i j = I i j) (hF : ∀ j, F' i j = F i j) : ab_cell G I' F' i H' := by
  unfold ab_cell at h ⊢
  split at h
  · rename_i hk
    rw [if_pos hk]
    obtain ⟨q, h1, h2⟩ := h
    exact ⟨q, h1, (h2.kept hq).to (fun j _ => by rw [hI, hF])⟩
  · rename_i hk
    rw [if_neg hk, hq, h]
    congr 2
    funext j
    rw [hI, hF]
theorem ab_Rep.put {G : ab_G} {n i : Nat} {I I' : Nat → Nat → Int} {F F' : Nat → Nat → Nat} {H H' : Heap} (h : ab_Rep G (n, I, F) H) (hi : 1 ≤ i ∧ i ≤ n) (hz : H'.size = H.size) (ho : ∀ q : Nat, q ≠ ab_ad G i → H'[q]? = H[q]?)
    (hI : ∀ a j, a ≠ i → I' a j = I a j) (hF : ∀ a j, a ≠ i → F' a j = F a j) (hc : ab_cell G I' F' i H') : ab_Rep G (n, I', F') H' := by
  obtain ⟨h1, h2, h3⟩ := h
  refine ⟨h1, hz.trans h2, fun a h4 h5 => ?_⟩
  by_cases hai : a = i
  · subst hai; exact hc
  · have h1' : n < 1000 := h1
    have h5' : a ≤ n := h5
    refine (h3 a h4 h5).kept (ho _ ?_) (fun j => hI a j hai) (fun j => hF a j hai)
    rw [ab_ad_lt (by omega), ab_ad_lt (by omega)]
    omega
theorem ab_cellO {G : ab_G} {n : Nat} {I : Nat → Nat → Int} {F : Nat → Nat → Nat} {H : Heap} {i k : Nat} {C : String} {T : u_T} {N : Nat} (hR : ab_Rep G (n, I, F) H) (hi : 1 ≤ i ∧ i ≤ n) (hk : (ab_sh i).1 = k) (hc : ab_KC k C T N) : t_OB (ab_ad G i) (G.2.1 k) N (G.2.2.1 k) H (fun j => ab_sv G (ab_tag (ab_ty k j)) (I i j) (F i j)) := by
  have h := hR.2.2 i hi.1 hi.2
  unfold ab_cell at h
  rw [if_pos (by rw [hk]; exact hc.1), hk] at h
  obtain ⟨q, h1, h2⟩ := h
  have hq : q = (C, T, N) := Option.some.inj (h1.symm.trans hc.2.1)
  subst hq
  exact h2
theorem ab_cellA {G : ab_G} {n : Nat} {I : Nat → Nat → Int} {F : Nat → Nat → Nat} {H : Heap} {i k l : Nat} (hR : ab_Rep G (n, I, F) H) (hi : 1 ≤ i ∧ i ≤ n) (hk : ab_sh i = (k, l)) (hk2 : 20 ≤ k) : H[ab_ad G i]? = some (arrV (ab_cT G k) l (fun j => ab_sv G (ab_tag (ab_et k)) (I i j) (F i j))) := by
  have h := hR.2.2 i hi.1 hi.2
  unfold ab_cell at h
  rw [if_neg (by rw [hk]; exact Nat.not_lt.mpr hk2), hk] at h
  exact h
theorem ab_u_s {I : Nat → Nat → Int} {i j : Nat} {v : Int} : ab_u I i j v i j = v := if_pos ⟨rfl, rfl⟩
theorem ab_u_i {I : Nat → Nat → Int} {i j a b : Nat} {v : Int} (h : a ≠ i) : ab_u I i j v a b = I a b := if_neg (fun e => h e.1)
theorem ab_u_j {I : Nat → Nat → Int} {i j a b : Nat} {v : Int} (h : b ≠ j) : ab_u I i j v a b = I a b := if_neg (fun e => h e.2)
theorem ab_w_s {I : Nat → Nat → Nat} {i j : Nat} {v : Nat} : ab_w I i j v i j = v := if_pos ⟨rfl, rfl⟩
theorem ab_w_i {I : Nat → Nat → Nat} {i j a b : Nat} {v : Nat} (h : a ≠ i) : ab_w I i j v a b = I a b := if_neg (fun e => h e.1)
theorem ab_w_j {I : Nat → Nat → Nat} {i j a b : Nat} {v : Nat} (h : b ≠ j) : ab_w I i j v a b = I a b := if_neg (fun e => h e.2)
theorem ab_ixn {j : Int} {l : Nat} (h0 : 0 ≤ j) (hl : j < l) (hl2 : l < 1000000) : (Int32.ofInt j).toNatClampNeg = j.toNat ∧ ¬ (Int32.ofInt j < 0 ∨ l ≤ (Int32.ofInt j).toNatClampNeg) := by
  have e1 : (Int32.ofInt j).toNatClampNeg = j.toNat := by
    show (Int32.ofInt j).toInt.toNat = _
    rw [ab_to ⟨by omega, by omega⟩]
  refine ⟨e1, fun h => ?_⟩
  rcases h with h | h
  · have := (ab_lti (x := j) (y := 0) ⟨by omega, by omega⟩ ab_in0).mp h
    omega
  · rw [e1] at h
    omega
section AH
variable {G : ab_G} {Y : ab_Y} {R : Room} {Z : ab_Zt} {kc ks : Nat} {n : Nat} {I : Nat → Nat → Int} {F : Nat → Nat → Nat} {pc : Nat} {ls : List (Option ab_V)} {st : List ab_V}
theorem aw_getc {idx k j i : Nat} {fin : Bool} {v : ab_V} (hd : decode Y.2.1 pc = .ok (.getfield idx, 3)) (hF : ab_FL Y.1.cls idx k j fin) (hi : 1 ≤ i ∧ i ≤ n) (hk : (ab_sh i).1 = k) (hv : ab_c G v = ab_sv G (ab_tag (ab_ty k j)) (I i j) (F i j))
    (kk : aW G Y R Z kc ks (n, I, F) (pc + 3) ls (v :: st)) : aW G Y R Z kc ks (n, I, F) pc ls (ab_r i :: st) := by
  intro p e s m args below meth c Cx H locs lsr hR hO hL hl
  have k9 := kk p e s m args below meth c Cx H locs lsr hR hO hL hl
  obtain ⟨C, T, N, hKC, hj, -, hln⟩ := hF
  obtain ⟨cell, q1, q2, q3, q4⟩ := ab_cellO hR hi hk hKC
  have hts := Cx.2.2.2.2.2.1
  obtain ⟨hS, hfc, kC, hkC, hkind⟩ := Cx.2.2.2.2.2.2.2.2.1.1 k _ hKC.2.1
  obtain ⟨cf, kf, fi, f, hfi, hsl⟩ := hS j hj
  rw [List.map_cons, aw_rv (by omega)]
  refine W.getf Cx.1 Cx.2.1 Cx.2.2.2.2.1 (hts _ hln) ((hKC.2.2.2.2.1 j hj) ▸ hfi) (u_facts hfc hkC (u_lays hts hKC.2.2.2.2.2 hj) hfi).1 q1 (by rw [q3]; exact fun h => by cases h) (v := ab_c G v) ?_ rfl rfl hd k9
  rw [hsl, q4 j hj, hv]
theorem aw_geti {idx k j i : Nat} {fin : Bool} (hd : decode Y.2.1 pc = .ok (.getfield idx, 3)) (hF : ab_FL Y.1.cls idx k j fin) (hi : 1 ≤ i ∧ i ≤ n) (hk : (ab_sh i).1 = k) (ht : ab_tag (ab_ty k j) = 0) (kk : aW G Y R Z kc ks (n, I, F) (pc + 3) ls (ab_i (I i j) :: st)) : aW G Y R Z kc ks (n, I, F) pc ls (ab_r i :: st) :=
  aw_getc hd hF hi hk (by rw [ht]; rfl) kk
theorem aw_getr {idx k j i : Nat} {fin : Bool} (hd : decode Y.2.1 pc = .ok (.getfield idx, 3)) (hF : ab_FL Y.1.cls idx k j fin) (hi : 1 ≤ i ∧ i ≤ n) (hk : (ab_sh i).1 = k) (ht : ab_tag (ab_ty k j) = 1) (kk : aW G Y R Z kc ks (n, I, F) (pc + 3) ls (ab_r (F i j) :: st)) : aW G Y R Z kc ks (n, I, F) pc ls (ab_r i :: st) :=
  aw_getc hd hF hi hk (by rw [ht]; rfl) kk
theorem aw_getl {idx k j i : Nat} {fin : Bool} (hd : decode Y.2.1 pc = .ok (.getfield idx, 3)) (hF : ab_FL Y.1.cls idx k j fin) (hi : 1 ≤ i ∧ i ≤ n) (hk : (ab_sh i).1 = k) (ht : ab_tag (ab_ty k j) = 2) (kk : aW G Y R Z kc ks (n, I, F) (pc + 3) ls (ab_l (I i j) :: st)) : aW G Y R Z kc ks (n, I, F) pc ls (ab_r i :: st) :=
  aw_getc hd hF hi hk (by rw [ht]; rfl) kk
theorem ab_fit {k j : Nat} (v : ab_V) (hv : ∃ x r, ab_c G v = ab_sv G (ab_tag (ab_ty k j)) x r) (hty : ab_ty k j = .int ∨ ab_ty k j = .long ∨ ab_tag (ab_ty k j) = 1) : narrow (ab_ty k j) (ab_c G v) = ab_c G v ∧ fits (ab_ty k j) (ab_c G v) = true := by
  obtain ⟨x, r, hv⟩ := hv
  rw [hv]
  rcases hty with h | h | h
  · rw [h]; exact ⟨rfl, rfl⟩
  · rw [h]; exact ⟨rfl, rfl⟩
  · rw [h]
    show narrow _ (ab_rv G r) = ab_rv G r ∧ fits _ (ab_rv G r) = true
    unfold ab_rv
    cases hq : ab_ty k j with
    | object C => split <;> exact ⟨rfl, rfl⟩
    | array t => split <;> exact ⟨rfl, rfl⟩
    | _ => rw [hq] at h; cases h
theorem aw_putc {idx k j i : Nat} {v : ab_V} {I' : Nat → Nat → Int} {F' : Nat → Nat → Nat} (fin : Bool) (hfin : fin = true → Y.1.name = "<init>" ∧ ∃ (T : u_T) (N : Nat), vwCl[k]? = some (Y.1.cls, T, N)) (hd : decode Y.2.1 pc = .ok (.putfield idx, 3)) (hF : ab_FL Y.1.cls idx k j fin) (hi : 1 ≤ i ∧ i ≤ n) (hk : (ab_sh i).1 = k) (hty : ab_ty k j = .int ∨ ab_ty k j = .long ∨ ab_tag (ab_ty k j) = 1)
    (hv : ab_c G v = ab_sv G (ab_tag (ab_ty k j)) (I' i j) (F' i j)) (hI : ∀ a b, ¬ (a = i ∧ b = j) → I' a b = I a b) (hF' : ∀ a b, ¬ (a = i ∧ b = j) → F' a b = F a b)
    (kk : aW G Y R Z kc ks (n, I', F') (pc + 3) ls st) : aW G Y R Z kc ks (n, I, F) pc ls (v :: ab_r i :: st) := by
  intro p e s m args below meth c Cx H locs lsr hR hO hL hl
  obtain ⟨C, T, N, hKC, hj, hfn, hln⟩ := hF
  obtain ⟨cell, q1, q2, q3, q4⟩ := ab_cellO hR hi hk hKC
  have hts := Cx.2.2.2.2.2.1
  have hK := Cx.2.2.2.2.2.2.2.2.1
  obtain ⟨hS, hfc, kC, hkC, hkind⟩ := hK.1 k _ hKC.2.1
  obtain ⟨cf, kf, fi, f, hfi, hsl⟩ := hS j hj
  have hap := va_apart (own := C) hts hKC.2.2.2.2.2 (ab_ty k) hKC.2.2.1 hKC.2.2.2.1 hK hKC.2.1
  have hi0 : i < 1000 := Nat.lt_of_le_of_lt hi.2 hR.1
  have hst := (u_facts hfc hkC (u_lays hts hKC.2.2.2.2.2 hj) hfi).1
  have hlay := hts _ (hKC.2.2.2.2.2 _ (u_in_lay hj))
  unfold u_lay at hlay
  obtain ⟨hn9, hf9⟩ := ab_fit (G := G) v ⟨_, _, hv⟩ hty
  have fi' : s.fieldFound? C (T j).2.1 (T j).2.2.1 = some (cf, kf, fi, f) := (hKC.2.2.2.2.1 j hj) ▸ hfi
  have fin9 : ∀ H' : Heap, H'[ab_ad G i]? = some (cell.setSlot f.slot (ab_c G v)) → H'.size = H.size → (∀ q, q ≠ ab_ad G i → H'[q]? = H[q]?) → W p G.1 e R s m args below meth c H' (locs ++ [⟨ab_ad G i, f.slot⟩]) kc ks (Z below args s) (F0 m (pc + 3) lsr (st.map (ab_c G))) := by
    intro H' e1 e2 e3
    have hB : ab_ad G i = ab_B G + i := ab_ad_lt hi0
    refine kk p e s m args below meth c Cx H' _ lsr (hR.put hi e2 e3 (fun a b h => hI a b (fun q => h q.1)) (fun a b h => hF' a b (fun q => h q.1)) ?_) (fun q hq => by rw [e3 q (by omega)]; exact hO q hq) (fun q hq => ?_) hl
    · unfold ab_cell
      rw [if_pos (by rw [hk]; exact hKC.1), hk]
      refine ⟨_, hKC.2.1, t_OB.to (V := updV (fun j => ab_sv G (ab_tag (ab_ty k j)) (I i j) (F i j)) j (ab_c G v)) ⟨_, e1, q2, q3, ?_⟩ (fun b hb => ?_)⟩
      · rw [hsl]
        exact t_set q4 hap hj _
      · unfold updV
        by_cases hbj : b = j
        · subst hbj
          rw [if_pos rfl, hv]
        · rw [if_neg hbj, hI i b (fun q => hbj q.2), hF' i b (fun q => hbj q.2)]
    · rcases List.mem_append.mp hq with h | h
      · exact hL q h
      · rw [List.mem_singleton.mp h]
        show ab_B G < ab_ad G i
        omega
  rw [List.map_cons, List.map_cons, aw_rv (by omega)]
  cases fin with
  | false =>
    rw [if_neg (by rw [hfn]; decide)] at hlay
    have h6 := u_store hfc hkC hkind hlay hfi (hKC.2.2.1 j hj) hn9 hf9
    exact W.putK Cx.1 Cx.2.1 (f := f) ⟨Cx.2.2.2.2.1, hts _ hln, ⟨_, _, _, fi'⟩, hst⟩ (by rw [q2]; exact h6) q1 q3 (by rw [hsl]; exact k2_hasslot (q4 j hj)) rfl rfl hd fin9
  | true =>
    rw [if_pos hfn] at hlay
    obtain ⟨hin, T2, N2, hown2⟩ := hfin rfl
    have hC : C = Y.1.cls := by
      have := hKC.2.1.symm.trans hown2
      exact congrArg Prod.fst (Option.some.inj this)
    have hcf : m.cls = cf := by
      obtain ⟨_, _, c', _, _, _, -, -, hf', -, -, -, hown3, -⟩ := Cond.laysFinal_spec hlay
      have e1 : c' = cf := by have := hfi.symm.trans hf'; simp at this; exact this.1.symm
      rw [hKC.2.2.2.2.1 j hj, hC] at hown3
      rw [← e1]; exact Option.some.inj (Cx.2.2.2.2.1.symm.trans hown3)
    have h6 := u_fits hfc hkC hkind (Or.inr hlay) hfi (hKC.2.2.1 j hj) hn9 hf9
    exact W.putFinK Cx.1 Cx.2.1 Cx.2.2.2.2.1 (hts _ hln) fi' hst hcf (Cx.2.2.2.2.2.2.2.1.trans hin) (by rw [q2]; exact h6) q1 q3 (by rw [hsl]; exact k2_hasslot (q4 j hj)) rfl rfl hd fin9
theorem aw_puti {idx k j i : Nat} {x : Int} (hd : decode Y.2.1 pc = .ok (.putfield idx, 3)) (hF : ab_FL Y.1.cls idx k j false) (hi : 1 ≤ i ∧ i ≤ n) (hk : (ab_sh i).1 = k) (ht : ab_ty k j = .int) (kk : aW G Y R Z kc ks (n, ab_u I i j x, F) (pc + 3) ls st) : aW G Y R Z kc ks (n, I, F) pc ls (ab_i x :: ab_r i :: st) :=
  aw_putc false (fun h => by cases h) hd hF hi hk (Or.inl ht) (by rw [ht, if_pos ⟨rfl, rfl⟩]; rfl) (fun a b h => if_neg h) (fun _ _ _ => rfl) kk
theorem aw_putl {idx k j i : Nat} {x : Int} (hd : decode Y.2.1 pc = .ok (.putfield idx, 3)) (hF : ab_FL Y.1.cls idx k j false) (hi : 1 ≤ i ∧ i ≤ n) (hk : (ab_sh i).1 = k) (ht : ab_ty k j = .long) (kk : aW G Y R Z kc ks (n, ab_u I i j x, F) (pc + 3) ls st) : aW G Y R Z kc ks (n, I, F) pc ls (ab_l x :: ab_r i :: st) :=
  aw_putc false (fun h => by cases h) hd hF hi hk (Or.inr (Or.inl ht)) (by rw [ht, if_pos ⟨rfl, rfl⟩]; rfl) (fun a b h => if_neg h) (fun _ _ _ => rfl) kk
theorem aw_putF {idx k j i r : Nat} (hd : decode Y.2.1 pc = .ok (.putfield idx, 3)) (hF : ab_FL Y.1.cls idx k j true) (hi : 1 ≤ i ∧ i ≤ n) (hk : (ab_sh i).1 = k) (ht : ab_tag (ab_ty k j) = 1) (hy : Y.1.name = "<init>") (hc : ∃ (T : u_T) (N : Nat), vwCl[k]? = some (Y.1.cls, T, N)) (kk : aW G Y R Z kc ks (n, I, ab_w F i j r) (pc + 3) ls st) : aW G Y R Z kc ks (n, I, F) pc ls (ab_r r :: ab_r i :: st) :=
  aw_putc true (fun _ => ⟨hy, hc⟩) hd hF hi hk (Or.inr (Or.inr ht)) (by rw [ht, if_pos ⟨rfl, rfl⟩]; rfl) (fun _ _ _ => rfl) (fun a b h => if_neg h) kk
-- arrays
theorem aw_iald {i l : Nat} {j : Int} (hd : decode Y.2.1 pc = .ok (.iaload, 1)) (hi : 1 ≤ i ∧ i ≤ n) (hk : ab_sh i = (20, l)) (h0 : 0 ≤ j) (hl9 : j < l) (hz : l < 1000000) (kk : aW G Y R Z kc ks (n, I, F) (pc + 1) ls (ab_i (I i j.toNat) :: st)) : aW G Y R Z kc ks (n, I, F) pc ls (ab_i j :: ab_r i :: st) := by
  intro p e s m args below meth c Cx H locs lsr hR hO hL hl
  have k9 := kk p e s m args below meth c Cx H locs lsr hR hO hL hl
  obtain ⟨e1, e2⟩ := ab_ixn h0 hl9 hz
  rw [List.map_cons, List.map_cons, aw_rv (by omega)]
  refine W.iald Cx.1 Cx.2.1 (ab_cellA hR hi hk (by omega)) ((Cx.2.2.2.2.2.2.2.2.1.2 0 (_, .int) rfl).1 l _) (fun h => by cases h) (by rw [arrV_size]; exact e2) (v := .int (Int32.ofInt (I i j.toNat))) ?_ rfl rfl hd k9
  rw [e1, arrV_read _ _ (by omega)]
  rfl
theorem aw_cald {i l : Nat} {j : Int} (hd : decode Y.2.1 pc = .ok (.caload, 1)) (hi : 1 ≤ i ∧ i ≤ n) (hk : ab_sh i = (21, l)) (h0 : 0 ≤ j) (hl9 : j < l) (hz : l < 1000000) (kk : aW G Y R Z kc ks (n, I, F) (pc + 1) ls (ab_i (I i j.toNat) :: st)) : aW G Y R Z kc ks (n, I, F) pc ls (ab_i j :: ab_r i :: st) := by
  intro p e s m args below meth c Cx H locs lsr hR hO hL hl
  have k9 := kk p e s m args below meth c Cx H locs lsr hR hO hL hl
  obtain ⟨e1, e2⟩ := ab_ixn h0 hl9 hz
  rw [List.map_cons, List.map_cons, aw_rv (by omega)]
  refine W.cald Cx.1 Cx.2.1 (ab_cellA hR hi hk (by omega)) ((Cx.2.2.2.2.2.2.2.2.1.2 1 (_, .char) rfl).1 l _) (fun h => by cases h) (by rw [arrV_size]; exact e2) (v := .int (Int32.ofInt (I i j.toNat))) ?_ rfl rfl hd k9
  rw [e1, arrV_read _ _ (by omega)]
  rfl
theorem aw_zald {i l : Nat} {j : Int} (hd : decode Y.2.1 pc = .ok (.baload, 1)) (hi : 1 ≤ i ∧ i ≤ n) (hk : ab_sh i = (22, l)) (h0 : 0 ≤ j) (hl9 : j < l) (hz : l < 1000000) (kk : aW G Y R Z kc ks (n, I, F) (pc + 1) ls (ab_i (I i j.toNat) :: st)) : aW G Y R Z kc ks (n, I, F) pc ls (ab_i j :: ab_r i :: st) := by
  intro p e s m args below meth c Cx H locs lsr hR hO hL hl
  have k9 := kk p e s m args below meth c Cx H locs lsr hR hO hL hl
  obtain ⟨e1, e2⟩ := ab_ixn h0 hl9 hz
  rw [List.map_cons, List.map_cons, aw_rv (by omega)]
  refine W.zald Cx.1 Cx.2.1 (ab_cellA hR hi hk (by omega)) ((Cx.2.2.2.2.2.2.2.2.1.2 2 (_, .boolean) rfl).1 l _) (fun h => by cases h) (by rw [arrV_size]; exact e2) (v := .int (Int32.ofInt (I i j.toNat))) ?_ rfl rfl hd k9
  rw [e1, arrV_read _ _ (by omega)]
  rfl
theorem aw_aald {i l k : Nat} {j : Int} (hd : decode Y.2.1 pc = .ok (.aaload, 1)) (hi : 1 ≤ i ∧ i ≤ n) (hk : ab_sh i = (k, l)) (hk2 : k = 23 ∨ k = 24) (h0 : 0 ≤ j) (hl9 : j < l) (hz : l < 1000000) (kk : aW G Y R Z kc ks (n, I, F) (pc + 1) ls (ab_r (F i j.toNat) :: st)) : aW G Y R Z kc ks (n, I, F) pc ls (ab_i j :: ab_r i :: st) := by
  intro p e s m args below meth c Cx H locs lsr hR hO hL hl
  have k9 := kk p e s m args below meth c Cx H locs lsr hR hO hL hl
  obtain ⟨e1, e2⟩ := ab_ixn h0 hl9 hz
  rw [List.map_cons, List.map_cons, aw_rv (by omega)]
  rcases hk2 with rfl | rfl
  · refine W.aald Cx.1 Cx.2.1 (ab_cellA hR hi hk (by omega)) ((Cx.2.2.2.2.2.2.2.2.1.2 3 (_, .array .int) rfl).1 l _) rfl (fun h => by cases h) (by rw [arrV_size]; exact e2) (v := ab_rv G (F i j.toNat)) ?_ rfl rfl hd k9
    rw [e1, arrV_read _ _ (by omega)]
    rfl
  · refine W.aald Cx.1 Cx.2.1 (ab_cellA hR hi hk (by omega)) ((Cx.2.2.2.2.2.2.2.2.1.2 4 (_, .object "ThreeOffers$Person") rfl).1 l _) rfl (fun h => by cases h) (by rw [arrV_size]; exact e2) (v := ab_rv G (F i j.toNat)) ?_ rfl rfl hd k9
    rw [e1, arrV_read _ _ (by omega)]
    rfl
theorem ab_put_arr {s : State} {H H' : Heap} {i k l j : Nat} {v : Value} {I' : Nat → Nat → Int} {F' : Nat → Nat → Nat} (hR : ab_Rep G (n, I, F) H) (hi : 1 ≤ i ∧ i ≤ n) (hk : ab_sh i = (k, l)) (hk2 : 20 ≤ k) (e1 : H'[ab_ad G i]? = some ((arrV (ab_cT G k) l (fun j => ab_sv G (ab_tag (ab_et k)) (I i j) (F i j))).setSlot j v)) (e2 : H'.size = H.size) (e3 : ∀ q : Nat, q ≠ ab_ad G i → H'[q]? = H[q]?)
    (hv : v = ab_sv G (ab_tag (ab_et k)) (I' i j) (F' i j)) (hI : ∀ a b, ¬ (a = i ∧ b = j) → I' a b = I a b) (hF' : ∀ a b, ¬ (a = i ∧ b = j) → F' a b = F a b) : ab_Rep G (n, I', F') H' := by
  refine hR.put hi e2 e3 (fun a b h => hI a b (fun q => h q.1)) (fun a b h => hF' a b (fun q => h q.1)) ?_
  unfold ab_cell
  rw [if_neg (by rw [hk]; exact Nat.not_lt.mpr hk2), hk, e1, arrV_store]
  congr 2
  funext b
  unfold updV
  by_cases hbj : b = j
  · subst hbj
    rw [if_pos rfl, hv]
  · rw [if_neg hbj, hI i b (fun q => hbj q.2), hF' i b (fun q => hbj q.2)]
theorem aw_iast {i l : Nat} {j x : Int} (hd : decode Y.2.1 pc = .ok (.iastore, 1)) (hi : 1 ≤ i ∧ i ≤ n) (hk : ab_sh i = (20, l)) (h0 : 0 ≤ j) (hl9 : j < l) (hz : l < 1000000) (kk : aW G Y R Z kc ks (n, ab_u I i j.toNat x, F) (pc + 1) ls st) : aW G Y R Z kc ks (n, I, F) pc ls (ab_i x :: ab_i j :: ab_r i :: st) := by
  intro p e s m args below meth c Cx H locs lsr hR hO hL hl
  obtain ⟨e1, e2⟩ := ab_ixn h0 hl9 hz
  have hB : ab_ad G i = ab_B G + i := ab_ad_lt (Nat.lt_of_le_of_lt hi.2 hR.1)
  rw [List.map_cons, List.map_cons, List.map_cons, aw_rv (by omega)]
  refine W.iast Cx.1 Cx.2.1 (ab_cellA hR hi hk (by omega)) ((Cx.2.2.2.2.2.2.2.2.1.2 0 (_, .int) rfl).1 l _) (fun h => by cases h) (by rw [arrV_size]; exact e2) rfl rfl hd (fun H' a1 a2 a3 => ?_)
  refine kk p e s m args below meth c Cx H' _ lsr (ab_put_arr (s := s) hR hi hk (by omega) (j := j.toNat) (by rw [a1, e1]) a2 a3 (by rw [ab_u_s]; rfl) (fun a b h => if_neg h) (fun _ _ _ => rfl)) (fun q hq => by rw [a3 q (by intro z; subst z; omega)]; exact hO q hq) (fun q hq => ?_) hl
  rcases List.mem_append.mp hq with h | h
  · exact hL q h
  · rw [List.mem_singleton.mp h]
    show ab_B G < ab_ad G i
    omega
theorem aw_cast {i l : Nat} {j x : Int} (hd : decode Y.2.1 pc = .ok (.castore, 1)) (hi : 1 ≤ i ∧ i ≤ n) (hk : ab_sh i = (21, l)) (h0 : 0 ≤ j) (hl9 : j < l) (hz : l < 1000000) (hx : (Int32.ofInt x).toUInt32.toUInt16.toUInt32.toInt32 = Int32.ofInt x) (kk : aW G Y R Z kc ks (n, ab_u I i j.toNat x, F) (pc + 1) ls st) : aW G Y R Z kc ks (n, I, F) pc ls (ab_i x :: ab_i j :: ab_r i :: st) := by
  intro p e s m args below meth c Cx H locs lsr hR hO hL hl
  obtain ⟨e1, e2⟩ := ab_ixn h0 hl9 hz
  have hB : ab_ad G i = ab_B G + i := ab_ad_lt (Nat.lt_of_le_of_lt hi.2 hR.1)
  rw [List.map_cons, List.map_cons, List.map_cons, aw_rv (by omega)]
  refine W.cast Cx.1 Cx.2.1 (ab_cellA hR hi hk (by omega)) ((Cx.2.2.2.2.2.2.2.2.1.2 1 (_, .char) rfl).1 l _) (fun h => by cases h) (by rw [arrV_size]; exact e2) rfl rfl hd (fun H' a1 a2 a3 => ?_)
  refine kk p e s m args below meth c Cx H' _ lsr (ab_put_arr (s := s) hR hi hk (by omega) (j := j.toNat) (by rw [a1, e1]) a2 a3 (by rw [ab_u_s]; first | exact congrArg Value.int hx | (simp only [narrow]; exact congrArg Value.int hx)) (fun a b h => if_neg h) (fun _ _ _ => rfl)) (fun q hq => by rw [a3 q (by intro z; subst z; omega)]; exact hO q hq) (fun q hq => ?_) hl
  rcases List.mem_append.mp hq with h | h
  · exact hL q h
  · rw [List.mem_singleton.mp h]
    show ab_B G < ab_ad G i
    omega
theorem aw_zast {i l : Nat} {j x : Int} (hd : decode Y.2.1 pc = .ok (.bastore, 1)) (hi : 1 ≤ i ∧ i ≤ n) (hk : ab_sh i = (22, l)) (h0 : 0 ≤ j) (hl9 : j < l) (hz : l < 1000000) (hx : x = 0 ∨ x = 1) (kk : aW G Y R Z kc ks (n, ab_u I i j.toNat x, F) (pc + 1) ls st) : aW G Y R Z kc ks (n, I, F) pc ls (ab_i x :: ab_i j :: ab_r i :: st) := by
  intro p e s m args below meth c Cx H locs lsr hR hO hL hl
  obtain ⟨e1, e2⟩ := ab_ixn h0 hl9 hz
  have hB : ab_ad G i = ab_B G + i := ab_ad_lt (Nat.lt_of_le_of_lt hi.2 hR.1)
  rw [List.map_cons, List.map_cons, List.map_cons, aw_rv (by omega)]
  refine W.zast Cx.1 Cx.2.1 (ab_cellA hR hi hk (by omega)) ((Cx.2.2.2.2.2.2.2.2.1.2 2 (_, .boolean) rfl).1 l _) (fun h => by cases h) (by rw [arrV_size]; exact e2) rfl rfl hd (fun H' a1 a2 a3 => ?_)
  refine kk p e s m args below meth c Cx H' _ lsr (ab_put_arr (s := s) hR hi hk (by omega) (j := j.toNat) (by rw [a1, e1]) a2 a3 (by rw [ab_u_s]; rcases hx with rfl | rfl <;> rfl) (fun a b h => if_neg h) (fun _ _ _ => rfl)) (fun q hq => by rw [a3 q (by intro z; subst z; omega)]; exact hO q hq) (fun q hq => ?_) hl
  rcases List.mem_append.mp hq with h | h
  · exact hL q h
  · rw [List.mem_singleton.mp h]
    show ab_B G < ab_ad G i
    omega
theorem aw_alen {i l k : Nat} (hd : decode Y.2.1 pc = .ok (.arraylength, 1)) (hi : 1 ≤ i ∧ i ≤ n) (hk : ab_sh i = (k, l)) (hk2 : k = 20) (kk : aW G Y R Z kc ks (n, I, F) (pc + 1) ls (ab_i (l : Int) :: st)) : aW G Y R Z kc ks (n, I, F) pc ls (ab_r i :: st) := by
  intro p e s m args below meth c Cx H locs lsr hR hO hL hl
  have k9 := kk p e s m args below meth c Cx H locs lsr hR hO hL hl
  subst hk2
  rw [List.map_cons, aw_rv (by omega)]
  refine W.alen Cx.1 Cx.2.1 (ab_cellA hR hi hk (by omega)) ((Cx.2.2.2.2.2.2.2.2.1.2 0 (_, .int) rfl).1 l _) (n := Int32.ofInt l) ?_ rfl rfl hd k9
  rw [arrV_size]
  exact Int32.ofInt_eq_ofNat.symm
end AH
end
section
def ab_Qc (G : ab_G) (Q : Option ab_V → ab_H → Prop) : Array Value → State → Outcome → State → Prop := fun _ st o t => ∃ (r : Option ab_V) (h' : ab_H), o = .returned (r.map (ab_c G)) ∧ Q r h' ∧ ab_Rep G h' t.heap ∧ ∀ q : Nat, q ≤ ab_B G → t.heap[q]? = st.heap[q]?
def ab_Pc (G : ab_G) (as : List ab_V) (h : ab_H) : Array Value → State → Prop := fun a U => a = (as.map (ab_c G)).toArray ∧ ab_Rep G h U.heap ∧ ab_Gl G U
abbrev ab_cw (Y : ab_Y) : Cond := Cond.code Y.1 Y.2.1 Y.2.2.1 Y.2.2.2
/-- THE CONTRACT: the method Y, called with the arguments as at the heap h, returns, and Q holds of its answer and of the heap then; d: how many frames it needs; mc, ms: cells and slots that it makes -/
def Ct (G : ab_G) (d mc ms : Nat) (Y : ab_Y) (as : List ab_V) (h : ab_H) (Q : Option ab_V → ab_H → Prop) : Prop :=
  Met G.1 Y.1 (ab_cw Y :: lw_all) (ab_rm d mc ms) (ab_Pc G as h) (ab_Qc G Q) mc ms (ab_A G)
def ab_Z (G : ab_G) (Q : Option ab_V → ab_H → Prop) (mc ms : Nat) : ab_Zt := fun below args s => MQ below (ab_Qc G Q) args s mc ms (ab_A G)
/-- what is known of a method by the tables: np parameters (the receiver not counted) -/
def ab_YK (Y : ab_Y) (np : Nat) : Prop := ab_cw Y ∈ lw_all ∧ Cond.initialized Y.1.cls ∈ lw_all ∧ (Y.1.cls ≠ "java/lang/invoke/MethodHandle" ∧ Y.1.cls ≠ "java/lang/invoke/VarHandle") ∧ (parseMethodDescriptor Y.1.desc).map (fun d => d.parameters.length) = some np ∧ plainName Y.1.cls = true
theorem ab_goods {Y : ab_Y} (h : ab_cw Y ∈ lw_all) : GoodIn lw_all (ab_cw Y :: lw_all) := fun w hw => by
  rcases List.mem_cons.mp hw with e | e
  · subst e; exact ⟨h, good_of_word (List.mem_filter.mp h).2⟩
  · exact ⟨e, good_of_word (List.mem_filter.mp e).2⟩
theorem ab_blind {G : ab_G} {as : List ab_V} {h : ab_H} : FrameBlind (ab_Pc G as h) := fun a U g mk q => ⟨q.1, q.2.1, q.2.2.same (s := U) (U := U.calling g mk a) rfl rfl⟩
theorem Ct.ofW {G : ab_G} {d mc ms np : Nat} {Y : ab_Y} {as : List ab_V} {h : ab_H} {Q : Option ab_V → ab_H → Prop} (hY : ab_YK Y np) {ls : List (Option ab_V)} (hn : (ab_en as).length ≤ Y.2.2.1) (hls : ab_en as ++ List.replicate (Y.2.2.1 - (ab_en as).length) none = ls) (body : aW G Y (ab_rm d mc ms) (ab_Z G Q mc ms) 0 0 h 0 ls []) : Ct G d mc ms Y as h Q := by
  refine Met.ofW (cc := Y.2.1) (maxL := Y.2.2.1) (ret := Y.2.2.2) hY.2.2.2.2 rfl ?_
  intro p e s m args below meth c s₁ B hml hv
  obtain ⟨rfl, hR, hG⟩ := hv
  have hts := atoms_spec (ws := ab_cw Y :: lw_all) B.pre
  have hl := lv_entry (as.map (ab_c G)) (n := Y.2.2.1) (by rw [ab_en_len]; exact hn)
  rw [lg_entry_eq]
  rw [ab_en_args G as 0] at hl
  subst hls
  exact body p e s m _ below meth c ⟨B.exec, B.bytes, B.returns, hml, findClass_of_methodNamed B.named, fun w hw => hts w (List.mem_cons_of_mem _ hw), B.notSynchronized, (name_of_methodNamed B.named B.method).1, hG⟩ s.heap [] _ hR (fun _ _ => rfl) (fun _ h => by cases h) (ab_lo_pad G _ _ hl)
/-- a contract with a weaker end, more room -/
theorem Ct.mono {G : ab_G} {d mc ms : Nat} {Y : ab_Y} {as : List ab_V} {h : ab_H} {Q Q' : Option ab_V → ab_H → Prop} (hC : Ct G d mc ms Y as h Q) (hQ : ∀ r h', Q r h' → Q' r h') : Ct G d mc ms Y as h Q' := by
  intro p e ha hc hk s m args below hf happ hP hK
  obtain ⟨k, o, h1, h2, h3, ⟨r, h', hq⟩, hL⟩ := hC p e ha hc hk s m args below hf happ hP hK
  exact ⟨k, o, h1, h2, h3, ⟨r, h', hq.1, hQ r h' hq.2.1, hq.2.2⟩, hL⟩
theorem ab_cats {G : ab_G} : ∀ (rest : List ab_V), (((rest.map (ab_c G)).map fun v => v.category)).sum ≤ 2 * rest.length
  | [] => by simp
  | v :: t => by
    have := ab_cats (G := G) t
    have hc : (ab_c G v).category ≤ 2 := by rw [ab_cat]; split <;> omega
    simp only [List.map_cons, List.sum_cons, List.length_cons]
    omega
theorem ab_callOK {G : ab_G} {Y' : ab_Y} {d' mc ms np idx : Nat} {R : Room} {s : State} {args : Array Value} {own : String} (hts : ∀ w ∈ lw_all, w.before args s = true) (hY : ab_YK Y' np) (hl : Cond.methodLink own idx Y'.1 ∈ lw_all) (h1 : d' + 1 ≤ R.frames) (h2 : 64 * d' + 19 + Y'.2.2.1 ≤ R.locals) : CallB R s args own idx Y'.1 Y'.2.1 Y'.2.2.1 Y'.2.2.2 (ab_cw Y' :: lw_all) (ab_rm d' mc ms) mc ms np := by
  refine ⟨rfl, rfl, h1, by show 8 + (Y'.2.2.1 + 11) + 64 * d' ≤ _; omega, pay_in hts (ab_goods hY.1), List.mem_cons_self, hts _ hY.1, hts _ hY.2.1, hY.2.2.1, fun sig h => ?_, hts _ hl⟩
  have h2 := hY.2.2.2.1
  rw [h] at h2
  exact (Option.some.inj h2).symm
section AC
variable {G : ab_G} {Y : ab_Y} {R : Room} {Z : ab_Zt} {kc ks : Nat} {h : ab_H} {pc : Nat} {ls : List (Option ab_V)} {st : List ab_V}
theorem ab_after {p : Program} {e : Env} {s : State} {m : MethodId} {args : Array Value} {below : List Frame} {meth : Method} {c : Code} {H : Heap} {locs : List Loc} {lsr : Array Slot} {mc ms : Nat} {rest : List ab_V} {a : Array Value} {Q' : Option ab_V → ab_H → Prop} {st0 : List Value}
    (Cx : ab_Cx G Y p s m args meth c) (hO : ∀ q : Nat, q ≤ ab_B G → H[q]? = s.heap[q]?) (hL : ∀ q ∈ locs, ab_B G < q.base) (hl : lv_has lsr Y.2.2.1 (ab_lo G 0 ls))
    (hr : va_Run p G.1 e R s m args below meth c H locs kc ks mc ms (F0 m pc lsr st0) (rest.map (ab_c G)) (ab_Qc G Q' a) (ab_A G))
    (kk : ∀ (r : Option ab_V) (h' : ab_H), Q' r h' → aW G Y R Z (kc + mc) (ks + ms) h' (pc + 3) ls (r.toList ++ rest)) : W p G.1 e R s m args below meth c H locs kc ks (Z below args s) (F0 m pc lsr st0) := by
  intro T hT X
  obtain ⟨v, st₀, t, T', L, h0, X', hLf, e1, e2, ⟨r, h', hv, hQ', hR', hO'⟩, hgo⟩ := hr T hT X
  have hv' : v = r.map (ab_c G) := Outcome.returned.inj hv
  subst hv'
  obtain ⟨t2, a1, b1⟩ := kk r h' hQ' p e s m args below meth c Cx T'.heap (locs ++ L) lsr (by rw [e1]; exact hR') (fun q hq => by rw [e1, hO' q hq, h0]; exact hO q hq) (fun q hq => by
    rcases List.mem_append.mp hq with h9 | h9
    · exact hL q h9
    · exact hLf q h9) hl T' rfl X'
  refine ⟨t2, hgo t2 ?_, b1⟩
  have e9 : (r.toList ++ rest).map (ab_c G) = (r.map (ab_c G)).toList ++ rest.map (ab_c G) := by
    rw [List.map_append]; cases r <;> rfl
  rw [e9] at a1
  exact a1
theorem aw_callS {d' mc ms idx : Nat} {Y' : ab_Y} {as rest : List ab_V} {Q' : Option ab_V → ab_H → Prop} (hd : decode Y.2.1 pc = .ok (.invokestatic idx, 3)) (hM : Ct G d' mc ms Y' as h Q') (hY : ab_YK Y' as.length) (hs : Cond.static Y'.1 ∈ lw_all) (hlk : Cond.methodLink Y.1.cls idx Y'.1 ∈ lw_all) (hst : st = as.reverse ++ rest) (hw : rest.length ≤ 4) (h1 : d' + 1 ≤ R.frames) (h2 : 64 * d' + 19 + Y'.2.2.1 ≤ R.locals) (h3 : kc + mc ≤ R.cells) (h4 : ks + ms ≤ R.slots)
    (kk : ∀ (r : Option ab_V) (h' : ab_H), Q' r h' → aW G Y R Z (kc + mc) (ks + ms) h' (pc + 3) ls (r.toList ++ rest)) : aW G Y R Z kc ks h pc ls st := by
  intro p e s m args below meth c Cx H locs lsr hR hO hL hl
  have hts := Cx.2.2.2.2.2.1
  subst hst
  have hb : ab_B G < H.size := by rw [hR.2.1]; omega
  refine ab_after Cx hO hL hl (va_runS (As := as.map (ab_c G)) (Ts := lw_all) ⟨Cx.1, Cx.2.1, Cx.2.2.2.1, Cx.2.2.2.2.1, hts⟩ hM ⟨ab_callOK (G := G) hts hY hlk h1 h2, hts _ hs⟩ ⟨ab_blind, fun U hU hW => ⟨rfl, by rw [hU]; exact hR, Cx.2.2.2.2.2.2.2.2.warm hW (fun q hq => by rw [hU]; exact hO q hq) (by rw [hU]; exact hb)⟩⟩ rfl (by rw [List.length_map]) hl.1 (by show (as.reverse ++ rest).map _ = _; rw [List.map_append, List.map_reverse]) (by have := ab_cats (G := G) rest; show 2 * 0 + _ ≤ 8; omega) hd ⟨h3, h4⟩) kk
theorem ab_rcv {n : Nat} {I : Nat → Nat → Int} {F : Nat → Nat → Nat} {s : State} {H : Heap} {i k : Nat} {C : String} {T : u_T} {N : Nat} (hG : ab_Gl G s) (hR : ab_Rep G (n, I, F) H) (hi : 1 ≤ i ∧ i ≤ n) (hk : (ab_sh i).1 = k) (hc : ab_KC k C T N) : ∃ cellB : Cell, H[ab_ad G i]? = some cellB ∧ cellB.vm.isStatics = false ∧ s.vm.findClass C = some cellB.cls := by
  obtain ⟨cell, q1, q2, q3, q4⟩ := ab_cellO hR hi hk hc
  obtain ⟨hS, hfc, -⟩ := hG.1.1 k _ hc.2.1
  exact ⟨cell, q1, by rw [q3]; rfl, by rw [q2]; exact hfc⟩
theorem aw_callV {d' mc ms idx b k : Nat} {C : String} {T : u_T} {N : Nat} {Y' : ab_Y} {as rest : List ab_V} {Q' : Option ab_V → ab_H → Prop} (hd : decode Y.2.1 pc = .ok (.invokevirtual idx, 3)) (hM : Ct G d' mc ms Y' (ab_r b :: as) h Q') (hi : 1 ≤ b ∧ b ≤ h.1) (hk : (ab_sh b).1 = k) (hc : ab_KC k C T N) (hC : Y'.1.cls = C) (hY : ab_YK Y' as.length) (hin : Cond.instanceMethod Y'.1 ∈ lw_all) (hse : Cond.selects Y'.1.cls Y'.1 Y'.1 ∈ lw_all) (hlk : Cond.methodLink Y.1.cls idx Y'.1 ∈ lw_all) (hst : st = as.reverse ++ ab_r b :: rest) (hw : rest.length ≤ 4) (h1 : d' + 1 ≤ R.frames) (h2 : 64 * d' + 19 + Y'.2.2.1 ≤ R.locals) (h3 : kc + mc ≤ R.cells) (h4 : ks + ms ≤ R.slots)
    (kk : ∀ (r : Option ab_V) (h' : ab_H), Q' r h' → aW G Y R Z (kc + mc) (ks + ms) h' (pc + 3) ls (r.toList ++ rest)) : aW G Y R Z kc ks h pc ls st := by
  intro p e s m args below meth c Cx H locs lsr hR hO hL hl
  have hts := Cx.2.2.2.2.2.1
  subst hst
  have hb : ab_B G < H.size := by rw [hR.2.1]; omega
  have hG := Cx.2.2.2.2.2.2.2.2
  have e0 : ab_c G (ab_r b) = .ref (ab_ad G b) := aw_rv (by omega)
  subst hC
  refine ab_after Cx hO hL hl (va_runV (C := Y'.1.cls) (b := ab_ad G b) (As := as.map (ab_c G)) (Ts := lw_all) ⟨Cx.1, Cx.2.1, Cx.2.2.2.1, Cx.2.2.2.2.1, hts⟩ hM ⟨ab_callOK (G := G) hts hY hlk h1 h2, hts _ hin, hts _ hse⟩ ⟨ab_blind, ab_rcv (n := h.1) (I := h.2.1) (F := h.2.2) hG hR hi hk hc, fun U hU hW => ⟨by rw [List.map_cons, e0], by rw [hU]; exact hR, hG.warm hW (fun q hq => by rw [hU]; exact hO q hq) (by rw [hU]; exact hb)⟩⟩ rfl (by rw [List.length_map]) hl.1 (by show (as.reverse ++ ab_r b :: rest).map _ = _; rw [List.map_append, List.map_reverse, List.map_cons, e0]) (by have := ab_cats (G := G) rest; show 2 * 0 + _ ≤ 8; omega) hd ⟨h3, h4⟩) kk
theorem aw_callI {d' mc ms idx b : Nat} {Y' : ab_Y} {as rest : List ab_V} {Q' : Option ab_V → ab_H → Prop} (hd : decode Y.2.1 pc = .ok (.invokespecial idx, 3)) (hM : Ct G d' mc ms Y' (ab_r b :: as) h Q') (hb0 : ¬ b = 0) (hnm : Y'.1.name = "<init>") (hret : Y'.2.2.2 = none) (hY : ab_YK Y' as.length) (hin : Cond.instanceMethod Y'.1 ∈ lw_all) (hlk : Cond.methodLink Y.1.cls idx Y'.1 ∈ lw_all) (hst : st = as.reverse ++ ab_r b :: rest) (hw : rest.length ≤ 4) (h1 : d' + 1 ≤ R.frames) (h2 : 64 * d' + 19 + Y'.2.2.1 ≤ R.locals) (h3 : kc + mc ≤ R.cells) (h4 : ks + ms ≤ R.slots)
    (kk : ∀ (r : Option ab_V) (h' : ab_H), Q' r h' → aW G Y R Z (kc + mc) (ks + ms) h' (pc + 3) ls (r.toList ++ rest)) : aW G Y R Z kc ks h pc ls st := by
  intro p e s m args below meth c Cx H locs lsr hR hO hL hl
  have hts := Cx.2.2.2.2.2.1
  subst hst
  have hb : ab_B G < H.size := by rw [hR.2.1]; omega
  have hG := Cx.2.2.2.2.2.2.2.2
  have e0 : ab_c G (ab_r b) = .ref (ab_ad G b) := aw_rv hb0
  have hcb := ab_callOK (G := G) (R := R) (args := args) (mc := mc) (ms := ms) (d' := d') hts hY hlk h1 h2
  rw [hret] at hcb
  refine ab_after Cx hO hL hl (va_runI (b := ab_ad G b) (As := as.map (ab_c G)) (Ts := lw_all) ⟨Cx.1, Cx.2.1, Cx.2.2.2.1, Cx.2.2.2.2.1, hts⟩ hM ⟨hcb, hnm, hts _ hin⟩ ⟨ab_blind, fun U hU hW => ⟨by rw [List.map_cons, e0], by rw [hU]; exact hR, hG.warm hW (fun q hq => by rw [hU]; exact hO q hq) (by rw [hU]; exact hb)⟩⟩ rfl (by rw [List.length_map]) hl.1 (by show (as.reverse ++ ab_r b :: rest).map _ = _; rw [List.map_append, List.map_reverse, List.map_cons, e0]) (by have := ab_cats (G := G) rest; show 2 * 0 + _ ≤ 8; omega) hd ⟨h3, h4⟩) kk
theorem aw_callIN {d' mc ms idx b : Nat} {host : String} {Y' : ab_Y} {as rest : List ab_V} {Q' : Option ab_V → ab_H → Prop} (hd : decode Y.2.1 pc = .ok (.invokespecial idx, 3)) (hM : Ct G d' mc ms Y' (ab_r b :: as) h Q') (hb0 : ¬ b = 0) (hnm : Y'.1.name = "<init>") (hret : Y'.2.2.2 = none) (hY : ab_YK Y' as.length) (hin : Cond.instanceMethod Y'.1 ∈ lw_all) (hlk : Cond.methodLinkNest Y.1.cls idx Y'.1 host ∈ lw_all) (hst : st = as.reverse ++ ab_r b :: rest) (hw : rest.length ≤ 4) (h1 : d' + 1 ≤ R.frames) (h2 : 64 * d' + 19 + Y'.2.2.1 ≤ R.locals) (h3 : kc + mc ≤ R.cells) (h4 : ks + ms ≤ R.slots)
    (kk : ∀ (r : Option ab_V) (h' : ab_H), Q' r h' → aW G Y R Z (kc + mc) (ks + ms) h' (pc + 3) ls (r.toList ++ rest)) : aW G Y R Z kc ks h pc ls st := by
  intro p e s m args below meth c Cx H locs lsr hR hO hL hl
  have hts := Cx.2.2.2.2.2.1
  subst hst
  have hb : ab_B G < H.size := by rw [hR.2.1]; omega
  have hG := Cx.2.2.2.2.2.2.2.2
  have e0 : ab_c G (ab_r b) = .ref (ab_ad G b) := aw_rv hb0
  have hcb : va_CN R s args Y.1.cls idx Y'.1 host Y'.2.1 Y'.2.2.1 Y'.2.2.2 (ab_cw Y' :: lw_all) (ab_rm d' mc ms) mc ms as.length := by
    refine ⟨⟨rfl, rfl, h1, by show 8 + (Y'.2.2.1 + 11) + 64 * d' ≤ _; omega, pay_in hts (ab_goods hY.1), List.mem_cons_self⟩, hts _ hY.1, hts _ hY.2.1, hY.2.2.1, fun sig h => ?_, hts _ hlk⟩
    have h2 := hY.2.2.2.1
    rw [h] at h2
    exact (Option.some.inj h2).symm
  rw [hret] at hcb
  refine ab_after Cx hO hL hl (va_runIN (b := ab_ad G b) (As := as.map (ab_c G)) (Ts := lw_all) ⟨Cx.1, Cx.2.1, Cx.2.2.2.1, Cx.2.2.2.2.1, hts⟩ hM ⟨hcb, hnm, hts _ hin⟩ ⟨ab_blind, fun U hU hW => ⟨by rw [List.map_cons, e0], by rw [hU]; exact hR, hG.warm hW (fun q hq => by rw [hU]; exact hO q hq) (by rw [hU]; exact hb)⟩⟩ rfl (by rw [List.length_map]) hl.1 (by show (as.reverse ++ ab_r b :: rest).map _ = _; rw [List.map_append, List.map_reverse, List.map_cons, e0]) (by have := ab_cats (G := G) rest; show 2 * 0 + _ ≤ 8; omega) hd ⟨h3, h4⟩) kk
-- returns
theorem ab_end {Q : Option ab_V → ab_H → Prop} {s t : State} {H : Heap} {args : Array Value} {r : Option ab_V} (hR : ab_Rep G h H) (hO : ∀ q : Nat, q ≤ ab_B G → H[q]? = s.heap[q]?) (hq : Q r h) (ht : t.heap = H) : ab_Qc G Q args s (.returned (r.map (ab_c G))) t :=
  ⟨r, h, rfl, hq, by rw [ht]; exact hR, fun q h9 => by rw [ht]; exact hO q h9⟩
theorem aw_ireturn {Q : Option ab_V → ab_H → Prop} {z : Int} (hd : decode Y.2.1 pc = .ok (.ireturn, 1)) (hr : Y.2.2.2 = some .int) (hq : Q (some (ab_i z)) h) : aW G Y R (ab_Z G Q kc ks) kc ks h pc ls [ab_i z] := by
  intro p e s m args below meth c Cx H locs lsr hR hO hL hl
  exact W.iret Cx.1 Cx.2.1 (Cx.2.2.1.trans hr) (fun t ht hW => ab_end (r := some (ab_i z)) hR hO hq ht) hL hd Cx.2.2.2.2.2.2.1
theorem aw_zreturn {Q : Option ab_V → ab_H → Prop} {z : Int} {ty : FieldType} (hd : decode Y.2.1 pc = .ok (.ireturn, 1)) (hr : Y.2.2.2 = some ty) (hn : narrow ty (.int (Int32.ofInt z)) = .int (Int32.ofInt z)) (hq : Q (some (ab_i z)) h) : aW G Y R (ab_Z G Q kc ks) kc ks h pc ls [ab_i z] := by
  intro p e s m args below meth c Cx H locs lsr hR hO hL hl
  exact W.zret Cx.1 Cx.2.1 (Cx.2.2.1.trans hr) hn (fun t ht hW => ab_end (r := some (ab_i z)) hR hO hq ht) hL hd Cx.2.2.2.2.2.2.1
theorem aw_breturn {Q : Option ab_V → ab_H → Prop} {z : Int} (hd : decode Y.2.1 pc = .ok (.ireturn, 1)) (hr : Y.2.2.2 = some .boolean) (hz : z = 0 ∨ z = 1) (hq : Q (some (ab_i z)) h) : aW G Y R (ab_Z G Q kc ks) kc ks h pc ls [ab_i z] :=
  aw_zreturn hd hr (by rcases hz with rfl | rfl <;> rfl) hq
theorem aw_lreturn {Q : Option ab_V → ab_H → Prop} {z : Int} (hd : decode Y.2.1 pc = .ok (.lreturn, 1)) (hr : Y.2.2.2 = some .long) (hq : Q (some (ab_l z)) h) : aW G Y R (ab_Z G Q kc ks) kc ks h pc ls [ab_l z] := by
  intro p e s m args below meth c Cx H locs lsr hR hO hL hl
  exact W.lret Cx.1 Cx.2.1 (Cx.2.2.1.trans hr) (fun t ht hW => ab_end (r := some (ab_l z)) hR hO hq ht) hL hd Cx.2.2.2.2.2.2.1
theorem aw_return {Q : Option ab_V → ab_H → Prop} (hd : decode Y.2.1 pc = .ok (.return_, 1)) (hr : Y.2.2.2 = none) (hq : Q none h) : aW G Y R (ab_Z G Q kc ks) kc ks h pc ls [] := by
  intro p e s m args below meth c Cx H locs lsr hR hO hL hl
  exact W.vret Cx.1 Cx.2.1 (Cx.2.2.1.trans hr) (fun t ht hW => ab_end (r := none) hR hO hq ht) hL hd Cx.2.2.2.2.2.2.1
-- statics, old arrays
theorem ab_vaS {s : State} {H : Heap} {locs : List Loc} (hR : ab_Rep G h H) (hG : ab_Gl G s) (hs : s.heap.size ≤ H.size) (hO : ∀ q : Nat, q ≤ ab_B G → H[q]? = s.heap[q]?) (hL : ∀ q ∈ locs, ab_B G < q.base) : va_S (ab_A G) s.heap H locs :=
  ⟨hs, fun q _ hq => hO q (Nat.not_lt.mp hq), hL⟩
end AC
end
section
theorem ab_px {k : Nat} (h : k = 24) : ab_et k = .object "ThreeOffers$Person" := by rw [h]; rfl
section AM
variable {G : ab_G} {Y : ab_Y} {R : Room} {Z : ab_Zt} {kc ks : Nat} {n : Nat} {I : Nat → Nat → Int} {F : Nat → Nat → Nat} {h : ab_H} {pc : Nat} {ls : List (Option ab_V)} {st : List ab_V}
theorem aw_aast {i l v : Nat} {j : Int} (hkc : ab_KC 4 RX4 TX4 5) (hd : decode Y.2.1 pc = .ok (.aastore, 1)) (hi : 1 ≤ i ∧ i ≤ n) (hk : ab_sh i = (24, l)) (h0 : 0 ≤ j) (hl9 : j < l) (hz : l < 1000000) (hv : 1 ≤ v ∧ v ≤ n) (hvk : (ab_sh v).1 = 4) (kk : aW G Y R Z kc ks (n, I, ab_w F i j.toNat v) (pc + 1) ls st) : aW G Y R Z kc ks (n, I, F) pc ls (ab_r v :: ab_i j :: ab_r i :: st) := by
  intro p e s m args below meth c Cx H locs lsr hR hO hL hl
  obtain ⟨e1, e2⟩ := ab_ixn h0 hl9 hz
  have hB : ab_ad G i = ab_B G + i := ab_ad_lt (Nat.lt_of_le_of_lt hi.2 hR.1)
  have hK := Cx.2.2.2.2.2.2.2.2.1
  rw [List.map_cons, List.map_cons, List.map_cons, aw_rv (by omega), aw_rv (by omega)]
  obtain ⟨cellV, g1, g2, g3, -⟩ := ab_cellO hR hv hvk hkc
  have hcls := (hK.1 4 _ hkc.2.1).2
  obtain ⟨kA, comp, k1, k2, k3, -⟩ := (hK.2 4 (_, .object "ThreeOffers$Person") rfl).2
  have hcomp : comp = G.2.1 4 := Option.some.inj (k3.symm.trans hcls.1)
  subst hcomp
  obtain ⟨kC, hkC, -⟩ := hcls.2
  have e3 : ¬ Int32.ofInt j < 0 := fun q => e2 (Or.inl q)
  have e4 : (Int32.ofInt j).toNatClampNeg < l := Nat.not_le.mp fun q => e2 (Or.inr q)
  refine W.aast Cx.1 Cx.2.1 (ab_cellA hR hi hk (by omega)) (fun q h => by cases h) (fun h => by cases h) k1 k2 rfl hkC ⟨e3, by rw [arrV_size]; exact e4⟩ g1 (fun q h => by rw [g3] at h; cases h) (by rw [g2]; exact hkC) (by rw [g2]; exact va_asg _ _) rfl rfl hd fun H' a1 a2 a3 => ?_
  refine kk p e s m args below meth c Cx H' _ lsr (ab_put_arr (s := s) hR hi hk (by omega) (j := j.toNat) (by rw [a1, e1]) a2 a3 (by rw [ab_w_s]; exact (aw_rv (by omega)).symm) (fun _ _ _ => rfl) (fun a b h => if_neg h)) (fun q hq => by rw [a3 q (by intro z; subst z; omega)]; exact hO q hq) (fun q hq => ?_) hl
  rcases List.mem_append.mp hq with h | h
  · exact hL q h
  · rw [List.mem_singleton.mp h]
    show ab_B G < ab_ad G i
    omega
theorem aw_gets {C nm ds : String} {idx : Nat} {w : ab_V} (hd : decode Y.2.1 pc = .ok (.getstatic idx, 3)) (hZ : ∀ s : State, ab_Gl G s → va_Z C nm ds (ab_c G w) (ab_A G) s s.heap) (hw : Cond.fieldLink Y.1.cls idx C nm ds ∈ lw_all) (k : aW G Y R Z kc ks h (pc + 3) ls (w :: st)) : aW G Y R Z kc ks h pc ls st := by
  intro p e s m args below meth c Cx H locs lsr hR hO hL hl
  obtain ⟨cf, kf, fi, f, a, cell, h1, h2, h3, h4, h5, h6, h7, h8⟩ := hZ s Cx.2.2.2.2.2.2.2.2
  exact W.gets Cx.1 Cx.2.1 Cx.2.2.2.2.1 (Cx.2.2.2.2.2.1 _ hw) h1 h2 h3 h4 (by rw [hO a (Nat.not_lt.mp h8)]; exact h5) (fun e => by rw [e] at h6; cases h6) h7 rfl hd (k p e s m args below meth c Cx H locs lsr hR hO hL hl)
theorem aw_getsN {C nm ds host : String} {idx : Nat} {w : ab_V} (hd : decode Y.2.1 pc = .ok (.getstatic idx, 3)) (hZ : ∀ s : State, ab_Gl G s → va_Z C nm ds (ab_c G w) (ab_A G) s s.heap) (hw : Cond.fieldLinkNest Y.1.cls idx C nm ds host ∈ lw_all) (k : aW G Y R Z kc ks h (pc + 3) ls (w :: st)) : aW G Y R Z kc ks h pc ls st := by
  intro p e s m args below meth c Cx H locs lsr hR hO hL hl
  obtain ⟨cf, kf, fi, f, a, cell, h1, h2, h3, h4, h5, h6, h7, h8⟩ := hZ s Cx.2.2.2.2.2.2.2.2
  exact va_WgetsN Cx.1 Cx.2.1 Cx.2.2.2.2.1 (Cx.2.2.2.2.2.1 _ hw) h1 h2 h3 h4 (by rw [hO a (Nat.not_lt.mp h8)]; exact h5) (fun e => by rw [e] at h6; cases h6) h7 rfl hd (k p e s m args below meth c Cx H locs lsr hR hO hL hl)
theorem ab_zfig (s : State) (hG : ab_Gl G s) : va_Z "ThreeOffers" "FIGURES" "[I" (ab_c G (ab_r 1000)) (ab_A G) s s.heap := by
  rw [aw_rv (by omega), ab_ad_ge (by omega)]; exact hG.2.1.1
theorem ab_zfac (s : State) (hG : ab_Gl G s) : va_Z "ThreeOffers" "FACTORIALS" "[I" (ab_c G (ab_r 1001)) (ab_A G) s s.heap := by
  rw [aw_rv (by omega), ab_ad_ge (by omega)]; exact hG.2.1.2.2.1
theorem aw_iald_o {i N : Nat} {j : Int} {f : Nat → Int} (hd : decode Y.2.1 pc = .ok (.iaload, 1)) (hi : 1000 ≤ i) (hT : ∀ s : State, ab_Gl G s → va_T .int (ab_ax G i) N (fun j => .int (Int32.ofInt (f j))) (ab_A G) s s.heap) (h0 : 0 ≤ j) (hl9 : j < N) (hz : N < 1000000) (kk : aW G Y R Z kc ks h (pc + 1) ls (ab_i (f j.toNat) :: st)) : aW G Y R Z kc ks h pc ls (ab_i j :: ab_r i :: st) := by
  intro p e s m args below meth c Cx H locs lsr hR hO hL hl
  have k9 := kk p e s m args below meth c Cx H locs lsr hR hO hL hl
  obtain ⟨e1, e2⟩ := ab_ixn h0 hl9 hz
  rw [List.map_cons, List.map_cons, aw_rv (by omega), ab_ad_ge hi]
  obtain ⟨cell, h1, h2, h3, h4, h5, h6, h7⟩ := hT s Cx.2.2.2.2.2.2.2.2
  refine W.iald Cx.1 Cx.2.1 (by rw [hO _ (Nat.not_lt.mp h7)]; exact h1) h2 h3 (fun q => e2 (q.imp id (fun q => Nat.le_trans h4 q))) (v := .int (Int32.ofInt (f j.toNat))) ?_ rfl rfl hd k9
  rw [e1]
  exact h6 _ (by omega)
theorem aw_ifig {j : Int} (hd : decode Y.2.1 pc = .ok (.iaload, 1)) (h0 : 0 ≤ j) (hl9 : j < 4) (kk : aW G Y R Z kc ks h (pc + 1) ls (ab_i (ab_fig j.toNat) :: st)) : aW G Y R Z kc ks h pc ls (ab_i j :: ab_r 1000 :: st) :=
  aw_iald_o (N := 4) hd (by omega) (fun s hG => hG.2.1.2.1) h0 hl9 (by omega) kk
theorem aw_ifac {j : Int} (hd : decode Y.2.1 pc = .ok (.iaload, 1)) (h0 : 0 ≤ j) (hl9 : j < 7) (kk : aW G Y R Z kc ks h (pc + 1) ls (ab_i (ab_fac j.toNat) :: st)) : aW G Y R Z kc ks h pc ls (ab_i j :: ab_r 1001 :: st) :=
  aw_iald_o (N := 7) hd (by omega) (fun s hG => hG.2.1.2.2.2.1) h0 hl9 (by omega) kk
-- the script
theorem aw_isc {j : Int} (hd : decode Y.2.1 pc = .ok (.iaload, 1)) (h0 : 0 ≤ j) (hl9 : j < ab_L G) (hz : ab_L G < 1000000) (kk : aW G Y R Z kc ks h (pc + 1) ls (ab_i ((ab_xs G j.toNat).toInt) :: st)) : aW G Y R Z kc ks h pc ls (ab_i j :: ab_r 1002 :: st) := by
  intro p e s m args below meth c Cx H locs lsr hR hO hL hl
  have k9 := kk p e s m args below meth c Cx H locs lsr hR hO hL hl
  obtain ⟨e1, e2⟩ := ab_ixn h0 hl9 hz
  rw [List.map_cons, List.map_cons, aw_rv (by omega), ab_ad_ge (by omega)]
  obtain ⟨⟨scr, h1, h2, h3, h4, h5⟩, h6⟩ := Cx.2.2.2.2.2.2.2.2.2.1.2.2.2.2.2.2
  refine W.iald Cx.1 Cx.2.1 (by rw [hO _ h6]; exact h1) h2 h3 (by rw [h4]; exact e2) (v := .int (Int32.ofInt (ab_xs G j.toNat).toInt)) ?_ rfl rfl hd k9
  rw [e1, Int32.ofInt_toInt]
  exact h5 _ (by omega)
theorem aw_lsc (hd : decode Y.2.1 pc = .ok (.arraylength, 1)) (kk : aW G Y R Z kc ks h (pc + 1) ls (ab_i (ab_L G : Int) :: st)) : aW G Y R Z kc ks h pc ls (ab_r 1002 :: st) := by
  intro p e s m args below meth c Cx H locs lsr hR hO hL hl
  have k9 := kk p e s m args below meth c Cx H locs lsr hR hO hL hl
  rw [List.map_cons, aw_rv (by omega), ab_ad_ge (by omega)]
  obtain ⟨⟨scr, h1, h2, h3, h4, h5⟩, h6⟩ := Cx.2.2.2.2.2.2.2.2.2.1.2.2.2.2.2.2
  refine W.alen Cx.1 Cx.2.1 (by rw [hO _ h6]; exact h1) h2 (n := Int32.ofInt (ab_L G)) ?_ rfl rfl hd k9
  rw [h4]
  exact Int32.ofInt_eq_ofNat.symm
end AM
end
section
theorem lw_t : lw_tbl = k2_sels lw_privs ++ (tables_1_1 ++ (tables_1_2 ++ (tables_1_3 ++ (tables_1_4 ++ tables_1_5)))) := rfl
theorem lw_in1 {w : Cond} {k : Nat} (h : tables_1_1[k]? = some w) (hg : goodWord w = true) : w ∈ lw_all := List.mem_filter.mpr ⟨by rw [lw_t]; exact List.mem_append_right _ (List.mem_append_left _ (List.mem_of_getElem? h)), hg⟩
theorem lw_in2 {w : Cond} {k : Nat} (h : tables_1_2[k]? = some w) (hg : goodWord w = true) : w ∈ lw_all := List.mem_filter.mpr ⟨by rw [lw_t]; exact List.mem_append_right _ (List.mem_append_right _ (List.mem_append_left _ (List.mem_of_getElem? h))), hg⟩
theorem lw_in3 {w : Cond} {k : Nat} (h : tables_1_3[k]? = some w) (hg : goodWord w = true) : w ∈ lw_all := List.mem_filter.mpr ⟨by rw [lw_t]; exact List.mem_append_right _ (List.mem_append_right _ (List.mem_append_right _ (List.mem_append_left _ (List.mem_of_getElem? h)))), hg⟩
theorem lw_in4 {w : Cond} {k : Nat} (h : tables_1_4[k]? = some w) (hg : goodWord w = true) : w ∈ lw_all := List.mem_filter.mpr ⟨by rw [lw_t]; exact List.mem_append_right _ (List.mem_append_right _ (List.mem_append_right _ (List.mem_append_right _ (List.mem_append_left _ (List.mem_of_getElem? h))))), hg⟩
theorem lw_in5 {w : Cond} {k : Nat} (h : tables_1_5[k]? = some w) (hg : goodWord w = true) : w ∈ lw_all := List.mem_filter.mpr ⟨by rw [lw_t]; exact List.mem_append_right _ (List.mem_append_right _ (List.mem_append_right _ (List.mem_append_right _ (List.mem_append_right _ (List.mem_of_getElem? h))))), hg⟩
theorem lw_in0 {q : MethodName × Nat} {k : Nat} (h : lw_privs[k]? = some q) : Cond.selects q.1.cls q.1 q.1 ∈ lw_all := List.mem_filter.mpr ⟨by rw [lw_t]; exact List.mem_append_left _ (List.mem_map.mpr ⟨q, List.mem_of_getElem? h, rfl⟩), rfl⟩
abbrev YX0_init : ab_Y := (yX0_init, cX0_init, 2, none)
theorem kX0_init : ab_YK YX0_init 1 := ⟨lw_in2 (k := 83) rfl rfl, lw_in1 (k := 13) rfl rfl, ⟨by decide, by decide⟩, by decide +kernel, by decide⟩
theorem iX0_init : Cond.instanceMethod YX0_init.1 ∈ lw_all := lw_in2 (k := 82) rfl rfl
abbrev YX0_find : ab_Y := (yX0_find, cX0_find, 2, none)
theorem kX0_find : ab_YK YX0_find 1 := ⟨lw_in4 (k := 54) rfl rfl, lw_in1 (k := 13) rfl rfl, ⟨by decide, by decide⟩, by decide +kernel, by decide⟩
theorem iX0_find : Cond.instanceMethod YX0_find.1 ∈ lw_all := lw_in4 (k := 52) rfl rfl
theorem eX0_find : Cond.selects YX0_find.1.cls YX0_find.1 YX0_find.1 ∈ lw_all := lw_in4 (k := 53) rfl rfl
abbrev YX0_goOn : ab_Y := (yX0_goOn, cX0_goOn, 5, none)
theorem kX0_goOn : ab_YK YX0_goOn 3 := ⟨lw_in4 (k := 58) rfl rfl, lw_in1 (k := 13) rfl rfl, ⟨by decide, by decide⟩, by decide +kernel, by decide⟩
theorem iX0_goOn : Cond.instanceMethod YX0_goOn.1 ∈ lw_all := lw_in4 (k := 57) rfl rfl
theorem eX0_goOn : Cond.selects YX0_goOn.1.cls YX0_goOn.1 YX0_goOn.1 ∈ lw_all := lw_in0 (k := 22) (q := (yX0_goOn, _)) rfl
abbrev YX1_init : ab_Y := (yX1_init, cX1_init, 3, none)
theorem kX1_init : ab_YK YX1_init 1 := ⟨lw_in1 (k := 163) rfl rfl, lw_in1 (k := 7) rfl rfl, ⟨by decide, by decide⟩, by decide +kernel, by decide⟩
theorem iX1_init : Cond.instanceMethod YX1_init.1 ∈ lw_all := lw_in1 (k := 162) rfl rfl
abbrev YX1_beginLike : ab_Y := (yX1_beginLike, cX1_beginLike, 3, none)
theorem kX1_beginLike : ab_YK YX1_beginLike 1 := ⟨lw_in3 (k := 151) rfl rfl, lw_in1 (k := 7) rfl rfl, ⟨by decide, by decide⟩, by decide +kernel, by decide⟩
theorem iX1_beginLike : Cond.instanceMethod YX1_beginLike.1 ∈ lw_all := lw_in3 (k := 149) rfl rfl
theorem eX1_beginLike : Cond.selects YX1_beginLike.1.cls YX1_beginLike.1 YX1_beginLike.1 ∈ lw_all := lw_in3 (k := 150) rfl rfl
abbrev YX1_isFull : ab_Y := (yX1_isFull, cX1_isFull, 1, (some .boolean))
theorem kX1_isFull : ab_YK YX1_isFull 0 := ⟨lw_in2 (k := 179) rfl rfl, lw_in1 (k := 7) rfl rfl, ⟨by decide, by decide⟩, by decide +kernel, by decide⟩
theorem iX1_isFull : Cond.instanceMethod YX1_isFull.1 ∈ lw_all := lw_in2 (k := 177) rfl rfl
theorem eX1_isFull : Cond.selects YX1_isFull.1.cls YX1_isFull.1 YX1_isFull.1 ∈ lw_all := lw_in2 (k := 178) rfl rfl
abbrev YX1_add : ab_Y := (yX1_add, cX1_add, 2, none)
theorem kX1_add : ab_YK YX1_add 1 := ⟨lw_in2 (k := 183) rfl rfl, lw_in1 (k := 7) rfl rfl, ⟨by decide, by decide⟩, by decide +kernel, by decide⟩
theorem iX1_add : Cond.instanceMethod YX1_add.1 ∈ lw_all := lw_in2 (k := 181) rfl rfl
theorem eX1_add : Cond.selects YX1_add.1.cls YX1_add.1 YX1_add.1 ∈ lw_all := lw_in2 (k := 182) rfl rfl
abbrev YX1_total : ab_Y := (yX1_total, cX1_total, 4, (some .int))
theorem kX1_total : ab_YK YX1_total 1 := ⟨lw_in3 (k := 160) rfl rfl, lw_in1 (k := 7) rfl rfl, ⟨by decide, by decide⟩, by decide +kernel, by decide⟩
theorem iX1_total : Cond.instanceMethod YX1_total.1 ∈ lw_all := lw_in3 (k := 158) rfl rfl
theorem eX1_total : Cond.selects YX1_total.1.cls YX1_total.1 YX1_total.1 ∈ lw_all := lw_in3 (k := 159) rfl rfl
abbrev YX1_gained : ab_Y := (yX1_gained, cX1_gained, 2, (some .int))
theorem kX1_gained : ab_YK YX1_gained 1 := ⟨lw_in3 (k := 169) rfl rfl, lw_in1 (k := 7) rfl rfl, ⟨by decide, by decide⟩, by decide +kernel, by decide⟩
theorem iX1_gained : Cond.instanceMethod YX1_gained.1 ∈ lw_all := lw_in3 (k := 167) rfl rfl
theorem eX1_gained : Cond.selects YX1_gained.1.cls YX1_gained.1 YX1_gained.1 ∈ lw_all := lw_in3 (k := 168) rfl rfl
abbrev YX1_pass : ab_Y := (yX1_pass, cX1_pass, 6, none)
theorem kX1_pass : ab_YK YX1_pass 2 := ⟨lw_in2 (k := 196) rfl rfl, lw_in1 (k := 7) rfl rfl, ⟨by decide, by decide⟩, by decide +kernel, by decide⟩
theorem iX1_pass : Cond.instanceMethod YX1_pass.1 ∈ lw_all := lw_in2 (k := 194) rfl rfl
theorem eX1_pass : Cond.selects YX1_pass.1.cls YX1_pass.1 YX1_pass.1 ∈ lw_all := lw_in2 (k := 195) rfl rfl
abbrev YX1_stand : ab_Y := (yX1_stand, cX1_stand, 5, none)
theorem kX1_stand : ab_YK YX1_stand 1 := ⟨lw_in2 (k := 208) rfl rfl, lw_in1 (k := 7) rfl rfl, ⟨by decide, by decide⟩, by decide +kernel, by decide⟩
theorem iX1_stand : Cond.instanceMethod YX1_stand.1 ∈ lw_all := lw_in2 (k := 206) rfl rfl
theorem eX1_stand : Cond.selects YX1_stand.1.cls YX1_stand.1 YX1_stand.1 ∈ lw_all := lw_in2 (k := 207) rfl rfl
abbrev YX1_isAhead : ab_Y := (yX1_isAhead, cX1_isAhead, 5, (some .boolean))
theorem kX1_isAhead : ab_YK YX1_isAhead 3 := ⟨lw_in2 (k := 212) rfl rfl, lw_in1 (k := 7) rfl rfl, ⟨by decide, by decide⟩, by decide +kernel, by decide⟩
theorem iX1_isAhead : Cond.instanceMethod YX1_isAhead.1 ∈ lw_all := lw_in2 (k := 211) rfl rfl
theorem eX1_isAhead : Cond.selects YX1_isAhead.1.cls YX1_isAhead.1 YX1_isAhead.1 ∈ lw_all := lw_in0 (k := 1) (q := (yX1_isAhead, _)) rfl
abbrev YX1_offer : ab_Y := (yX1_offer, cX1_offer, 8, none)
theorem kX1_offer : ab_YK YX1_offer 2 := ⟨lw_in2 (k := 204) rfl rfl, lw_in1 (k := 7) rfl rfl, ⟨by decide, by decide⟩, by decide +kernel, by decide⟩
theorem iX1_offer : Cond.instanceMethod YX1_offer.1 ∈ lw_all := lw_in2 (k := 203) rfl rfl
theorem eX1_offer : Cond.selects YX1_offer.1.cls YX1_offer.1 YX1_offer.1 ∈ lw_all := lw_in0 (k := 0) (q := (yX1_offer, _)) rfl
abbrev YX1_house : ab_Y := (yX1_house, cX1_house, 3, none)
theorem kX1_house : ab_YK YX1_house 2 := ⟨lw_in2 (k := 224) rfl rfl, lw_in1 (k := 7) rfl rfl, ⟨by decide, by decide⟩, by decide +kernel, by decide⟩
theorem iX1_house : Cond.instanceMethod YX1_house.1 ∈ lw_all := lw_in2 (k := 223) rfl rfl
theorem eX1_house : Cond.selects YX1_house.1.cls YX1_house.1 YX1_house.1 ∈ lw_all := lw_in0 (k := 3) (q := (yX1_house, _)) rfl
abbrev YX1_sayNo : ab_Y := (yX1_sayNo, cX1_sayNo, 3, (some .boolean))
theorem kX1_sayNo : ab_YK YX1_sayNo 2 := ⟨lw_in2 (k := 220) rfl rfl, lw_in1 (k := 7) rfl rfl, ⟨by decide, by decide⟩, by decide +kernel, by decide⟩
theorem iX1_sayNo : Cond.instanceMethod YX1_sayNo.1 ∈ lw_all := lw_in2 (k := 219) rfl rfl
theorem eX1_sayNo : Cond.selects YX1_sayNo.1.cls YX1_sayNo.1 YX1_sayNo.1 ∈ lw_all := lw_in0 (k := 2) (q := (yX1_sayNo, _)) rfl
abbrev YX1_arrive : ab_Y := (yX1_arrive, cX1_arrive, 2, none)
theorem kX1_arrive : ab_YK YX1_arrive 1 := ⟨lw_in2 (k := 228) rfl rfl, lw_in1 (k := 7) rfl rfl, ⟨by decide, by decide⟩, by decide +kernel, by decide⟩
theorem iX1_arrive : Cond.instanceMethod YX1_arrive.1 ∈ lw_all := lw_in2 (k := 227) rfl rfl
theorem eX1_arrive : Cond.selects YX1_arrive.1.cls YX1_arrive.1 YX1_arrive.1 ∈ lw_all := lw_in0 (k := 4) (q := (yX1_arrive, _)) rfl
abbrev YX1_growOlder : ab_Y := (yX1_growOlder, cX1_growOlder, 4, none)
theorem kX1_growOlder : ab_YK YX1_growOlder 1 := ⟨lw_in2 (k := 233) rfl rfl, lw_in1 (k := 7) rfl rfl, ⟨by decide, by decide⟩, by decide +kernel, by decide⟩
theorem iX1_growOlder : Cond.instanceMethod YX1_growOlder.1 ∈ lw_all := lw_in2 (k := 232) rfl rfl
theorem eX1_growOlder : Cond.selects YX1_growOlder.1.cls YX1_growOlder.1 YX1_growOlder.1 ∈ lw_all := lw_in0 (k := 5) (q := (yX1_growOlder, _)) rfl
abbrev YX2_init : ab_Y := (yX2_init, cX2_init, 2, none)
theorem kX2_init : ab_YK YX2_init 1 := ⟨lw_in2 (k := 41) rfl rfl, lw_in1 (k := 11) rfl rfl, ⟨by decide, by decide⟩, by decide +kernel, by decide⟩
theorem iX2_init : Cond.instanceMethod YX2_init.1 ∈ lw_all := lw_in2 (k := 40) rfl rfl
abbrev YX2_add : ab_Y := (yX2_add, cX2_add, 3, (some .int))
theorem kX2_add : ab_YK YX2_add 2 := ⟨lw_in4 (k := 18) rfl rfl, lw_in1 (k := 11) rfl rfl, ⟨by decide, by decide⟩, by decide +kernel, by decide⟩
theorem iX2_add : Cond.instanceMethod YX2_add.1 ∈ lw_all := lw_in4 (k := 16) rfl rfl
theorem eX2_add : Cond.selects YX2_add.1.cls YX2_add.1 YX2_add.1 ∈ lw_all := lw_in4 (k := 17) rfl rfl
abbrev YX2_likesMore : ab_Y := (yX2_likesMore, cX2_likesMore, 5, (some .boolean))
theorem kX2_likesMore : ab_YK YX2_likesMore 3 := ⟨lw_in4 (k := 42) rfl rfl, lw_in1 (k := 11) rfl rfl, ⟨by decide, by decide⟩, by decide +kernel, by decide⟩
theorem iX2_likesMore : Cond.instanceMethod YX2_likesMore.1 ∈ lw_all := lw_in4 (k := 40) rfl rfl
theorem eX2_likesMore : Cond.selects YX2_likesMore.1.cls YX2_likesMore.1 YX2_likesMore.1 ∈ lw_all := lw_in4 (k := 41) rfl rfl
abbrev YX3_init : ab_Y := (yX3_init, cX3_init, 2, none)
theorem kX3_init : ab_YK YX3_init 1 := ⟨lw_in2 (k := 22) rfl rfl, lw_in1 (k := 10) rfl rfl, ⟨by decide, by decide⟩, by decide +kernel, by decide⟩
theorem iX3_init : Cond.instanceMethod YX3_init.1 ∈ lw_all := lw_in2 (k := 21) rfl rfl
abbrev YX3_gather : ab_Y := (yX3_gather, cX3_gather, 4, none)
theorem kX3_gather : ab_YK YX3_gather 2 := ⟨lw_in3 (k := 223) rfl rfl, lw_in1 (k := 10) rfl rfl, ⟨by decide, by decide⟩, by decide +kernel, by decide⟩
theorem iX3_gather : Cond.instanceMethod YX3_gather.1 ∈ lw_all := lw_in3 (k := 221) rfl rfl
theorem eX3_gather : Cond.selects YX3_gather.1.cls YX3_gather.1 YX3_gather.1 ∈ lw_all := lw_in3 (k := 222) rfl rfl
abbrev YX3_lay : ab_Y := (yX3_lay, cX3_lay, 4, none)
theorem kX3_lay : ab_YK YX3_lay 2 := ⟨lw_in3 (k := 228) rfl rfl, lw_in1 (k := 10) rfl rfl, ⟨by decide, by decide⟩, by decide +kernel, by decide⟩
theorem iX3_lay : Cond.instanceMethod YX3_lay.1 ∈ lw_all := lw_in3 (k := 226) rfl rfl
theorem eX3_lay : Cond.selects YX3_lay.1.cls YX3_lay.1 YX3_lay.1 ∈ lw_all := lw_in3 (k := 227) rfl rfl
abbrev YX3_rowsFor : ab_Y := (yX3_rowsFor, cX3_rowsFor, 3, (some .int))
theorem kX3_rowsFor : ab_YK YX3_rowsFor 2 := ⟨lw_in3 (k := 233) rfl rfl, lw_in1 (k := 10) rfl rfl, ⟨by decide, by decide⟩, by decide +kernel, by decide⟩
theorem iX3_rowsFor : Cond.instanceMethod YX3_rowsFor.1 ∈ lw_all := lw_in3 (k := 231) rfl rfl
theorem eX3_rowsFor : Cond.selects YX3_rowsFor.1.cls YX3_rowsFor.1 YX3_rowsFor.1 ∈ lw_all := lw_in3 (k := 232) rfl rfl
abbrev YX3_rowsFrom : ab_Y := (yX3_rowsFrom, cX3_rowsFrom, 8, (some .int))
theorem kX3_rowsFrom : ab_YK YX3_rowsFrom 4 := ⟨lw_in3 (k := 237) rfl rfl, lw_in1 (k := 10) rfl rfl, ⟨by decide, by decide⟩, by decide +kernel, by decide⟩
theorem iX3_rowsFrom : Cond.instanceMethod YX3_rowsFrom.1 ∈ lw_all := lw_in3 (k := 236) rfl rfl
theorem eX3_rowsFrom : Cond.selects YX3_rowsFrom.1.cls YX3_rowsFrom.1 YX3_rowsFrom.1 ∈ lw_all := lw_in0 (k := 18) (q := (yX3_rowsFrom, _)) rfl
abbrev YX3_kindTaken : ab_Y := (yX3_kindTaken, cX3_kindTaken, 4, (some .int))
theorem kX3_kindTaken : ab_YK YX3_kindTaken 1 := ⟨lw_in4 (k := 1) rfl rfl, lw_in1 (k := 10) rfl rfl, ⟨by decide, by decide⟩, by decide +kernel, by decide⟩
theorem iX3_kindTaken : Cond.instanceMethod YX3_kindTaken.1 ∈ lw_all := lw_in4 (k := 0) rfl rfl
theorem eX3_kindTaken : Cond.selects YX3_kindTaken.1.cls YX3_kindTaken.1 YX3_kindTaken.1 ∈ lw_all := lw_in0 (k := 19) (q := (yX3_kindTaken, _)) rfl
abbrev YX4_init : ab_Y := (yX4_init, cX4_init, 1, none)
theorem kX4_init : ab_YK YX4_init 0 := ⟨lw_in1 (k := 171) rfl rfl, lw_in1 (k := 8) rfl rfl, ⟨by decide, by decide⟩, by decide +kernel, by decide⟩
theorem iX4_init : Cond.instanceMethod YX4_init.1 ∈ lw_all := lw_in1 (k := 170) rfl rfl
abbrev YX4_begin : ab_Y := (yX4_begin, cX4_begin, 3, none)
theorem kX4_begin : ab_YK YX4_begin 2 := ⟨lw_in2 (k := 188) rfl rfl, lw_in1 (k := 8) rfl rfl, ⟨by decide, by decide⟩, by decide +kernel, by decide⟩
theorem iX4_begin : Cond.instanceMethod YX4_begin.1 ∈ lw_all := lw_in2 (k := 186) rfl rfl
theorem eX4_begin : Cond.selects YX4_begin.1.cls YX4_begin.1 YX4_begin.1 ∈ lw_all := lw_in2 (k := 187) rfl rfl
abbrev YX4_copy : ab_Y := (yX4_copy, cX4_copy, 2, none)
theorem kX4_copy : ab_YK YX4_copy 1 := ⟨lw_in3 (k := 155) rfl rfl, lw_in1 (k := 8) rfl rfl, ⟨by decide, by decide⟩, by decide +kernel, by decide⟩
theorem iX4_copy : Cond.instanceMethod YX4_copy.1 ∈ lw_all := lw_in3 (k := 153) rfl rfl
theorem eX4_copy : Cond.selects YX4_copy.1.cls YX4_copy.1 YX4_copy.1 ∈ lw_all := lw_in3 (k := 154) rfl rfl
abbrev YX5_init : ab_Y := (yX5_init, cX5_init, 2, none)
theorem kX5_init : ab_YK YX5_init 1 := ⟨lw_in1 (k := 234) rfl rfl, lw_in1 (k := 9) rfl rfl, ⟨by decide, by decide⟩, by decide +kernel, by decide⟩
theorem iX5_init : Cond.instanceMethod YX5_init.1 ∈ lw_all := lw_in1 (k := 233) rfl rfl
abbrev YX5_forget : ab_Y := (yX5_forget, cX5_forget, 1, none)
theorem kX5_forget : ab_YK YX5_forget 0 := ⟨lw_in2 (k := 150) rfl rfl, lw_in1 (k := 9) rfl rfl, ⟨by decide, by decide⟩, by decide +kernel, by decide⟩
theorem iX5_forget : Cond.instanceMethod YX5_forget.1 ∈ lw_all := lw_in2 (k := 148) rfl rfl
theorem eX5_forget : Cond.selects YX5_forget.1.cls YX5_forget.1 YX5_forget.1 ∈ lw_all := lw_in2 (k := 149) rfl rfl
abbrev YX5_areKnownFor : ab_Y := (yX5_areKnownFor, cX5_areKnownFor, 2, (some .boolean))
theorem kX5_areKnownFor : ab_YK YX5_areKnownFor 1 := ⟨lw_in3 (k := 181) rfl rfl, lw_in1 (k := 9) rfl rfl, ⟨by decide, by decide⟩, by decide +kernel, by decide⟩
theorem iX5_areKnownFor : Cond.instanceMethod YX5_areKnownFor.1 ∈ lw_all := lw_in3 (k := 179) rfl rfl
theorem eX5_areKnownFor : Cond.selects YX5_areKnownFor.1.cls YX5_areKnownFor.1 YX5_areKnownFor.1 ∈ lw_all := lw_in3 (k := 180) rfl rfl
abbrev YX5_find : ab_Y := (yX5_find, cX5_find, 8, none)
theorem kX5_find : ab_YK YX5_find 4 := ⟨lw_in3 (k := 185) rfl rfl, lw_in1 (k := 9) rfl rfl, ⟨by decide, by decide⟩, by decide +kernel, by decide⟩
theorem iX5_find : Cond.instanceMethod YX5_find.1 ∈ lw_all := lw_in3 (k := 183) rfl rfl
theorem eX5_find : Cond.selects YX5_find.1.cls YX5_find.1 YX5_find.1 ∈ lw_all := lw_in3 (k := 184) rfl rfl
abbrev YX5_findLikeBars : ab_Y := (yX5_findLikeBars, cX5_findLikeBars, 4, none)
theorem kX5_findLikeBars : ab_YK YX5_findLikeBars 0 := ⟨lw_in3 (k := 189) rfl rfl, lw_in1 (k := 9) rfl rfl, ⟨by decide, by decide⟩, by decide +kernel, by decide⟩
theorem iX5_findLikeBars : Cond.instanceMethod YX5_findLikeBars.1 ∈ lw_all := lw_in3 (k := 188) rfl rfl
theorem eX5_findLikeBars : Cond.selects YX5_findLikeBars.1.cls YX5_findLikeBars.1 YX5_findLikeBars.1 ∈ lw_all := lw_in0 (k := 13) (q := (yX5_findLikeBars, _)) rfl
abbrev YX5_kindsTaken : ab_Y := (yX5_kindsTaken, cX5_kindsTaken, 5, (some .int))
theorem kX5_kindsTaken : ab_YK YX5_kindsTaken 2 := ⟨lw_in3 (k := 193) rfl rfl, lw_in1 (k := 9) rfl rfl, ⟨by decide, by decide⟩, by decide +kernel, by decide⟩
theorem iX5_kindsTaken : Cond.instanceMethod YX5_kindsTaken.1 ∈ lw_all := lw_in3 (k := 192) rfl rfl
theorem eX5_kindsTaken : Cond.selects YX5_kindsTaken.1.cls YX5_kindsTaken.1 YX5_kindsTaken.1 ∈ lw_all := lw_in0 (k := 14) (q := (yX5_kindsTaken, _)) rfl
abbrev YX5_likeSetting : ab_Y := (yX5_likeSetting, cX5_likeSetting, 4, (some .int))
theorem kX5_likeSetting : ab_YK YX5_likeSetting 1 := ⟨lw_in3 (k := 197) rfl rfl, lw_in1 (k := 9) rfl rfl, ⟨by decide, by decide⟩, by decide +kernel, by decide⟩
theorem iX5_likeSetting : Cond.instanceMethod YX5_likeSetting.1 ∈ lw_all := lw_in3 (k := 196) rfl rfl
theorem eX5_likeSetting : Cond.selects YX5_likeSetting.1.cls YX5_likeSetting.1 YX5_likeSetting.1 ∈ lw_all := lw_in0 (k := 15) (q := (yX5_likeSetting, _)) rfl
abbrev YX5_barOf : ab_Y := (yX5_barOf, cX5_barOf, 2, (some .int))
theorem kX5_barOf : ab_YK YX5_barOf 2 := ⟨lw_in3 (k := 200) rfl rfl, lw_in1 (k := 9) rfl rfl, ⟨by decide, by decide⟩, by decide +kernel, by decide⟩
theorem sX5_barOf : Cond.static YX5_barOf.1 ∈ lw_all := lw_in3 (k := 199) rfl rfl
abbrev YX5_setWays : ab_Y := (yX5_setWays, cX5_setWays, 5, none)
theorem kX5_setWays : ab_YK YX5_setWays 2 := ⟨lw_in3 (k := 206) rfl rfl, lw_in1 (k := 9) rfl rfl, ⟨by decide, by decide⟩, by decide +kernel, by decide⟩
theorem iX5_setWays : Cond.instanceMethod YX5_setWays.1 ∈ lw_all := lw_in3 (k := 205) rfl rfl
theorem eX5_setWays : Cond.selects YX5_setWays.1.cls YX5_setWays.1 YX5_setWays.1 ∈ lw_all := lw_in0 (k := 16) (q := (yX5_setWays, _)) rfl
abbrev YX5_isAtRest : ab_Y := (yX5_isAtRest, cX5_isAtRest, 6, (some .boolean))
theorem kX5_isAtRest : ab_YK YX5_isAtRest 1 := ⟨lw_in3 (k := 214) rfl rfl, lw_in1 (k := 9) rfl rfl, ⟨by decide, by decide⟩, by decide +kernel, by decide⟩
theorem iX5_isAtRest : Cond.instanceMethod YX5_isAtRest.1 ∈ lw_all := lw_in3 (k := 213) rfl rfl
theorem eX5_isAtRest : Cond.selects YX5_isAtRest.1.cls YX5_isAtRest.1 YX5_isAtRest.1 ∈ lw_all := lw_in0 (k := 17) (q := (yX5_isAtRest, _)) rfl
abbrev YX6_init : ab_Y := (yX6_init, cX6_init, 1, none)
theorem kX6_init : ab_YK YX6_init 0 := ⟨lw_in1 (k := 42) rfl rfl, lw_in1 (k := 3) rfl rfl, ⟨by decide, by decide⟩, by decide +kernel, by decide⟩
theorem iX6_init : Cond.instanceMethod YX6_init.1 ∈ lw_all := lw_in1 (k := 41) rfl rfl
abbrev YX6_isFull : ab_Y := (yX6_isFull, cX6_isFull, 1, (some .boolean))
theorem kX6_isFull : ab_YK YX6_isFull 0 := ⟨lw_in2 (k := 162) rfl rfl, lw_in1 (k := 3) rfl rfl, ⟨by decide, by decide⟩, by decide +kernel, by decide⟩
theorem iX6_isFull : Cond.instanceMethod YX6_isFull.1 ∈ lw_all := lw_in2 (k := 160) rfl rfl
theorem eX6_isFull : Cond.selects YX6_isFull.1.cls YX6_isFull.1 YX6_isFull.1 ∈ lw_all := lw_in2 (k := 161) rfl rfl
abbrev YX6_add : ab_Y := (yX6_add, cX6_add, 2, (some .int))
theorem kX6_add : ab_YK YX6_add 1 := ⟨lw_in2 (k := 166) rfl rfl, lw_in1 (k := 3) rfl rfl, ⟨by decide, by decide⟩, by decide +kernel, by decide⟩
theorem iX6_add : Cond.instanceMethod YX6_add.1 ∈ lw_all := lw_in2 (k := 164) rfl rfl
theorem eX6_add : Cond.selects YX6_add.1.cls YX6_add.1 YX6_add.1 ∈ lw_all := lw_in2 (k := 165) rfl rfl
abbrev YX6_inWeek : ab_Y := (yX6_inWeek, cX6_inWeek, 2, (some .int))
theorem kX6_inWeek : ab_YK YX6_inWeek 1 := ⟨lw_in2 (k := 200) rfl rfl, lw_in1 (k := 3) rfl rfl, ⟨by decide, by decide⟩, by decide +kernel, by decide⟩
theorem iX6_inWeek : Cond.instanceMethod YX6_inWeek.1 ∈ lw_all := lw_in2 (k := 198) rfl rfl
theorem eX6_inWeek : Cond.selects YX6_inWeek.1.cls YX6_inWeek.1 YX6_inWeek.1 ∈ lw_all := lw_in2 (k := 199) rfl rfl
abbrev YX7_init : ab_Y := (yX7_init, cX7_init, 1, none)
theorem kX7_init : ab_YK YX7_init 0 := ⟨lw_in1 (k := 84) rfl rfl, lw_in1 (k := 5) rfl rfl, ⟨by decide, by decide⟩, by decide +kernel, by decide⟩
theorem iX7_init : Cond.instanceMethod YX7_init.1 ∈ lw_all := lw_in1 (k := 83) rfl rfl
abbrev YX7_setAsAtFirst : ab_Y := (yX7_setAsAtFirst, cX7_setAsAtFirst, 2, none)
theorem kX7_setAsAtFirst : ab_YK YX7_setAsAtFirst 0 := ⟨lw_in1 (k := 89) rfl rfl, lw_in1 (k := 5) rfl rfl, ⟨by decide, by decide⟩, by decide +kernel, by decide⟩
theorem iX7_setAsAtFirst : Cond.instanceMethod YX7_setAsAtFirst.1 ∈ lw_all := lw_in1 (k := 87) rfl rfl
theorem eX7_setAsAtFirst : Cond.selects YX7_setAsAtFirst.1.cls YX7_setAsAtFirst.1 YX7_setAsAtFirst.1 ∈ lw_all := lw_in1 (k := 88) rfl rfl
abbrev YX7_copy : ab_Y := (yX7_copy, cX7_copy, 3, none)
theorem kX7_copy : ab_YK YX7_copy 1 := ⟨lw_in3 (k := 131) rfl rfl, lw_in1 (k := 5) rfl rfl, ⟨by decide, by decide⟩, by decide +kernel, by decide⟩
theorem iX7_copy : Cond.instanceMethod YX7_copy.1 ∈ lw_all := lw_in3 (k := 129) rfl rfl
theorem eX7_copy : Cond.selects YX7_copy.1.cls YX7_copy.1 YX7_copy.1 ∈ lw_all := lw_in3 (k := 130) rfl rfl
abbrev YX7_setWay : ab_Y := (yX7_setWay, cX7_setWay, 5, none)
theorem kX7_setWay : ab_YK YX7_setWay 4 := ⟨lw_in1 (k := 93) rfl rfl, lw_in1 (k := 5) rfl rfl, ⟨by decide, by decide⟩, by decide +kernel, by decide⟩
theorem iX7_setWay : Cond.instanceMethod YX7_setWay.1 ∈ lw_all := lw_in1 (k := 91) rfl rfl
theorem eX7_setWay : Cond.selects YX7_setWay.1.cls YX7_setWay.1 YX7_setWay.1 ∈ lw_all := lw_in1 (k := 92) rfl rfl
abbrev YX7_takes : ab_Y := (yX7_takes, cX7_takes, 4, (some .boolean))
theorem kX7_takes : ab_YK YX7_takes 3 := ⟨lw_in2 (k := 216) rfl rfl, lw_in1 (k := 5) rfl rfl, ⟨by decide, by decide⟩, by decide +kernel, by decide⟩
theorem iX7_takes : Cond.instanceMethod YX7_takes.1 ∈ lw_all := lw_in2 (k := 214) rfl rfl
theorem eX7_takes : Cond.selects YX7_takes.1.cls YX7_takes.1 YX7_takes.1 ∈ lw_all := lw_in2 (k := 215) rfl rfl
abbrev YX8_init : ab_Y := (yX8_init, cX8_init, 2, none)
theorem kX8_init : ab_YK YX8_init 1 := ⟨lw_in2 (k := 65) rfl rfl, lw_in1 (k := 12) rfl rfl, ⟨by decide, by decide⟩, by decide +kernel, by decide⟩
theorem iX8_init : Cond.instanceMethod YX8_init.1 ∈ lw_all := lw_in2 (k := 64) rfl rfl
abbrev YX8_settle : ab_Y := (yX8_settle, cX8_settle, 3, none)
theorem kX8_settle : ab_YK YX8_settle 0 := ⟨lw_in4 (k := 26) rfl rfl, lw_in1 (k := 12) rfl rfl, ⟨by decide, by decide⟩, by decide +kernel, by decide⟩
theorem iX8_settle : Cond.instanceMethod YX8_settle.1 ∈ lw_all := lw_in4 (k := 24) rfl rfl
theorem eX8_settle : Cond.selects YX8_settle.1.cls YX8_settle.1 YX8_settle.1 ∈ lw_all := lw_in4 (k := 25) rfl rfl
abbrev YX8_closeRing : ab_Y := (yX8_closeRing, cX8_closeRing, 5, (some .int))
theorem kX8_closeRing : ab_YK YX8_closeRing 1 := ⟨lw_in4 (k := 30) rfl rfl, lw_in1 (k := 12) rfl rfl, ⟨by decide, by decide⟩, by decide +kernel, by decide⟩
theorem iX8_closeRing : Cond.instanceMethod YX8_closeRing.1 ∈ lw_all := lw_in4 (k := 29) rfl rfl
theorem eX8_closeRing : Cond.selects YX8_closeRing.1.cls YX8_closeRing.1 YX8_closeRing.1 ∈ lw_all := lw_in0 (k := 20) (q := (yX8_closeRing, _)) rfl
abbrev YX8_pointedTo : ab_Y := (yX8_pointedTo, cX8_pointedTo, 5, (some .int))
theorem kX8_pointedTo : ab_YK YX8_pointedTo 2 := ⟨lw_in4 (k := 38) rfl rfl, lw_in1 (k := 12) rfl rfl, ⟨by decide, by decide⟩, by decide +kernel, by decide⟩
theorem iX8_pointedTo : Cond.instanceMethod YX8_pointedTo.1 ∈ lw_all := lw_in4 (k := 37) rfl rfl
theorem eX8_pointedTo : Cond.selects YX8_pointedTo.1.cls YX8_pointedTo.1 YX8_pointedTo.1 ∈ lw_all := lw_in0 (k := 21) (q := (yX8_pointedTo, _)) rfl
abbrev YX9_init : ab_Y := (yX9_init, cX9_init, 1, none)
theorem kX9_init : ab_YK YX9_init 0 := ⟨lw_in1 (k := 135) rfl rfl, lw_in1 (k := 6) rfl rfl, ⟨by decide, by decide⟩, by decide +kernel, by decide⟩
theorem iX9_init : Cond.instanceMethod YX9_init.1 ∈ lw_all := lw_in1 (k := 134) rfl rfl
abbrev YX9_add : ab_Y := (yX9_add, cX9_add, 2, none)
theorem kX9_add : ab_YK YX9_add 1 := ⟨lw_in3 (k := 18) rfl rfl, lw_in1 (k := 6) rfl rfl, ⟨by decide, by decide⟩, by decide +kernel, by decide⟩
theorem iX9_add : Cond.instanceMethod YX9_add.1 ∈ lw_all := lw_in3 (k := 16) rfl rfl
theorem eX9_add : Cond.selects YX9_add.1.cls YX9_add.1 YX9_add.1 ∈ lw_all := lw_in3 (k := 17) rfl rfl
abbrev YX9_readInto : ab_Y := (yX9_readInto, cX9_readInto, 3, (some .int))
theorem kX9_readInto : ab_YK YX9_readInto 1 := ⟨lw_in3 (k := 30) rfl rfl, lw_in1 (k := 6) rfl rfl, ⟨by decide, by decide⟩, by decide +kernel, by decide⟩
theorem iX9_readInto : Cond.instanceMethod YX9_readInto.1 ∈ lw_all := lw_in3 (k := 28) rfl rfl
theorem eX9_readInto : Cond.selects YX9_readInto.1.cls YX9_readInto.1 YX9_readInto.1 ∈ lw_all := lw_in3 (k := 29) rfl rfl
abbrev YX9_readLine : ab_Y := (yX9_readLine, cX9_readLine, 2, (some .boolean))
theorem kX9_readLine : ab_YK YX9_readLine 1 := ⟨lw_in3 (k := 42) rfl rfl, lw_in1 (k := 6) rfl rfl, ⟨by decide, by decide⟩, by decide +kernel, by decide⟩
theorem iX9_readLine : Cond.instanceMethod YX9_readLine.1 ∈ lw_all := lw_in3 (k := 41) rfl rfl
theorem eX9_readLine : Cond.selects YX9_readLine.1.cls YX9_readLine.1 YX9_readLine.1 ∈ lw_all := lw_in0 (k := 7) (q := (yX9_readLine, _)) rfl
abbrev YX9_readWay : ab_Y := (yX9_readWay, cX9_readWay, 6, (some .boolean))
theorem kX9_readWay : ab_YK YX9_readWay 1 := ⟨lw_in3 (k := 117) rfl rfl, lw_in1 (k := 6) rfl rfl, ⟨by decide, by decide⟩, by decide +kernel, by decide⟩
theorem iX9_readWay : Cond.instanceMethod YX9_readWay.1 ∈ lw_all := lw_in3 (k := 116) rfl rfl
theorem eX9_readWay : Cond.selects YX9_readWay.1.cls YX9_readWay.1 YX9_readWay.1 ∈ lw_all := lw_in0 (k := 11) (q := (yX9_readWay, _)) rfl
abbrev YX9_choose : ab_Y := (yX9_choose, cX9_choose, 4, (some .int))
theorem kX9_choose : ab_YK YX9_choose 3 := ⟨lw_in3 (k := 102) rfl rfl, lw_in1 (k := 6) rfl rfl, ⟨by decide, by decide⟩, by decide +kernel, by decide⟩
theorem iX9_choose : Cond.instanceMethod YX9_choose.1 ∈ lw_all := lw_in3 (k := 101) rfl rfl
theorem eX9_choose : Cond.selects YX9_choose.1.cls YX9_choose.1 YX9_choose.1 ∈ lw_all := lw_in0 (k := 9) (q := (yX9_choose, _)) rfl
abbrev YX9_number : ab_Y := (yX9_number, cX9_number, 4, (some .int))
theorem kX9_number : ab_YK YX9_number 1 := ⟨lw_in3 (k := 107) rfl rfl, lw_in1 (k := 6) rfl rfl, ⟨by decide, by decide⟩, by decide +kernel, by decide⟩
theorem iX9_number : Cond.instanceMethod YX9_number.1 ∈ lw_all := lw_in3 (k := 106) rfl rfl
theorem eX9_number : Cond.selects YX9_number.1.cls YX9_number.1 YX9_number.1 ∈ lw_all := lw_in0 (k := 10) (q := (yX9_number, _)) rfl
abbrev YX9_pass : ab_Y := (yX9_pass, cX9_pass, 3, (some .boolean))
theorem kX9_pass : ab_YK YX9_pass 1 := ⟨lw_in3 (k := 47) rfl rfl, lw_in1 (k := 6) rfl rfl, ⟨by decide, by decide⟩, by decide +kernel, by decide⟩
theorem iX9_pass : Cond.instanceMethod YX9_pass.1 ∈ lw_all := lw_in3 (k := 46) rfl rfl
theorem eX9_pass : Cond.selects YX9_pass.1.cls YX9_pass.1 YX9_pass.1 ∈ lw_all := lw_in0 (k := 8) (q := (yX9_pass, _)) rfl
abbrev YX9_goOn : ab_Y := (yX9_goOn, cX9_goOn, 1, none)
theorem kX9_goOn : ab_YK YX9_goOn 0 := ⟨lw_in3 (k := 35) rfl rfl, lw_in1 (k := 6) rfl rfl, ⟨by decide, by decide⟩, by decide +kernel, by decide⟩
theorem iX9_goOn : Cond.instanceMethod YX9_goOn.1 ∈ lw_all := lw_in3 (k := 34) rfl rfl
theorem eX9_goOn : Cond.selects YX9_goOn.1.cls YX9_goOn.1 YX9_goOn.1 ∈ lw_all := lw_in0 (k := 6) (q := (yX9_goOn, _)) rfl
abbrev YX9_lookOf : ab_Y := (yX9_lookOf, cX9_lookOf, 1, (some .int))
theorem kX9_lookOf : ab_YK YX9_lookOf 1 := ⟨lw_in3 (k := 38) rfl rfl, lw_in1 (k := 6) rfl rfl, ⟨by decide, by decide⟩, by decide +kernel, by decide⟩
theorem sX9_lookOf : Cond.static YX9_lookOf.1 ∈ lw_all := lw_in3 (k := 37) rfl rfl
abbrev YX10_init : ab_Y := (yX10_init, cX10_init, 1, none)
theorem kX10_init : ab_YK YX10_init 0 := ⟨lw_in1 (k := 34) rfl rfl, lw_in1 (k := 2) rfl rfl, ⟨by decide, by decide⟩, by decide +kernel, by decide⟩
theorem iX10_init : Cond.instanceMethod YX10_init.1 ∈ lw_all := lw_in1 (k := 33) rfl rfl
abbrev YX11_init : ab_Y := (yX11_init, cX11_init, 1, none)
theorem kX11_init : ab_YK YX11_init 0 := ⟨lw_in1 (k := 26) rfl rfl, lw_in1 (k := 1) rfl rfl, ⟨by decide, by decide⟩, by decide +kernel, by decide⟩
theorem iX11_init : Cond.instanceMethod YX11_init.1 ∈ lw_all := lw_in1 (k := 25) rfl rfl
abbrev YX11_worth : ab_Y := (yX11_worth, cX11_worth, 5, (some .int))
theorem kX11_worth : ab_YK YX11_worth 3 := ⟨lw_in2 (k := 137) rfl rfl, lw_in1 (k := 1) rfl rfl, ⟨by decide, by decide⟩, by decide +kernel, by decide⟩
theorem iX11_worth : Cond.instanceMethod YX11_worth.1 ∈ lw_all := lw_in2 (k := 135) rfl rfl
theorem eX11_worth : Cond.selects YX11_worth.1.cls YX11_worth.1 YX11_worth.1 ∈ lw_all := lw_in2 (k := 136) rfl rfl
abbrev YX11_need : ab_Y := (yX11_need, cX11_need, 4, (some .int))
theorem kX11_need : ab_YK YX11_need 2 := ⟨lw_in2 (k := 154) rfl rfl, lw_in1 (k := 1) rfl rfl, ⟨by decide, by decide⟩, by decide +kernel, by decide⟩
theorem iX11_need : Cond.instanceMethod YX11_need.1 ∈ lw_all := lw_in2 (k := 152) rfl rfl
theorem eX11_need : Cond.selects YX11_need.1.cls YX11_need.1 YX11_need.1 ∈ lw_all := lw_in2 (k := 153) rfl rfl
abbrev YX11_coming : ab_Y := (yX11_coming, cX11_coming, 2, (some .int))
theorem kX11_coming : ab_YK YX11_coming 1 := ⟨lw_in2 (k := 158) rfl rfl, lw_in1 (k := 1) rfl rfl, ⟨by decide, by decide⟩, by decide +kernel, by decide⟩
theorem iX11_coming : Cond.instanceMethod YX11_coming.1 ∈ lw_all := lw_in2 (k := 156) rfl rfl
theorem eX11_coming : Cond.selects YX11_coming.1.cls YX11_coming.1 YX11_coming.1 ∈ lw_all := lw_in2 (k := 157) rfl rfl
abbrev YX11_joining : ab_Y := (yX11_joining, cX11_joining, 2, (some .int))
theorem kX11_joining : ab_YK YX11_joining 1 := ⟨lw_in2 (k := 171) rfl rfl, lw_in1 (k := 1) rfl rfl, ⟨by decide, by decide⟩, by decide +kernel, by decide⟩
theorem iX11_joining : Cond.instanceMethod YX11_joining.1 ∈ lw_all := lw_in2 (k := 169) rfl rfl
theorem eX11_joining : Cond.selects YX11_joining.1.cls YX11_joining.1 YX11_joining.1 ∈ lw_all := lw_in2 (k := 170) rfl rfl
abbrev YX11_join : ab_Y := (yX11_join, cX11_join, 2, (some .int))
theorem kX11_join : ab_YK YX11_join 1 := ⟨lw_in2 (k := 175) rfl rfl, lw_in1 (k := 1) rfl rfl, ⟨by decide, by decide⟩, by decide +kernel, by decide⟩
theorem iX11_join : Cond.instanceMethod YX11_join.1 ∈ lw_all := lw_in2 (k := 173) rfl rfl
theorem eX11_join : Cond.selects YX11_join.1.cls YX11_join.1 YX11_join.1 ∈ lw_all := lw_in2 (k := 174) rfl rfl
abbrev YX11_run : ab_Y := (yX11_run, cX11_run, 2, (some .int))
theorem kX11_run : ab_YK YX11_run 1 := ⟨lw_in2 (k := 192) rfl rfl, lw_in1 (k := 1) rfl rfl, ⟨by decide, by decide⟩, by decide +kernel, by decide⟩
theorem iX11_run : Cond.instanceMethod YX11_run.1 ∈ lw_all := lw_in2 (k := 190) rfl rfl
theorem eX11_run : Cond.selects YX11_run.1.cls YX11_run.1 YX11_run.1 ∈ lw_all := lw_in2 (k := 191) rfl rfl
abbrev YX11_person : ab_Y := (yX11_person, cX11_person, 4, (some .int))
theorem kX11_person : ab_YK YX11_person 2 := ⟨lw_in3 (k := 0) rfl rfl, lw_in1 (k := 1) rfl rfl, ⟨by decide, by decide⟩, by decide +kernel, by decide⟩
theorem iX11_person : Cond.instanceMethod YX11_person.1 ∈ lw_all := lw_in2 (k := 238) rfl rfl
theorem eX11_person : Cond.selects YX11_person.1.cls YX11_person.1 YX11_person.1 ∈ lw_all := lw_in2 (k := 239) rfl rfl
abbrev YX11_of : ab_Y := (yX11_of, cX11_of, 3, (some .int))
theorem kX11_of : ab_YK YX11_of 2 := ⟨lw_in3 (k := 5) rfl rfl, lw_in1 (k := 1) rfl rfl, ⟨by decide, by decide⟩, by decide +kernel, by decide⟩
theorem iX11_of : Cond.instanceMethod YX11_of.1 ∈ lw_all := lw_in3 (k := 3) rfl rfl
theorem eX11_of : Cond.selects YX11_of.1.cls YX11_of.1 YX11_of.1 ∈ lw_all := lw_in3 (k := 4) rfl rfl
abbrev YX11_empty : ab_Y := (yX11_empty, cX11_empty, 1, (some .int))
theorem kX11_empty : ab_YK YX11_empty 0 := ⟨lw_in3 (k := 9) rfl rfl, lw_in1 (k := 1) rfl rfl, ⟨by decide, by decide⟩, by decide +kernel, by decide⟩
theorem iX11_empty : Cond.instanceMethod YX11_empty.1 ∈ lw_all := lw_in3 (k := 7) rfl rfl
theorem eX11_empty : Cond.selects YX11_empty.1.cls YX11_empty.1 YX11_empty.1 ∈ lw_all := lw_in3 (k := 8) rfl rfl
abbrev YX11_write : ab_Y := (yX11_write, cX11_write, 5, (some .int))
theorem kX11_write : ab_YK YX11_write 2 := ⟨lw_in3 (k := 13) rfl rfl, lw_in1 (k := 1) rfl rfl, ⟨by decide, by decide⟩, by decide +kernel, by decide⟩
theorem iX11_write : Cond.instanceMethod YX11_write.1 ∈ lw_all := lw_in3 (k := 11) rfl rfl
theorem eX11_write : Cond.selects YX11_write.1.cls YX11_write.1 YX11_write.1 ∈ lw_all := lw_in3 (k := 12) rfl rfl
abbrev YX11_erase : ab_Y := (yX11_erase, cX11_erase, 2, (some .int))
theorem kX11_erase : ab_YK YX11_erase 0 := ⟨lw_in3 (k := 22) rfl rfl, lw_in1 (k := 1) rfl rfl, ⟨by decide, by decide⟩, by decide +kernel, by decide⟩
theorem iX11_erase : Cond.instanceMethod YX11_erase.1 ∈ lw_all := lw_in3 (k := 20) rfl rfl
theorem eX11_erase : Cond.selects YX11_erase.1.cls YX11_erase.1 YX11_erase.1 ∈ lw_all := lw_in3 (k := 21) rfl rfl
abbrev YX11_fault : ab_Y := (yX11_fault, cX11_fault, 1, (some .int))
theorem kX11_fault : ab_YK YX11_fault 0 := ⟨lw_in3 (k := 26) rfl rfl, lw_in1 (k := 1) rfl rfl, ⟨by decide, by decide⟩, by decide +kernel, by decide⟩
theorem iX11_fault : Cond.instanceMethod YX11_fault.1 ∈ lw_all := lw_in3 (k := 24) rfl rfl
theorem eX11_fault : Cond.selects YX11_fault.1.cls YX11_fault.1 YX11_fault.1 ∈ lw_all := lw_in3 (k := 25) rfl rfl
abbrev YX11_rules : ab_Y := (yX11_rules, cX11_rules, 1, (some .int))
theorem kX11_rules : ab_YK YX11_rules 0 := ⟨lw_in3 (k := 127) rfl rfl, lw_in1 (k := 1) rfl rfl, ⟨by decide, by decide⟩, by decide +kernel, by decide⟩
theorem iX11_rules : Cond.instanceMethod YX11_rules.1 ∈ lw_all := lw_in3 (k := 125) rfl rfl
theorem eX11_rules : Cond.selects YX11_rules.1.cls YX11_rules.1 YX11_rules.1 ∈ lw_all := lw_in3 (k := 126) rfl rfl
abbrev YX11_rule : ab_Y := (yX11_rule, cX11_rule, 2, (some .int))
theorem kX11_rule : ab_YK YX11_rule 1 := ⟨lw_in3 (k := 135) rfl rfl, lw_in1 (k := 1) rfl rfl, ⟨by decide, by decide⟩, by decide +kernel, by decide⟩
theorem iX11_rule : Cond.instanceMethod YX11_rule.1 ∈ lw_all := lw_in3 (k := 133) rfl rfl
theorem eX11_rule : Cond.selects YX11_rule.1.cls YX11_rule.1 YX11_rule.1 ∈ lw_all := lw_in3 (k := 134) rfl rfl
abbrev YX11_way : ab_Y := (yX11_way, cX11_way, 3, (some .int))
theorem kX11_way : ab_YK YX11_way 2 := ⟨lw_in3 (k := 139) rfl rfl, lw_in1 (k := 1) rfl rfl, ⟨by decide, by decide⟩, by decide +kernel, by decide⟩
theorem iX11_way : Cond.instanceMethod YX11_way.1 ∈ lw_all := lw_in3 (k := 137) rfl rfl
theorem eX11_way : Cond.selects YX11_way.1.cls YX11_way.1 YX11_way.1 ∈ lw_all := lw_in3 (k := 138) rfl rfl
abbrev YX11_would : ab_Y := (yX11_would, cX11_would, 3, (some .int))
theorem kX11_would : ab_YK YX11_would 2 := ⟨lw_in3 (k := 143) rfl rfl, lw_in1 (k := 1) rfl rfl, ⟨by decide, by decide⟩, by decide +kernel, by decide⟩
theorem iX11_would : Cond.instanceMethod YX11_would.1 ∈ lw_all := lw_in3 (k := 141) rfl rfl
theorem eX11_would : Cond.selects YX11_would.1.cls YX11_would.1 YX11_would.1 ∈ lw_all := lw_in3 (k := 142) rfl rfl
abbrev YX11_gain : ab_Y := (yX11_gain, cX11_gain, 3, (some .int))
theorem kX11_gain : ab_YK YX11_gain 2 := ⟨lw_in3 (k := 164) rfl rfl, lw_in1 (k := 1) rfl rfl, ⟨by decide, by decide⟩, by decide +kernel, by decide⟩
theorem iX11_gain : Cond.instanceMethod YX11_gain.1 ∈ lw_all := lw_in3 (k := 162) rfl rfl
theorem eX11_gain : Cond.selects YX11_gain.1.cls YX11_gain.1 YX11_gain.1 ∈ lw_all := lw_in3 (k := 163) rfl rfl
abbrev YX11_best : ab_Y := (yX11_best, cX11_best, 7, (some .int))
theorem kX11_best : ab_YK YX11_best 2 := ⟨lw_in3 (k := 173) rfl rfl, lw_in1 (k := 1) rfl rfl, ⟨by decide, by decide⟩, by decide +kernel, by decide⟩
theorem iX11_best : Cond.instanceMethod YX11_best.1 ∈ lw_all := lw_in3 (k := 171) rfl rfl
theorem eX11_best : Cond.selects YX11_best.1.cls YX11_best.1 YX11_best.1 ∈ lw_all := lw_in3 (k := 172) rfl rfl
abbrev YX11_rest : ab_Y := (yX11_rest, cX11_rest, 3, (some .int))
theorem kX11_rest : ab_YK YX11_rest 2 := ⟨lw_in3 (k := 177) rfl rfl, lw_in1 (k := 1) rfl rfl, ⟨by decide, by decide⟩, by decide +kernel, by decide⟩
theorem iX11_rest : Cond.instanceMethod YX11_rest.1 ∈ lw_all := lw_in3 (k := 175) rfl rfl
theorem eX11_rest : Cond.selects YX11_rest.1.cls YX11_rest.1 YX11_rest.1 ∈ lw_all := lw_in3 (k := 176) rfl rfl
abbrev YX11_lot : ab_Y := (yX11_lot, cX11_lot, 7, (some .int))
theorem kX11_lot : ab_YK YX11_lot 5 := ⟨lw_in3 (k := 218) rfl rfl, lw_in1 (k := 1) rfl rfl, ⟨by decide, by decide⟩, by decide +kernel, by decide⟩
theorem iX11_lot : Cond.instanceMethod YX11_lot.1 ∈ lw_all := lw_in3 (k := 216) rfl rfl
theorem eX11_lot : Cond.selects YX11_lot.1.cls YX11_lot.1 YX11_lot.1 ∈ lw_all := lw_in3 (k := 217) rfl rfl
abbrev YX11_holder : ab_Y := (yX11_holder, cX11_holder, 3, (some .int))
theorem kX11_holder : ab_YK YX11_holder 2 := ⟨lw_in4 (k := 14) rfl rfl, lw_in1 (k := 1) rfl rfl, ⟨by decide, by decide⟩, by decide +kernel, by decide⟩
theorem iX11_holder : Cond.instanceMethod YX11_holder.1 ∈ lw_all := lw_in4 (k := 12) rfl rfl
theorem eX11_holder : Cond.selects YX11_holder.1.cls YX11_holder.1 YX11_holder.1 ∈ lw_all := lw_in4 (k := 13) rfl rfl
abbrev YX11_swaps : ab_Y := (yX11_swaps, cX11_swaps, 2, (some .int))
theorem kX11_swaps : ab_YK YX11_swaps 1 := ⟨lw_in4 (k := 22) rfl rfl, lw_in1 (k := 1) rfl rfl, ⟨by decide, by decide⟩, by decide +kernel, by decide⟩
theorem iX11_swaps : Cond.instanceMethod YX11_swaps.1 ∈ lw_all := lw_in4 (k := 20) rfl rfl
theorem eX11_swaps : Cond.selects YX11_swaps.1.cls YX11_swaps.1 YX11_swaps.1 ∈ lw_all := lw_in4 (k := 21) rfl rfl
abbrev YX11_rings : ab_Y := (yX11_rings, cX11_rings, 1, (some .int))
theorem kX11_rings : ab_YK YX11_rings 0 := ⟨lw_in4 (k := 46) rfl rfl, lw_in1 (k := 1) rfl rfl, ⟨by decide, by decide⟩, by decide +kernel, by decide⟩
theorem iX11_rings : Cond.instanceMethod YX11_rings.1 ∈ lw_all := lw_in4 (k := 44) rfl rfl
theorem eX11_rings : Cond.selects YX11_rings.1.cls YX11_rings.1 YX11_rings.1 ∈ lw_all := lw_in4 (k := 45) rfl rfl
abbrev YX11_chain : ab_Y := (yX11_chain, cX11_chain, 3, (some .int))
theorem kX11_chain : ab_YK YX11_chain 2 := ⟨lw_in4 (k := 50) rfl rfl, lw_in1 (k := 1) rfl rfl, ⟨by decide, by decide⟩, by decide +kernel, by decide⟩
theorem iX11_chain : Cond.instanceMethod YX11_chain.1 ∈ lw_all := lw_in4 (k := 48) rfl rfl
theorem eX11_chain : Cond.selects YX11_chain.1.cls YX11_chain.1 YX11_chain.1 ∈ lw_all := lw_in4 (k := 49) rfl rfl
abbrev YX11_mean : ab_Y := (yX11_mean, cX11_mean, 16, (some .long))
theorem kX11_mean : ab_YK YX11_mean 4 := ⟨lw_in4 (k := 66) rfl rfl, lw_in1 (k := 1) rfl rfl, ⟨by decide, by decide⟩, by decide +kernel, by decide⟩
theorem iX11_mean : Cond.instanceMethod YX11_mean.1 ∈ lw_all := lw_in4 (k := 64) rfl rfl
theorem eX11_mean : Cond.selects YX11_mean.1.cls YX11_mean.1 YX11_mean.1 ∈ lw_all := lw_in4 (k := 65) rfl rfl
abbrev YX11_count : ab_Y := (yX11_count, cX11_count, 2, (some .int))
theorem kX11_count : ab_YK YX11_count 1 := ⟨lw_in4 (k := 74) rfl rfl, lw_in1 (k := 1) rfl rfl, ⟨by decide, by decide⟩, by decide +kernel, by decide⟩
theorem iX11_count : Cond.instanceMethod YX11_count.1 ∈ lw_all := lw_in4 (k := 72) rfl rfl
theorem eX11_count : Cond.selects YX11_count.1.cls YX11_count.1 YX11_count.1 ∈ lw_all := lw_in4 (k := 73) rfl rfl
abbrev YX11_tryOut : ab_Y := (yX11_tryOut, cX11_tryOut, 3, none)
theorem kX11_tryOut : ab_YK YX11_tryOut 2 := ⟨lw_in3 (k := 147) rfl rfl, lw_in1 (k := 1) rfl rfl, ⟨by decide, by decide⟩, by decide +kernel, by decide⟩
theorem iX11_tryOut : Cond.instanceMethod YX11_tryOut.1 ∈ lw_all := lw_in3 (k := 146) rfl rfl
theorem eX11_tryOut : Cond.selects YX11_tryOut.1.cls YX11_tryOut.1 YX11_tryOut.1 ∈ lw_all := lw_in0 (k := 12) (q := (yX11_tryOut, _)) rfl
abbrev YX11_within : ab_Y := (yX11_within, cX11_within, 3, (some .boolean))
theorem kX11_within : ab_YK YX11_within 3 := ⟨lw_in2 (k := 143) rfl rfl, lw_in1 (k := 1) rfl rfl, ⟨by decide, by decide⟩, by decide +kernel, by decide⟩
theorem sX11_within : Cond.static YX11_within.1 ∈ lw_all := lw_in2 (k := 142) rfl rfl
abbrev YX11_isSort : ab_Y := (yX11_isSort, cX11_isSort, 1, (some .boolean))
theorem kX11_isSort : ab_YK YX11_isSort 1 := ⟨lw_in2 (k := 140) rfl rfl, lw_in1 (k := 1) rfl rfl, ⟨by decide, by decide⟩, by decide +kernel, by decide⟩
theorem sX11_isSort : Cond.static YX11_isSort.1 ∈ lw_all := lw_in2 (k := 139) rfl rfl
abbrev YX11_isKind : ab_Y := (yX11_isKind, cX11_isKind, 1, (some .boolean))
theorem kX11_isKind : ab_YK YX11_isKind 1 := ⟨lw_in2 (k := 146) rfl rfl, lw_in1 (k := 1) rfl rfl, ⟨by decide, by decide⟩, by decide +kernel, by decide⟩
theorem sX11_isKind : Cond.static YX11_isKind.1 ∈ lw_all := lw_in2 (k := 145) rfl rfl
abbrev YX11_power : ab_Y := (yX11_power, cX11_power, 6, (some .long))
theorem kX11_power : ab_YK YX11_power 2 := ⟨lw_in4 (k := 70) rfl rfl, lw_in1 (k := 1) rfl rfl, ⟨by decide, by decide⟩, by decide +kernel, by decide⟩
theorem sX11_power : Cond.static YX11_power.1 ∈ lw_all := lw_in4 (k := 69) rfl rfl
abbrev YX11_lowest : ab_Y := (yX11_lowest, cX11_lowest, 7, (some .long))
theorem kX11_lowest : ab_YK YX11_lowest 3 := ⟨lw_in4 (k := 7) rfl rfl, lw_in1 (k := 1) rfl rfl, ⟨by decide, by decide⟩, by decide +kernel, by decide⟩
theorem sX11_lowest : Cond.static YX11_lowest.1 ∈ lw_all := lw_in4 (k := 6) rfl rfl
abbrev YX11_commonDivisor : ab_Y := (yX11_commonDivisor, cX11_commonDivisor, 7, (some .long))
theorem kX11_commonDivisor : ab_YK YX11_commonDivisor 2 := ⟨lw_in4 (k := 10) rfl rfl, lw_in1 (k := 1) rfl rfl, ⟨by decide, by decide⟩, by decide +kernel, by decide⟩
theorem sX11_commonDivisor : Cond.static YX11_commonDivisor.1 ∈ lw_all := lw_in4 (k := 9) rfl rfl
abbrev YX12_init : ab_Y := (yX12_init, cX12_init, 2, none)
theorem kX12_init : ab_YK YX12_init 0 := ⟨lw_in4 (k := 79) rfl rfl, lw_in1 (k := 14) rfl rfl, ⟨by decide, by decide⟩, by decide +kernel, by decide⟩
theorem iX12_init : Cond.instanceMethod YX12_init.1 ∈ lw_all := lw_in4 (k := 78) rfl rfl
abbrev YX12_firstRules : ab_Y := (yX12_firstRules, cX12_firstRules, 2, none)
theorem kX12_firstRules : ab_YK YX12_firstRules 1 := ⟨lw_in4 (k := 83) rfl rfl, lw_in1 (k := 14) rfl rfl, ⟨by decide, by decide⟩, by decide +kernel, by decide⟩
theorem sX12_firstRules : Cond.static YX12_firstRules.1 ∈ lw_all := lw_in4 (k := 82) rfl rfl
abbrev YX12_in : ab_Y := (yX12_in, cX12_in, 3, (some .boolean))
theorem kX12_in : ab_YK YX12_in 3 := ⟨lw_in4 (k := 191) rfl rfl, lw_in1 (k := 14) rfl rfl, ⟨by decide, by decide⟩, by decide +kernel, by decide⟩
theorem sX12_in : Cond.static YX12_in.1 ∈ lw_all := lw_in4 (k := 190) rfl rfl
abbrev YX12_isFour : ab_Y := (yX12_isFour, cX12_isFour, 1, (some .boolean))
theorem kX12_isFour : ab_YK YX12_isFour 1 := ⟨lw_in4 (k := 188) rfl rfl, lw_in1 (k := 14) rfl rfl, ⟨by decide, by decide⟩, by decide +kernel, by decide⟩
theorem sX12_isFour : Cond.static YX12_isFour.1 ∈ lw_all := lw_in4 (k := 187) rfl rfl
abbrev YX12_worth : ab_Y := (yX12_worth, cX12_worth, 5, (some .int))
theorem kX12_worth : ab_YK YX12_worth 3 := ⟨lw_in4 (k := 185) rfl rfl, lw_in1 (k := 14) rfl rfl, ⟨by decide, by decide⟩, by decide +kernel, by decide⟩
theorem iX12_worth : Cond.instanceMethod YX12_worth.1 ∈ lw_all := lw_in4 (k := 183) rfl rfl
theorem eX12_worth : Cond.selects YX12_worth.1.cls YX12_worth.1 YX12_worth.1 ∈ lw_all := lw_in4 (k := 184) rfl rfl
abbrev YX12_need : ab_Y := (yX12_need, cX12_need, 4, (some .int))
theorem kX12_need : ab_YK YX12_need 2 := ⟨lw_in4 (k := 195) rfl rfl, lw_in1 (k := 14) rfl rfl, ⟨by decide, by decide⟩, by decide +kernel, by decide⟩
theorem iX12_need : Cond.instanceMethod YX12_need.1 ∈ lw_all := lw_in4 (k := 193) rfl rfl
theorem eX12_need : Cond.selects YX12_need.1.cls YX12_need.1 YX12_need.1 ∈ lw_all := lw_in4 (k := 194) rfl rfl
abbrev YX12_coming : ab_Y := (yX12_coming, cX12_coming, 2, (some .int))
theorem kX12_coming : ab_YK YX12_coming 1 := ⟨lw_in4 (k := 199) rfl rfl, lw_in1 (k := 14) rfl rfl, ⟨by decide, by decide⟩, by decide +kernel, by decide⟩
theorem iX12_coming : Cond.instanceMethod YX12_coming.1 ∈ lw_all := lw_in4 (k := 197) rfl rfl
theorem eX12_coming : Cond.selects YX12_coming.1.cls YX12_coming.1 YX12_coming.1 ∈ lw_all := lw_in4 (k := 198) rfl rfl
abbrev YX12_joining : ab_Y := (yX12_joining, cX12_joining, 2, (some .int))
theorem kX12_joining : ab_YK YX12_joining 1 := ⟨lw_in4 (k := 203) rfl rfl, lw_in1 (k := 14) rfl rfl, ⟨by decide, by decide⟩, by decide +kernel, by decide⟩
theorem iX12_joining : Cond.instanceMethod YX12_joining.1 ∈ lw_all := lw_in4 (k := 201) rfl rfl
theorem eX12_joining : Cond.selects YX12_joining.1.cls YX12_joining.1 YX12_joining.1 ∈ lw_all := lw_in4 (k := 202) rfl rfl
abbrev YX12_add : ab_Y := (yX12_add, cX12_add, 3, none)
theorem kX12_add : ab_YK YX12_add 1 := ⟨lw_in4 (k := 211) rfl rfl, lw_in1 (k := 14) rfl rfl, ⟨by decide, by decide⟩, by decide +kernel, by decide⟩
theorem iX12_add : Cond.instanceMethod YX12_add.1 ∈ lw_all := lw_in4 (k := 210) rfl rfl
theorem eX12_add : Cond.selects YX12_add.1.cls YX12_add.1 YX12_add.1 ∈ lw_all := lw_in0 (k := 23) (q := (yX12_add, _)) rfl
abbrev YX12_join : ab_Y := (yX12_join, cX12_join, 2, (some .int))
theorem kX12_join : ab_YK YX12_join 1 := ⟨lw_in4 (k := 207) rfl rfl, lw_in1 (k := 14) rfl rfl, ⟨by decide, by decide⟩, by decide +kernel, by decide⟩
theorem iX12_join : Cond.instanceMethod YX12_join.1 ∈ lw_all := lw_in4 (k := 205) rfl rfl
theorem eX12_join : Cond.selects YX12_join.1.cls YX12_join.1 YX12_join.1 ∈ lw_all := lw_in4 (k := 206) rfl rfl
abbrev YX12_isAhead : ab_Y := (yX12_isAhead, cX12_isAhead, 5, (some .boolean))
theorem kX12_isAhead : ab_YK YX12_isAhead 2 := ⟨lw_in4 (k := 231) rfl rfl, lw_in1 (k := 14) rfl rfl, ⟨by decide, by decide⟩, by decide +kernel, by decide⟩
theorem iX12_isAhead : Cond.instanceMethod YX12_isAhead.1 ∈ lw_all := lw_in4 (k := 230) rfl rfl
theorem eX12_isAhead : Cond.selects YX12_isAhead.1.cls YX12_isAhead.1 YX12_isAhead.1 ∈ lw_all := lw_in0 (k := 27) (q := (yX12_isAhead, _)) rfl
abbrev YX12_findOrder : ab_Y := (yX12_findOrder, cX12_findOrder, 4, none)
theorem kX12_findOrder : ab_YK YX12_findOrder 0 := ⟨lw_in4 (k := 227) rfl rfl, lw_in1 (k := 14) rfl rfl, ⟨by decide, by decide⟩, by decide +kernel, by decide⟩
theorem iX12_findOrder : Cond.instanceMethod YX12_findOrder.1 ∈ lw_all := lw_in4 (k := 226) rfl rfl
theorem eX12_findOrder : Cond.selects YX12_findOrder.1.cls YX12_findOrder.1 YX12_findOrder.1 ∈ lw_all := lw_in0 (k := 26) (q := (yX12_findOrder, _)) rfl
abbrev YX12_doesTake : ab_Y := (yX12_doesTake, cX12_doesTake, 6, (some .boolean))
theorem kX12_doesTake : ab_YK YX12_doesTake 2 := ⟨lw_in4 (k := 235) rfl rfl, lw_in1 (k := 14) rfl rfl, ⟨by decide, by decide⟩, by decide +kernel, by decide⟩
theorem iX12_doesTake : Cond.instanceMethod YX12_doesTake.1 ∈ lw_all := lw_in4 (k := 234) rfl rfl
theorem eX12_doesTake : Cond.selects YX12_doesTake.1.cls YX12_doesTake.1 YX12_doesTake.1 ∈ lw_all := lw_in0 (k := 28) (q := (yX12_doesTake, _)) rfl
abbrev YX12_offer : ab_Y := (yX12_offer, cX12_offer, 6, none)
theorem kX12_offer : ab_YK YX12_offer 1 := ⟨lw_in4 (k := 223) rfl rfl, lw_in1 (k := 14) rfl rfl, ⟨by decide, by decide⟩, by decide +kernel, by decide⟩
theorem iX12_offer : Cond.instanceMethod YX12_offer.1 ∈ lw_all := lw_in4 (k := 222) rfl rfl
theorem eX12_offer : Cond.selects YX12_offer.1.cls YX12_offer.1 YX12_offer.1 ∈ lw_all := lw_in0 (k := 25) (q := (yX12_offer, _)) rfl
abbrev YX12_goWeek : ab_Y := (yX12_goWeek, cX12_goWeek, 5, none)
theorem kX12_goWeek : ab_YK YX12_goWeek 0 := ⟨lw_in4 (k := 219) rfl rfl, lw_in1 (k := 14) rfl rfl, ⟨by decide, by decide⟩, by decide +kernel, by decide⟩
theorem iX12_goWeek : Cond.instanceMethod YX12_goWeek.1 ∈ lw_all := lw_in4 (k := 218) rfl rfl
theorem eX12_goWeek : Cond.selects YX12_goWeek.1.cls YX12_goWeek.1 YX12_goWeek.1 ∈ lw_all := lw_in0 (k := 24) (q := (yX12_goWeek, _)) rfl
abbrev YX12_run : ab_Y := (yX12_run, cX12_run, 3, (some .int))
theorem kX12_run : ab_YK YX12_run 1 := ⟨lw_in4 (k := 215) rfl rfl, lw_in1 (k := 14) rfl rfl, ⟨by decide, by decide⟩, by decide +kernel, by decide⟩
theorem iX12_run : Cond.instanceMethod YX12_run.1 ∈ lw_all := lw_in4 (k := 213) rfl rfl
theorem eX12_run : Cond.selects YX12_run.1.cls YX12_run.1 YX12_run.1 ∈ lw_all := lw_in4 (k := 214) rfl rfl
abbrev YX12_person : ab_Y := (yX12_person, cX12_person, 3, (some .int))
theorem kX12_person : ab_YK YX12_person 2 := ⟨lw_in4 (k := 239) rfl rfl, lw_in1 (k := 14) rfl rfl, ⟨by decide, by decide⟩, by decide +kernel, by decide⟩
theorem iX12_person : Cond.instanceMethod YX12_person.1 ∈ lw_all := lw_in4 (k := 237) rfl rfl
theorem eX12_person : Cond.selects YX12_person.1.cls YX12_person.1 YX12_person.1 ∈ lw_all := lw_in4 (k := 238) rfl rfl
abbrev YX12_of : ab_Y := (yX12_of, cX12_of, 3, (some .int))
theorem kX12_of : ab_YK YX12_of 2 := ⟨lw_in5 (k := 3) rfl rfl, lw_in1 (k := 14) rfl rfl, ⟨by decide, by decide⟩, by decide +kernel, by decide⟩
theorem iX12_of : Cond.instanceMethod YX12_of.1 ∈ lw_all := lw_in5 (k := 1) rfl rfl
theorem eX12_of : Cond.selects YX12_of.1.cls YX12_of.1 YX12_of.1 ∈ lw_all := lw_in5 (k := 2) rfl rfl
abbrev YX12_empty : ab_Y := (yX12_empty, cX12_empty, 1, (some .int))
theorem kX12_empty : ab_YK YX12_empty 0 := ⟨lw_in5 (k := 7) rfl rfl, lw_in1 (k := 14) rfl rfl, ⟨by decide, by decide⟩, by decide +kernel, by decide⟩
theorem iX12_empty : Cond.instanceMethod YX12_empty.1 ∈ lw_all := lw_in5 (k := 5) rfl rfl
theorem eX12_empty : Cond.selects YX12_empty.1.cls YX12_empty.1 YX12_empty.1 ∈ lw_all := lw_in5 (k := 6) rfl rfl
abbrev YX12_write : ab_Y := (yX12_write, cX12_write, 5, (some .int))
theorem kX12_write : ab_YK YX12_write 2 := ⟨lw_in5 (k := 11) rfl rfl, lw_in1 (k := 14) rfl rfl, ⟨by decide, by decide⟩, by decide +kernel, by decide⟩
theorem iX12_write : Cond.instanceMethod YX12_write.1 ∈ lw_all := lw_in5 (k := 9) rfl rfl
theorem eX12_write : Cond.selects YX12_write.1.cls YX12_write.1 YX12_write.1 ∈ lw_all := lw_in5 (k := 10) rfl rfl
abbrev YX12_erase : ab_Y := (yX12_erase, cX12_erase, 2, (some .int))
theorem kX12_erase : ab_YK YX12_erase 0 := ⟨lw_in5 (k := 16) rfl rfl, lw_in1 (k := 14) rfl rfl, ⟨by decide, by decide⟩, by decide +kernel, by decide⟩
theorem iX12_erase : Cond.instanceMethod YX12_erase.1 ∈ lw_all := lw_in5 (k := 14) rfl rfl
theorem eX12_erase : Cond.selects YX12_erase.1.cls YX12_erase.1 YX12_erase.1 ∈ lw_all := lw_in5 (k := 15) rfl rfl
abbrev YX12_nextToken : ab_Y := (yX12_nextToken, cX12_nextToken, 1, none)
theorem kX12_nextToken : ab_YK YX12_nextToken 0 := ⟨lw_in5 (k := 32) rfl rfl, lw_in1 (k := 14) rfl rfl, ⟨by decide, by decide⟩, by decide +kernel, by decide⟩
theorem iX12_nextToken : Cond.instanceMethod YX12_nextToken.1 ∈ lw_all := lw_in5 (k := 31) rfl rfl
theorem eX12_nextToken : Cond.selects YX12_nextToken.1.cls YX12_nextToken.1 YX12_nextToken.1 ∈ lw_all := lw_in0 (k := 31) (q := (yX12_nextToken, _)) rfl
abbrev YX12_fails : ab_Y := (yX12_fails, cX12_fails, 1, (some .boolean))
theorem kX12_fails : ab_YK YX12_fails 0 := ⟨lw_in5 (k := 50) rfl rfl, lw_in1 (k := 14) rfl rfl, ⟨by decide, by decide⟩, by decide +kernel, by decide⟩
theorem iX12_fails : Cond.instanceMethod YX12_fails.1 ∈ lw_all := lw_in5 (k := 49) rfl rfl
theorem eX12_fails : Cond.selects YX12_fails.1.cls YX12_fails.1 YX12_fails.1 ∈ lw_all := lw_in0 (k := 33) (q := (yX12_fails, _)) rfl
abbrev YX12_isNumber : ab_Y := (yX12_isNumber, cX12_isNumber, 3, (some .boolean))
theorem kX12_isNumber : ab_YK YX12_isNumber 2 := ⟨lw_in5 (k := 55) rfl rfl, lw_in1 (k := 14) rfl rfl, ⟨by decide, by decide⟩, by decide +kernel, by decide⟩
theorem iX12_isNumber : Cond.instanceMethod YX12_isNumber.1 ∈ lw_all := lw_in5 (k := 54) rfl rfl
theorem eX12_isNumber : Cond.selects YX12_isNumber.1.cls YX12_isNumber.1 YX12_isNumber.1 ∈ lw_all := lw_in0 (k := 34) (q := (yX12_isNumber, _)) rfl
abbrev YX12_isOf : ab_Y := (yX12_isOf, cX12_isOf, 8, (some .boolean))
theorem kX12_isOf : ab_YK YX12_isOf 4 := ⟨lw_in5 (k := 46) rfl rfl, lw_in1 (k := 14) rfl rfl, ⟨by decide, by decide⟩, by decide +kernel, by decide⟩
theorem iX12_isOf : Cond.instanceMethod YX12_isOf.1 ∈ lw_all := lw_in5 (k := 45) rfl rfl
theorem eX12_isOf : Cond.selects YX12_isOf.1.cls YX12_isOf.1 YX12_isOf.1 ∈ lw_all := lw_in0 (k := 32) (q := (yX12_isOf, _)) rfl
abbrev YX12_isWay : ab_Y := (yX12_isWay, cX12_isWay, 2, (some .boolean))
theorem kX12_isWay : ab_YK YX12_isWay 0 := ⟨lw_in5 (k := 65) rfl rfl, lw_in1 (k := 14) rfl rfl, ⟨by decide, by decide⟩, by decide +kernel, by decide⟩
theorem iX12_isWay : Cond.instanceMethod YX12_isWay.1 ∈ lw_all := lw_in5 (k := 64) rfl rfl
theorem eX12_isWay : Cond.selects YX12_isWay.1.cls YX12_isWay.1 YX12_isWay.1 ∈ lw_all := lw_in0 (k := 35) (q := (yX12_isWay, _)) rfl
abbrev YX12_isLine : ab_Y := (yX12_isLine, cX12_isLine, 1, (some .boolean))
theorem kX12_isLine : ab_YK YX12_isLine 0 := ⟨lw_in5 (k := 28) rfl rfl, lw_in1 (k := 14) rfl rfl, ⟨by decide, by decide⟩, by decide +kernel, by decide⟩
theorem iX12_isLine : Cond.instanceMethod YX12_isLine.1 ∈ lw_all := lw_in5 (k := 27) rfl rfl
theorem eX12_isLine : Cond.selects YX12_isLine.1.cls YX12_isLine.1 YX12_isLine.1 ∈ lw_all := lw_in0 (k := 30) (q := (yX12_isLine, _)) rfl
abbrev YX12_isRead : ab_Y := (yX12_isRead, cX12_isRead, 2, (some .boolean))
theorem kX12_isRead : ab_YK YX12_isRead 0 := ⟨lw_in5 (k := 24) rfl rfl, lw_in1 (k := 14) rfl rfl, ⟨by decide, by decide⟩, by decide +kernel, by decide⟩
theorem iX12_isRead : Cond.instanceMethod YX12_isRead.1 ∈ lw_all := lw_in5 (k := 23) rfl rfl
theorem eX12_isRead : Cond.selects YX12_isRead.1.cls YX12_isRead.1 YX12_isRead.1 ∈ lw_all := lw_in0 (k := 29) (q := (yX12_isRead, _)) rfl
abbrev YX12_fault : ab_Y := (yX12_fault, cX12_fault, 1, (some .int))
theorem kX12_fault : ab_YK YX12_fault 0 := ⟨lw_in5 (k := 20) rfl rfl, lw_in1 (k := 14) rfl rfl, ⟨by decide, by decide⟩, by decide +kernel, by decide⟩
theorem iX12_fault : Cond.instanceMethod YX12_fault.1 ∈ lw_all := lw_in5 (k := 18) rfl rfl
theorem eX12_fault : Cond.selects YX12_fault.1.cls YX12_fault.1 YX12_fault.1 ∈ lw_all := lw_in5 (k := 19) rfl rfl
abbrev YX12_rules : ab_Y := (yX12_rules, cX12_rules, 2, (some .int))
theorem kX12_rules : ab_YK YX12_rules 0 := ⟨lw_in5 (k := 72) rfl rfl, lw_in1 (k := 14) rfl rfl, ⟨by decide, by decide⟩, by decide +kernel, by decide⟩
theorem iX12_rules : Cond.instanceMethod YX12_rules.1 ∈ lw_all := lw_in5 (k := 70) rfl rfl
theorem eX12_rules : Cond.selects YX12_rules.1.cls YX12_rules.1 YX12_rules.1 ∈ lw_all := lw_in5 (k := 71) rfl rfl
abbrev YX12_rule : ab_Y := (yX12_rule, cX12_rule, 2, (some .int))
theorem kX12_rule : ab_YK YX12_rule 1 := ⟨lw_in5 (k := 76) rfl rfl, lw_in1 (k := 14) rfl rfl, ⟨by decide, by decide⟩, by decide +kernel, by decide⟩
theorem iX12_rule : Cond.instanceMethod YX12_rule.1 ∈ lw_all := lw_in5 (k := 74) rfl rfl
theorem eX12_rule : Cond.selects YX12_rule.1.cls YX12_rule.1 YX12_rule.1 ∈ lw_all := lw_in5 (k := 75) rfl rfl
abbrev YX12_way : ab_Y := (yX12_way, cX12_way, 3, (some .int))
theorem kX12_way : ab_YK YX12_way 2 := ⟨lw_in5 (k := 80) rfl rfl, lw_in1 (k := 14) rfl rfl, ⟨by decide, by decide⟩, by decide +kernel, by decide⟩
theorem iX12_way : Cond.instanceMethod YX12_way.1 ∈ lw_all := lw_in5 (k := 78) rfl rfl
theorem eX12_way : Cond.selects YX12_way.1.cls YX12_way.1 YX12_way.1 ∈ lw_all := lw_in5 (k := 79) rfl rfl
abbrev YX12_keepRules : ab_Y := (yX12_keepRules, cX12_keepRules, 2, none)
theorem kX12_keepRules : ab_YK YX12_keepRules 0 := ⟨lw_in5 (k := 113) rfl rfl, lw_in1 (k := 14) rfl rfl, ⟨by decide, by decide⟩, by decide +kernel, by decide⟩
theorem iX12_keepRules : Cond.instanceMethod YX12_keepRules.1 ∈ lw_all := lw_in5 (k := 112) rfl rfl
theorem eX12_keepRules : Cond.selects YX12_keepRules.1.cls YX12_keepRules.1 YX12_keepRules.1 ∈ lw_all := lw_in0 (k := 40) (q := (yX12_keepRules, _)) rfl
abbrev YX12_layBackRules : ab_Y := (yX12_layBackRules, cX12_layBackRules, 2, none)
theorem kX12_layBackRules : ab_YK YX12_layBackRules 0 := ⟨lw_in5 (k := 117) rfl rfl, lw_in1 (k := 14) rfl rfl, ⟨by decide, by decide⟩, by decide +kernel, by decide⟩
theorem iX12_layBackRules : Cond.instanceMethod YX12_layBackRules.1 ∈ lw_all := lw_in5 (k := 116) rfl rfl
theorem eX12_layBackRules : Cond.selects YX12_layBackRules.1.cls YX12_layBackRules.1 YX12_layBackRules.1 ∈ lw_all := lw_in0 (k := 41) (q := (yX12_layBackRules, _)) rfl
abbrev YX12_goOn : ab_Y := (yX12_goOn, cX12_goOn, 3, none)
theorem kX12_goOn : ab_YK YX12_goOn 1 := ⟨lw_in5 (k := 88) rfl rfl, lw_in1 (k := 14) rfl rfl, ⟨by decide, by decide⟩, by decide +kernel, by decide⟩
theorem iX12_goOn : Cond.instanceMethod YX12_goOn.1 ∈ lw_all := lw_in5 (k := 87) rfl rfl
theorem eX12_goOn : Cond.selects YX12_goOn.1.cls YX12_goOn.1 YX12_goOn.1 ∈ lw_all := lw_in0 (k := 36) (q := (yX12_goOn, _)) rfl
abbrev YX12_layBack : ab_Y := (yX12_layBack, cX12_layBack, 2, none)
theorem kX12_layBack : ab_YK YX12_layBack 0 := ⟨lw_in5 (k := 96) rfl rfl, lw_in1 (k := 14) rfl rfl, ⟨by decide, by decide⟩, by decide +kernel, by decide⟩
theorem iX12_layBack : Cond.instanceMethod YX12_layBack.1 ∈ lw_all := lw_in5 (k := 95) rfl rfl
theorem eX12_layBack : Cond.selects YX12_layBack.1.cls YX12_layBack.1 YX12_layBack.1 ∈ lw_all := lw_in0 (k := 38) (q := (yX12_layBack, _)) rfl
abbrev YX12_more : ab_Y := (yX12_more, cX12_more, 4, (some .int))
theorem kX12_more : ab_YK YX12_more 1 := ⟨lw_in5 (k := 92) rfl rfl, lw_in1 (k := 14) rfl rfl, ⟨by decide, by decide⟩, by decide +kernel, by decide⟩
theorem iX12_more : Cond.instanceMethod YX12_more.1 ∈ lw_all := lw_in5 (k := 91) rfl rfl
theorem eX12_more : Cond.selects YX12_more.1.cls YX12_more.1 YX12_more.1 ∈ lw_all := lw_in0 (k := 37) (q := (yX12_more, _)) rfl
abbrev YX12_would : ab_Y := (yX12_would, cX12_would, 4, (some .int))
theorem kX12_would : ab_YK YX12_would 2 := ⟨lw_in5 (k := 84) rfl rfl, lw_in1 (k := 14) rfl rfl, ⟨by decide, by decide⟩, by decide +kernel, by decide⟩
theorem iX12_would : Cond.instanceMethod YX12_would.1 ∈ lw_all := lw_in5 (k := 82) rfl rfl
theorem eX12_would : Cond.selects YX12_would.1.cls YX12_would.1 YX12_would.1 ∈ lw_all := lw_in5 (k := 83) rfl rfl
abbrev YX12_gainOf : ab_Y := (yX12_gainOf, cX12_gainOf, 2, (some .int))
theorem kX12_gainOf : ab_YK YX12_gainOf 1 := ⟨lw_in5 (k := 105) rfl rfl, lw_in1 (k := 14) rfl rfl, ⟨by decide, by decide⟩, by decide +kernel, by decide⟩
theorem iX12_gainOf : Cond.instanceMethod YX12_gainOf.1 ∈ lw_all := lw_in5 (k := 104) rfl rfl
theorem eX12_gainOf : Cond.selects YX12_gainOf.1.cls YX12_gainOf.1 YX12_gainOf.1 ∈ lw_all := lw_in0 (k := 39) (q := (yX12_gainOf, _)) rfl
abbrev YX12_gain : ab_Y := (yX12_gain, cX12_gain, 4, (some .int))
theorem kX12_gain : ab_YK YX12_gain 2 := ⟨lw_in5 (k := 100) rfl rfl, lw_in1 (k := 14) rfl rfl, ⟨by decide, by decide⟩, by decide +kernel, by decide⟩
theorem iX12_gain : Cond.instanceMethod YX12_gain.1 ∈ lw_all := lw_in5 (k := 98) rfl rfl
theorem eX12_gain : Cond.selects YX12_gain.1.cls YX12_gain.1 YX12_gain.1 ∈ lw_all := lw_in5 (k := 99) rfl rfl
abbrev YX12_best : ab_Y := (yX12_best, cX12_best, 7, (some .int))
theorem kX12_best : ab_YK YX12_best 2 := ⟨lw_in5 (k := 109) rfl rfl, lw_in1 (k := 14) rfl rfl, ⟨by decide, by decide⟩, by decide +kernel, by decide⟩
theorem iX12_best : Cond.instanceMethod YX12_best.1 ∈ lw_all := lw_in5 (k := 107) rfl rfl
theorem eX12_best : Cond.selects YX12_best.1.cls YX12_best.1 YX12_best.1 ∈ lw_all := lw_in5 (k := 108) rfl rfl
abbrev YX12_findGains : ab_Y := (yX12_findGains, cX12_findGains, 6, none)
theorem kX12_findGains : ab_YK YX12_findGains 1 := ⟨lw_in5 (k := 125) rfl rfl, lw_in1 (k := 14) rfl rfl, ⟨by decide, by decide⟩, by decide +kernel, by decide⟩
theorem iX12_findGains : Cond.instanceMethod YX12_findGains.1 ∈ lw_all := lw_in5 (k := 124) rfl rfl
theorem eX12_findGains : Cond.selects YX12_findGains.1.cls YX12_findGains.1 YX12_findGains.1 ∈ lw_all := lw_in0 (k := 42) (q := (yX12_findGains, _)) rfl
abbrev YX12_isAtRest : ab_Y := (yX12_isAtRest, cX12_isAtRest, 7, (some .boolean))
theorem kX12_isAtRest : ab_YK YX12_isAtRest 1 := ⟨lw_in5 (k := 129) rfl rfl, lw_in1 (k := 14) rfl rfl, ⟨by decide, by decide⟩, by decide +kernel, by decide⟩
theorem iX12_isAtRest : Cond.instanceMethod YX12_isAtRest.1 ∈ lw_all := lw_in5 (k := 128) rfl rfl
theorem eX12_isAtRest : Cond.selects YX12_isAtRest.1.cls YX12_isAtRest.1 YX12_isAtRest.1 ∈ lw_all := lw_in0 (k := 43) (q := (yX12_isAtRest, _)) rfl
abbrev YX12_rest : ab_Y := (yX12_rest, cX12_rest, 5, (some .int))
theorem kX12_rest : ab_YK YX12_rest 2 := ⟨lw_in5 (k := 121) rfl rfl, lw_in1 (k := 14) rfl rfl, ⟨by decide, by decide⟩, by decide +kernel, by decide⟩
theorem iX12_rest : Cond.instanceMethod YX12_rest.1 ∈ lw_all := lw_in5 (k := 119) rfl rfl
theorem eX12_rest : Cond.selects YX12_rest.1.cls YX12_rest.1 YX12_rest.1 ∈ lw_all := lw_in5 (k := 120) rfl rfl
abbrev YX12_divisor : ab_Y := (yX12_divisor, cX12_divisor, 10, (some .long))
theorem kX12_divisor : ab_YK YX12_divisor 2 := ⟨lw_in5 (k := 144) rfl rfl, lw_in1 (k := 14) rfl rfl, ⟨by decide, by decide⟩, by decide +kernel, by decide⟩
theorem sX12_divisor : Cond.static YX12_divisor.1 ∈ lw_all := lw_in5 (k := 143) rfl rfl
abbrev YX12_part : ab_Y := (yX12_part, cX12_part, 8, (some .int))
theorem kX12_part : ab_YK YX12_part 3 := ⟨lw_in5 (k := 141) rfl rfl, lw_in1 (k := 14) rfl rfl, ⟨by decide, by decide⟩, by decide +kernel, by decide⟩
theorem iX12_part : Cond.instanceMethod YX12_part.1 ∈ lw_all := lw_in5 (k := 140) rfl rfl
theorem eX12_part : Cond.selects YX12_part.1.cls YX12_part.1 YX12_part.1 ∈ lw_all := lw_in0 (k := 45) (q := (yX12_part, _)) rfl
abbrev YX12_lotOf : ab_Y := (yX12_lotOf, cX12_lotOf, 9, (some .int))
theorem kX12_lotOf : ab_YK YX12_lotOf 3 := ⟨lw_in5 (k := 137) rfl rfl, lw_in1 (k := 14) rfl rfl, ⟨by decide, by decide⟩, by decide +kernel, by decide⟩
theorem iX12_lotOf : Cond.instanceMethod YX12_lotOf.1 ∈ lw_all := lw_in5 (k := 136) rfl rfl
theorem eX12_lotOf : Cond.selects YX12_lotOf.1.cls YX12_lotOf.1 YX12_lotOf.1 ∈ lw_all := lw_in0 (k := 44) (q := (yX12_lotOf, _)) rfl
abbrev YX12_lot : ab_Y := (yX12_lot, cX12_lot, 14, (some .int))
theorem kX12_lot : ab_YK YX12_lot 5 := ⟨lw_in5 (k := 133) rfl rfl, lw_in1 (k := 14) rfl rfl, ⟨by decide, by decide⟩, by decide +kernel, by decide⟩
theorem iX12_lot : Cond.instanceMethod YX12_lot.1 ∈ lw_all := lw_in5 (k := 131) rfl rfl
theorem eX12_lot : Cond.selects YX12_lot.1.cls YX12_lot.1 YX12_lot.1 ∈ lw_all := lw_in5 (k := 132) rfl rfl
abbrev YX12_holder : ab_Y := (yX12_holder, cX12_holder, 3, (some .int))
theorem kX12_holder : ab_YK YX12_holder 2 := ⟨lw_in5 (k := 148) rfl rfl, lw_in1 (k := 14) rfl rfl, ⟨by decide, by decide⟩, by decide +kernel, by decide⟩
theorem iX12_holder : Cond.instanceMethod YX12_holder.1 ∈ lw_all := lw_in5 (k := 146) rfl rfl
theorem eX12_holder : Cond.selects YX12_holder.1.cls YX12_holder.1 YX12_holder.1 ∈ lw_all := lw_in5 (k := 147) rfl rfl
abbrev YX12_worthTo : ab_Y := (yX12_worthTo, cX12_worthTo, 3, (some .int))
theorem kX12_worthTo : ab_YK YX12_worthTo 2 := ⟨lw_in5 (k := 160) rfl rfl, lw_in1 (k := 14) rfl rfl, ⟨by decide, by decide⟩, by decide +kernel, by decide⟩
theorem iX12_worthTo : Cond.instanceMethod YX12_worthTo.1 ∈ lw_all := lw_in5 (k := 159) rfl rfl
theorem eX12_worthTo : Cond.selects YX12_worthTo.1.cls YX12_worthTo.1 YX12_worthTo.1 ∈ lw_all := lw_in0 (k := 47) (q := (yX12_worthTo, _)) rfl
abbrev YX12_swapAll : ab_Y := (yX12_swapAll, cX12_swapAll, 7, none)
theorem kX12_swapAll : ab_YK YX12_swapAll 0 := ⟨lw_in5 (k := 156) rfl rfl, lw_in1 (k := 14) rfl rfl, ⟨by decide, by decide⟩, by decide +kernel, by decide⟩
theorem iX12_swapAll : Cond.instanceMethod YX12_swapAll.1 ∈ lw_all := lw_in5 (k := 155) rfl rfl
theorem eX12_swapAll : Cond.selects YX12_swapAll.1.cls YX12_swapAll.1 YX12_swapAll.1 ∈ lw_all := lw_in0 (k := 46) (q := (yX12_swapAll, _)) rfl
abbrev YX12_swaps : ab_Y := (yX12_swaps, cX12_swaps, 2, (some .int))
theorem kX12_swaps : ab_YK YX12_swaps 1 := ⟨lw_in5 (k := 152) rfl rfl, lw_in1 (k := 14) rfl rfl, ⟨by decide, by decide⟩, by decide +kernel, by decide⟩
theorem iX12_swaps : Cond.instanceMethod YX12_swaps.1 ∈ lw_all := lw_in5 (k := 150) rfl rfl
theorem eX12_swaps : Cond.selects YX12_swaps.1.cls YX12_swaps.1 YX12_swaps.1 ∈ lw_all := lw_in5 (k := 151) rfl rfl
abbrev YX12_rings : ab_Y := (yX12_rings, cX12_rings, 1, (some .int))
theorem kX12_rings : ab_YK YX12_rings 0 := ⟨lw_in5 (k := 164) rfl rfl, lw_in1 (k := 14) rfl rfl, ⟨by decide, by decide⟩, by decide +kernel, by decide⟩
theorem iX12_rings : Cond.instanceMethod YX12_rings.1 ∈ lw_all := lw_in5 (k := 162) rfl rfl
theorem eX12_rings : Cond.selects YX12_rings.1.cls YX12_rings.1 YX12_rings.1 ∈ lw_all := lw_in5 (k := 163) rfl rfl
abbrev YX12_wouldGo : ab_Y := (yX12_wouldGo, cX12_wouldGo, 3, (some .boolean))
theorem kX12_wouldGo : ab_YK YX12_wouldGo 2 := ⟨lw_in5 (k := 172) rfl rfl, lw_in1 (k := 14) rfl rfl, ⟨by decide, by decide⟩, by decide +kernel, by decide⟩
theorem iX12_wouldGo : Cond.instanceMethod YX12_wouldGo.1 ∈ lw_all := lw_in5 (k := 171) rfl rfl
theorem eX12_wouldGo : Cond.selects YX12_wouldGo.1.cls YX12_wouldGo.1 YX12_wouldGo.1 ∈ lw_all := lw_in0 (k := 48) (q := (yX12_wouldGo, _)) rfl
abbrev YX12_chain : ab_Y := (yX12_chain, cX12_chain, 13, (some .int))
theorem kX12_chain : ab_YK YX12_chain 2 := ⟨lw_in5 (k := 168) rfl rfl, lw_in1 (k := 14) rfl rfl, ⟨by decide, by decide⟩, by decide +kernel, by decide⟩
theorem iX12_chain : Cond.instanceMethod YX12_chain.1 ∈ lw_all := lw_in5 (k := 166) rfl rfl
theorem eX12_chain : Cond.selects YX12_chain.1.cls YX12_chain.1 YX12_chain.1 ∈ lw_all := lw_in5 (k := 167) rfl rfl
abbrev YX12_mean : ab_Y := (yX12_mean, cX12_mean, 13, (some .long))
theorem kX12_mean : ab_YK YX12_mean 4 := ⟨lw_in5 (k := 176) rfl rfl, lw_in1 (k := 14) rfl rfl, ⟨by decide, by decide⟩, by decide +kernel, by decide⟩
theorem iX12_mean : Cond.instanceMethod YX12_mean.1 ∈ lw_all := lw_in5 (k := 174) rfl rfl
theorem eX12_mean : Cond.selects YX12_mean.1.cls YX12_mean.1 YX12_mean.1 ∈ lw_all := lw_in5 (k := 175) rfl rfl
abbrev YX12_count : ab_Y := (yX12_count, cX12_count, 2, (some .int))
theorem kX12_count : ab_YK YX12_count 1 := ⟨lw_in5 (k := 180) rfl rfl, lw_in1 (k := 14) rfl rfl, ⟨by decide, by decide⟩, by decide +kernel, by decide⟩
theorem iX12_count : Cond.instanceMethod YX12_count.1 ∈ lw_all := lw_in5 (k := 178) rfl rfl
theorem eX12_count : Cond.selects YX12_count.1.cls YX12_count.1 YX12_count.1 ∈ lw_all := lw_in5 (k := 179) rfl rfl
abbrev YJ6_numberOfTrailingZeros_0f7a4 : ab_Y := (yJ6_numberOfTrailingZeros_0f7a4, cJ6_numberOfTrailingZeros_0f7a4, 2, (some .int))
theorem kJ6_numberOfTrailingZeros_0f7a4 : ab_YK YJ6_numberOfTrailingZeros_0f7a4 1 := ⟨lw_in4 (k := 33) rfl rfl, lw_in1 (k := 20) rfl rfl, ⟨by decide, by decide⟩, by decide +kernel, by decide⟩
theorem sJ6_numberOfTrailingZeros_0f7a4 : Cond.static YJ6_numberOfTrailingZeros_0f7a4.1 ∈ lw_all := lw_in4 (k := 32) rfl rfl
abbrev YJ9_min_7cf53 : ab_Y := (yJ9_min_7cf53, cJ9_min_7cf53, 2, (some .int))
theorem cJmin : Cond.code Lib.Math.min.name Lib.Math.min.code 2 (some .int) ∈ lw_all := lw_in2 (k := 236) rfl rfl
theorem nJmin : Cond.initialized "java/lang/Math" ∈ lw_all := lw_in1 (k := 15) rfl rfl
theorem sJmin : Cond.static Lib.Math.min.name ∈ lw_all := lw_in2 (k := 235) rfl rfl
abbrev YJ0_length_8abf5 : ab_Y := (yJ0_length_8abf5, cJ0_length_8abf5, 1, (some .int))
theorem kJ0_length_8abf5 : ab_YK YJ0_length_8abf5 0 := ⟨lw_in3 (k := 51) rfl rfl, lw_in1 (k := 16) rfl rfl, ⟨by decide, by decide⟩, by decide +kernel, by decide⟩
theorem iJ0_length_8abf5 : Cond.instanceMethod YJ0_length_8abf5.1 ∈ lw_all := lw_in3 (k := 49) rfl rfl
theorem eJ0_length_8abf5 : Cond.selects YJ0_length_8abf5.1.cls YJ0_length_8abf5.1 YJ0_length_8abf5.1 ∈ lw_all := lw_in3 (k := 50) rfl rfl
abbrev YJ0_charAt_5068e : ab_Y := (yJ0_charAt_5068e, cJ0_charAt_5068e, 2, (some .char))
theorem kJ0_charAt_5068e : ab_YK YJ0_charAt_5068e 1 := ⟨lw_in3 (k := 61) rfl rfl, lw_in1 (k := 16) rfl rfl, ⟨by decide, by decide⟩, by decide +kernel, by decide⟩
theorem iJ0_charAt_5068e : Cond.instanceMethod YJ0_charAt_5068e.1 ∈ lw_all := lw_in3 (k := 59) rfl rfl
theorem eJ0_charAt_5068e : Cond.selects YJ0_charAt_5068e.1.cls YJ0_charAt_5068e.1 YJ0_charAt_5068e.1 ∈ lw_all := lw_in3 (k := 60) rfl rfl
abbrev YJ0_coder_7d493 : ab_Y := (yJ0_coder_7d493, cJ0_coder_7d493, 1, (some .byte))
theorem kJ0_coder_7d493 : ab_YK YJ0_coder_7d493 0 := ⟨lw_in3 (k := 55) rfl rfl, lw_in1 (k := 16) rfl rfl, ⟨by decide, by decide⟩, by decide +kernel, by decide⟩
theorem iJ0_coder_7d493 : Cond.instanceMethod YJ0_coder_7d493.1 ∈ lw_all := lw_in3 (k := 53) rfl rfl
theorem eJ0_coder_7d493 : Cond.selects YJ0_coder_7d493.1.cls YJ0_coder_7d493.1 YJ0_coder_7d493.1 ∈ lw_all := lw_in3 (k := 54) rfl rfl
abbrev YJ0_isLatin1_aae02 : ab_Y := (yJ0_isLatin1_aae02, cJ0_isLatin1_aae02, 1, (some .boolean))
theorem kJ0_isLatin1_aae02 : ab_YK YJ0_isLatin1_aae02 0 := ⟨lw_in3 (k := 65) rfl rfl, lw_in1 (k := 16) rfl rfl, ⟨by decide, by decide⟩, by decide +kernel, by decide⟩
theorem iJ0_isLatin1_aae02 : Cond.instanceMethod YJ0_isLatin1_aae02.1 ∈ lw_all := lw_in3 (k := 63) rfl rfl
theorem eJ0_isLatin1_aae02 : Cond.selects YJ0_isLatin1_aae02.1.cls YJ0_isLatin1_aae02.1 YJ0_isLatin1_aae02.1 ∈ lw_all := lw_in3 (k := 64) rfl rfl
abbrev YJ0_checkIndex_df160 : ab_Y := (yJ0_checkIndex_df160, cJ0_checkIndex_df160, 2, none)
theorem kJ0_checkIndex_df160 : ab_YK YJ0_checkIndex_df160 2 := ⟨lw_in3 (k := 71) rfl rfl, lw_in1 (k := 16) rfl rfl, ⟨by decide, by decide⟩, by decide +kernel, by decide⟩
theorem sJ0_checkIndex_df160 : Cond.static YJ0_checkIndex_df160.1 ∈ lw_all := lw_in3 (k := 70) rfl rfl
abbrev YJ1_charAt_3b067 : ab_Y := (yJ1_charAt_3b067, cJ1_charAt_3b067, 2, (some .char))
theorem kJ1_charAt_3b067 : ab_YK YJ1_charAt_3b067 2 := ⟨lw_in3 (k := 68) rfl rfl, lw_in1 (k := 17) rfl rfl, ⟨by decide, by decide⟩, by decide +kernel, by decide⟩
theorem sJ1_charAt_3b067 : Cond.static YJ1_charAt_3b067.1 ∈ lw_all := lw_in3 (k := 67) rfl rfl
abbrev YJ2_getChar_3b067 : ab_Y := (yJ2_getChar_3b067, cJ2_getChar_3b067, 2, (some .char))
theorem kJ2_getChar_3b067 : ab_YK YJ2_getChar_3b067 2 := ⟨lw_in3 (k := 89) rfl rfl, lw_in1 (k := 19) rfl rfl, ⟨by decide, by decide⟩, by decide +kernel, by decide⟩
theorem sJ2_getChar_3b067 : Cond.static YJ2_getChar_3b067.1 ∈ lw_all := lw_in3 (k := 88) rfl rfl
abbrev YJ2_length_9d52b : ab_Y := (yJ2_length_9d52b, cJ2_length_9d52b, 1, (some .int))
theorem kJ2_length_9d52b : ab_YK YJ2_length_9d52b 1 := ⟨lw_in3 (k := 85) rfl rfl, lw_in1 (k := 19) rfl rfl, ⟨by decide, by decide⟩, by decide +kernel, by decide⟩
theorem sJ2_length_9d52b : Cond.static YJ2_length_9d52b.1 ∈ lw_all := lw_in3 (k := 84) rfl rfl
abbrev YJ2_charAt_3b067 : ab_Y := (yJ2_charAt_3b067, cJ2_charAt_3b067, 2, (some .char))
theorem kJ2_charAt_3b067 : ab_YK YJ2_charAt_3b067 2 := ⟨lw_in3 (k := 79) rfl rfl, lw_in1 (k := 19) rfl rfl, ⟨by decide, by decide⟩, by decide +kernel, by decide⟩
theorem sJ2_charAt_3b067 : Cond.static YJ2_charAt_3b067.1 ∈ lw_all := lw_in3 (k := 78) rfl rfl
abbrev YJ2_checkIndex_2214a : ab_Y := (yJ2_checkIndex_2214a, cJ2_checkIndex_2214a, 2, none)
theorem kJ2_checkIndex_2214a : ab_YK YJ2_checkIndex_2214a 2 := ⟨lw_in3 (k := 82) rfl rfl, lw_in1 (k := 19) rfl rfl, ⟨by decide, by decide⟩, by decide +kernel, by decide⟩
theorem sJ2_checkIndex_2214a : Cond.static YJ2_checkIndex_2214a.1 ∈ lw_all := lw_in3 (k := 81) rfl rfl
abbrev YJ7_fill_53178 : ab_Y := (yJ7_fill_53178, cJ7_fill_53178, 4, none)
theorem kJ7_fill_53178 : ab_YK YJ7_fill_53178 2 := ⟨lw_in1 (k := 55) rfl rfl, lw_in1 (k := 4) rfl rfl, ⟨by decide, by decide⟩, by decide +kernel, by decide⟩
theorem sJ7_fill_53178 : Cond.static YJ7_fill_53178.1 ∈ lw_all := lw_in1 (k := 54) rfl rfl
abbrev YJ3_checkIndex_8e157 : ab_Y := (yJ3_checkIndex_8e157, cJ3_checkIndex_8e157, 3, (some .int))
theorem kJ3_checkIndex_8e157 : ab_YK YJ3_checkIndex_8e157 3 := ⟨lw_in3 (k := 76) rfl rfl, lw_in1 (k := 18) rfl rfl, ⟨by decide, by decide⟩, by decide +kernel, by decide⟩
theorem sJ3_checkIndex_8e157 : Cond.static YJ3_checkIndex_8e157.1 ∈ lw_all := lw_in3 (k := 75) rfl rfl
abbrev YL_law : ab_Y := (x, code, maxLocals, ret)
theorem kc0 : ab_KC 0 RX0 TX0 4 := ⟨by decide, rfl, tyX0_ok, nmX0, by decide +kernel, fun w hw => List.mem_filter.mpr ⟨(by decide +kernel : ∀ w ∈ u_ws RX0 TX0 4, w ∈ lw_tbl) w hw, (by decide +kernel : ∀ w ∈ u_ws RX0 TX0 4, goodWord w = true) w hw⟩⟩
theorem kc1 : ab_KC 1 RX1 TX1 7 := ⟨by decide, rfl, tyX1_ok, nmX1, by decide +kernel, fun w hw => List.mem_filter.mpr ⟨(by decide +kernel : ∀ w ∈ u_ws RX1 TX1 7, w ∈ lw_tbl) w hw, (by decide +kernel : ∀ w ∈ u_ws RX1 TX1 7, goodWord w = true) w hw⟩⟩
theorem kc2 : ab_KC 2 RX2 TX2 4 := ⟨by decide, rfl, tyX2_ok, nmX2, by decide +kernel, fun w hw => List.mem_filter.mpr ⟨(by decide +kernel : ∀ w ∈ u_ws RX2 TX2 4, w ∈ lw_tbl) w hw, (by decide +kernel : ∀ w ∈ u_ws RX2 TX2 4, goodWord w = true) w hw⟩⟩
theorem kc3 : ab_KC 3 RX3 TX3 4 := ⟨by decide, rfl, tyX3_ok, nmX3, by decide +kernel, fun w hw => List.mem_filter.mpr ⟨(by decide +kernel : ∀ w ∈ u_ws RX3 TX3 4, w ∈ lw_tbl) w hw, (by decide +kernel : ∀ w ∈ u_ws RX3 TX3 4, goodWord w = true) w hw⟩⟩
theorem kc4 : ab_KC 4 RX4 TX4 5 := ⟨by decide, rfl, tyX4_ok, nmX4, by decide +kernel, fun w hw => List.mem_filter.mpr ⟨(by decide +kernel : ∀ w ∈ u_ws RX4 TX4 5, w ∈ lw_tbl) w hw, (by decide +kernel : ∀ w ∈ u_ws RX4 TX4 5, goodWord w = true) w hw⟩⟩
theorem kc5 : ab_KC 5 RX5 TX5 6 := ⟨by decide, rfl, tyX5_ok, nmX5, by decide +kernel, fun w hw => List.mem_filter.mpr ⟨(by decide +kernel : ∀ w ∈ u_ws RX5 TX5 6, w ∈ lw_tbl) w hw, (by decide +kernel : ∀ w ∈ u_ws RX5 TX5 6, goodWord w = true) w hw⟩⟩
theorem kc6 : ab_KC 6 RX6 TX6 2 := ⟨by decide, rfl, tyX6_ok, nmX6, by decide +kernel, fun w hw => List.mem_filter.mpr ⟨(by decide +kernel : ∀ w ∈ u_ws RX6 TX6 2, w ∈ lw_tbl) w hw, (by decide +kernel : ∀ w ∈ u_ws RX6 TX6 2, goodWord w = true) w hw⟩⟩
theorem kc7 : ab_KC 7 RX7 TX7 7 := ⟨by decide, rfl, tyX7_ok, nmX7, by decide +kernel, fun w hw => List.mem_filter.mpr ⟨(by decide +kernel : ∀ w ∈ u_ws RX7 TX7 7, w ∈ lw_tbl) w hw, (by decide +kernel : ∀ w ∈ u_ws RX7 TX7 7, goodWord w = true) w hw⟩⟩
theorem kc8 : ab_KC 8 RX8 TX8 3 := ⟨by decide, rfl, tyX8_ok, nmX8, by decide +kernel, fun w hw => List.mem_filter.mpr ⟨(by decide +kernel : ∀ w ∈ u_ws RX8 TX8 3, w ∈ lw_tbl) w hw, (by decide +kernel : ∀ w ∈ u_ws RX8 TX8 3, goodWord w = true) w hw⟩⟩
theorem kc9 : ab_KC 9 RX9 TX9 6 := ⟨by decide, rfl, tyX9_ok, nmX9, by decide +kernel, fun w hw => List.mem_filter.mpr ⟨(by decide +kernel : ∀ w ∈ u_ws RX9 TX9 6, w ∈ lw_tbl) w hw, (by decide +kernel : ∀ w ∈ u_ws RX9 TX9 6, goodWord w = true) w hw⟩⟩
theorem kc10 : ab_KC 10 RX10 TX10 4 := ⟨by decide, rfl, tyX10_ok, nmX10, by decide +kernel, fun w hw => List.mem_filter.mpr ⟨(by decide +kernel : ∀ w ∈ u_ws RX10 TX10 4, w ∈ lw_tbl) w hw, (by decide +kernel : ∀ w ∈ u_ws RX10 TX10 4, goodWord w = true) w hw⟩⟩
theorem kc11 : ab_KC 11 RX11 TX11 11 := ⟨by decide, rfl, tyX11_ok, nmX11, by decide +kernel, fun w hw => List.mem_filter.mpr ⟨(by decide +kernel : ∀ w ∈ u_ws RX11 TX11 11, w ∈ lw_tbl) w hw, (by decide +kernel : ∀ w ∈ u_ws RX11 TX11 11, goodWord w = true) w hw⟩⟩
theorem kc12 : ab_KC 12 RX12 TX12 32 := ⟨by decide, rfl, tyX12_ok, nmX12, by decide +kernel, fun w hw => List.mem_filter.mpr ⟨(by decide +kernel : ∀ w ∈ u_ws RX12 TX12 32, w ∈ lw_tbl) w hw, (by decide +kernel : ∀ w ∈ u_ws RX12 TX12 32, goodWord w = true) w hw⟩⟩
theorem lL_9 : Cond.methodLink RL 9 YX11_init.1 ∈ lw_all := lw_in1 (k := 24) rfl rfl
theorem lX11_1 : Cond.methodLink RX11 1 objectInit ∈ lw_all := lw_in1 (k := 27) rfl rfl
theorem lX11_9 : Cond.methodLink RX11 9 YX10_init.1 ∈ lw_all := lw_in1 (k := 32) rfl rfl
theorem lX10_3 : Cond.methodLink RX10 3 objectInit ∈ lw_all := lw_in1 (k := 35) rfl rfl
theorem lX6_3 : Cond.methodLink RX6 3 objectInit ∈ lw_all := lw_in1 (k := 43) rfl rfl
theorem fX6_9 : ab_FL RX6 9 6 0 true := ⟨_, _, _, kc6, by decide, rfl, lw_in1 (k := 44) rfl rfl⟩
theorem fX6_15 : ab_FL RX6 15 6 1 false := ⟨_, _, _, kc6, by decide, rfl, lw_in1 (k := 45) rfl rfl⟩
theorem fX11_275 : ab_FL RX11 275 6 1 false := ⟨_, _, _, kc6, by decide, rfl, lw_in1 (k := 46) rfl rfl⟩
theorem lX10_30 : Cond.methodLink RX10 30 YJ7_fill_53178.1 ∈ lw_all := lw_in1 (k := 53) rfl rfl
theorem fX10_11 : ab_FL RX10 11 10 0 true := ⟨_, _, _, kc10, by decide, rfl, lw_in1 (k := 56) rfl rfl⟩
theorem fX11_93 : ab_FL RX11 93 10 0 true := ⟨_, _, _, kc10, by decide, rfl, lw_in1 (k := 57) rfl rfl⟩
theorem fX2_26 : ab_FL RX2 26 10 0 true := ⟨_, _, _, kc10, by decide, rfl, lw_in1 (k := 58) rfl rfl⟩
theorem fX5_66 : ab_FL RX5 66 10 0 true := ⟨_, _, _, kc10, by decide, rfl, lw_in1 (k := 59) rfl rfl⟩
theorem fX3_63 : ab_FL RX3 63 10 0 true := ⟨_, _, _, kc10, by decide, rfl, lw_in1 (k := 60) rfl rfl⟩
theorem fX1_112 : ab_FL RX1 112 10 0 true := ⟨_, _, _, kc10, by decide, rfl, lw_in1 (k := 61) rfl rfl⟩
theorem fX10_16 : ab_FL RX10 16 10 1 true := ⟨_, _, _, kc10, by decide, rfl, lw_in1 (k := 62) rfl rfl⟩
theorem fX11_100 : ab_FL RX11 100 10 1 true := ⟨_, _, _, kc10, by decide, rfl, lw_in1 (k := 63) rfl rfl⟩
theorem fX1_93 : ab_FL RX1 93 10 1 true := ⟨_, _, _, kc10, by decide, rfl, lw_in1 (k := 64) rfl rfl⟩
theorem fX10_23 : ab_FL RX10 23 10 2 true := ⟨_, _, _, kc10, by decide, rfl, lw_in1 (k := 65) rfl rfl⟩
theorem fX11_104 : ab_FL RX11 104 10 2 true := ⟨_, _, _, kc10, by decide, rfl, lw_in1 (k := 66) rfl rfl⟩
theorem fX1_58 : ab_FL RX1 58 10 2 true := ⟨_, _, _, kc10, by decide, rfl, lw_in1 (k := 67) rfl rfl⟩
theorem fX10_27 : ab_FL RX10 27 10 3 true := ⟨_, _, _, kc10, by decide, rfl, lw_in1 (k := 68) rfl rfl⟩
theorem fX11_118 : ab_FL RX11 118 10 3 true := ⟨_, _, _, kc10, by decide, rfl, lw_in1 (k := 69) rfl rfl⟩
theorem fX1_74 : ab_FL RX1 74 10 3 true := ⟨_, _, _, kc10, by decide, rfl, lw_in1 (k := 70) rfl rfl⟩
theorem lX11_18 : Cond.methodLink RX11 18 YX7_init.1 ∈ lw_all := lw_in1 (k := 82) rfl rfl
theorem lX7_3 : Cond.methodLink RX7 3 objectInit ∈ lw_all := lw_in1 (k := 85) rfl rfl
theorem lX7_21 : Cond.methodLink RX7 21 YX7_setAsAtFirst.1 ∈ lw_all := lw_in1 (k := 86) rfl rfl
theorem lX7_37 : Cond.methodLink RX7 37 YX7_setWay.1 ∈ lw_all := lw_in1 (k := 90) rfl rfl
theorem fX7_24 : ab_FL RX7 24 7 0 false := ⟨_, _, _, kc7, by decide, rfl, lw_in1 (k := 94) rfl rfl⟩
theorem fX9_58 : ab_FL RX9 58 7 0 false := ⟨_, _, _, kc7, by decide, rfl, lw_in1 (k := 95) rfl rfl⟩
theorem fX11_136 : ab_FL RX11 136 7 0 false := ⟨_, _, _, kc7, by decide, rfl, lw_in1 (k := 96) rfl rfl⟩
theorem fX1_106 : ab_FL RX1 106 7 0 false := ⟨_, _, _, kc7, by decide, rfl, lw_in1 (k := 97) rfl rfl⟩
theorem fX7_28 : ab_FL RX7 28 7 1 false := ⟨_, _, _, kc7, by decide, rfl, lw_in1 (k := 98) rfl rfl⟩
theorem fX9_66 : ab_FL RX9 66 7 1 false := ⟨_, _, _, kc7, by decide, rfl, lw_in1 (k := 99) rfl rfl⟩
theorem fX1_133 : ab_FL RX1 133 7 1 false := ⟨_, _, _, kc7, by decide, rfl, lw_in1 (k := 100) rfl rfl⟩
theorem fX11_188 : ab_FL RX11 188 7 1 false := ⟨_, _, _, kc7, by decide, rfl, lw_in1 (k := 101) rfl rfl⟩
theorem fX7_31 : ab_FL RX7 31 7 2 false := ⟨_, _, _, kc7, by decide, rfl, lw_in1 (k := 102) rfl rfl⟩
theorem fX9_75 : ab_FL RX9 75 7 2 false := ⟨_, _, _, kc7, by decide, rfl, lw_in1 (k := 103) rfl rfl⟩
theorem fX1_134 : ab_FL RX1 134 7 2 false := ⟨_, _, _, kc7, by decide, rfl, lw_in1 (k := 104) rfl rfl⟩
theorem fX11_189 : ab_FL RX11 189 7 2 false := ⟨_, _, _, kc7, by decide, rfl, lw_in1 (k := 105) rfl rfl⟩
theorem fX7_34 : ab_FL RX7 34 7 3 false := ⟨_, _, _, kc7, by decide, rfl, lw_in1 (k := 106) rfl rfl⟩
theorem fX9_79 : ab_FL RX9 79 7 3 false := ⟨_, _, _, kc7, by decide, rfl, lw_in1 (k := 107) rfl rfl⟩
theorem fX1_81 : ab_FL RX1 81 7 3 false := ⟨_, _, _, kc7, by decide, rfl, lw_in1 (k := 108) rfl rfl⟩
theorem fX11_192 : ab_FL RX11 192 7 3 false := ⟨_, _, _, kc7, by decide, rfl, lw_in1 (k := 109) rfl rfl⟩
theorem fX7_9 : ab_FL RX7 9 7 4 true := ⟨_, _, _, kc7, by decide, rfl, lw_in1 (k := 110) rfl rfl⟩
theorem fX11_195 : ab_FL RX11 195 7 4 true := ⟨_, _, _, kc7, by decide, rfl, lw_in1 (k := 111) rfl rfl⟩
theorem fX7_15 : ab_FL RX7 15 7 5 true := ⟨_, _, _, kc7, by decide, rfl, lw_in1 (k := 112) rfl rfl⟩
theorem fX11_198 : ab_FL RX11 198 7 5 true := ⟨_, _, _, kc7, by decide, rfl, lw_in1 (k := 113) rfl rfl⟩
theorem fX7_18 : ab_FL RX7 18 7 6 true := ⟨_, _, _, kc7, by decide, rfl, lw_in1 (k := 114) rfl rfl⟩
theorem fX11_201 : ab_FL RX11 201 7 6 true := ⟨_, _, _, kc7, by decide, rfl, lw_in1 (k := 115) rfl rfl⟩
theorem lX9_3 : Cond.methodLink RX9 3 objectInit ∈ lw_all := lw_in1 (k := 136) rfl rfl
theorem fX9_9 : ab_FL RX9 9 9 0 true := ⟨_, _, _, kc9, by decide, rfl, lw_in1 (k := 137) rfl rfl⟩
theorem fX9_15 : ab_FL RX9 15 9 1 false := ⟨_, _, _, kc9, by decide, rfl, lw_in1 (k := 138) rfl rfl⟩
theorem fX11_169 : ab_FL RX11 169 9 1 false := ⟨_, _, _, kc9, by decide, rfl, lw_in1 (k := 139) rfl rfl⟩
theorem fX9_19 : ab_FL RX9 19 9 2 false := ⟨_, _, _, kc9, by decide, rfl, lw_in1 (k := 140) rfl rfl⟩
theorem fX11_185 : ab_FL RX11 185 9 2 false := ⟨_, _, _, kc9, by decide, rfl, lw_in1 (k := 141) rfl rfl⟩
theorem fX9_37 : ab_FL RX9 37 9 3 false := ⟨_, _, _, kc9, by decide, rfl, lw_in1 (k := 142) rfl rfl⟩
theorem fX9_27 : ab_FL RX9 27 9 4 false := ⟨_, _, _, kc9, by decide, rfl, lw_in1 (k := 143) rfl rfl⟩
theorem fX9_96 : ab_FL RX9 96 9 5 false := ⟨_, _, _, kc9, by decide, rfl, lw_in1 (k := 144) rfl rfl⟩
theorem lX11_35 : Cond.methodLink RX11 35 YX1_init.1 ∈ lw_all := lw_in1 (k := 161) rfl rfl
theorem lX1_3 : Cond.methodLink RX1 3 objectInit ∈ lw_all := lw_in1 (k := 164) rfl rfl
theorem lX4_1 : Cond.methodLink RX4 1 objectInit ∈ lw_all := lw_in1 (k := 172) rfl rfl
theorem fX4_7 : ab_FL RX4 7 4 0 false := ⟨_, _, _, kc4, by decide, rfl, lw_in1 (k := 173) rfl rfl⟩
theorem fX3_41 : ab_FL RX3 41 4 0 false := ⟨_, _, _, kc4, by decide, rfl, lw_in1 (k := 174) rfl rfl⟩
theorem fX11_146 : ab_FL RX11 146 4 0 false := ⟨_, _, _, kc4, by decide, rfl, lw_in1 (k := 175) rfl rfl⟩
theorem fX1_97 : ab_FL RX1 97 4 0 false := ⟨_, _, _, kc4, by decide, rfl, lw_in1 (k := 176) rfl rfl⟩
theorem fX4_13 : ab_FL RX4 13 4 1 false := ⟨_, _, _, kc4, by decide, rfl, lw_in1 (k := 177) rfl rfl⟩
theorem fX11_151 : ab_FL RX11 151 4 1 false := ⟨_, _, _, kc4, by decide, rfl, lw_in1 (k := 178) rfl rfl⟩
theorem fX1_103 : ab_FL RX1 103 4 1 false := ⟨_, _, _, kc4, by decide, rfl, lw_in1 (k := 179) rfl rfl⟩
theorem fX4_16 : ab_FL RX4 16 4 2 false := ⟨_, _, _, kc4, by decide, rfl, lw_in1 (k := 180) rfl rfl⟩
theorem fX11_154 : ab_FL RX11 154 4 2 false := ⟨_, _, _, kc4, by decide, rfl, lw_in1 (k := 181) rfl rfl⟩
theorem fX1_100 : ab_FL RX1 100 4 2 false := ⟨_, _, _, kc4, by decide, rfl, lw_in1 (k := 182) rfl rfl⟩
theorem fX4_19 : ab_FL RX4 19 4 3 false := ⟨_, _, _, kc4, by decide, rfl, lw_in1 (k := 183) rfl rfl⟩
theorem fX11_157 : ab_FL RX11 157 4 3 false := ⟨_, _, _, kc4, by decide, rfl, lw_in1 (k := 184) rfl rfl⟩
theorem fX1_130 : ab_FL RX1 130 4 3 false := ⟨_, _, _, kc4, by decide, rfl, lw_in1 (k := 185) rfl rfl⟩
theorem fX4_22 : ab_FL RX4 22 4 4 false := ⟨_, _, _, kc4, by decide, rfl, lw_in1 (k := 186) rfl rfl⟩
theorem fX11_160 : ab_FL RX11 160 4 4 false := ⟨_, _, _, kc4, by decide, rfl, lw_in1 (k := 187) rfl rfl⟩
theorem fX1_115 : ab_FL RX1 115 4 4 false := ⟨_, _, _, kc4, by decide, rfl, lw_in1 (k := 188) rfl rfl⟩
theorem fX1_35 : ab_FL RX1 35 1 0 true := ⟨_, _, _, kc1, by decide, rfl, lw_in1 (k := 200) rfl rfl⟩
theorem fX1_11 : ab_FL RX1 11 1 1 true := ⟨_, _, _, kc1, by decide, rfl, lw_in1 (k := 201) rfl rfl⟩
theorem fX3_37 : ab_FL RX3 37 1 1 true := ⟨_, _, _, kc1, by decide, rfl, lw_in1 (k := 202) rfl rfl⟩
theorem fX11_142 : ab_FL RX11 142 1 1 true := ⟨_, _, _, kc1, by decide, rfl, lw_in1 (k := 203) rfl rfl⟩
theorem fX1_17 : ab_FL RX1 17 1 2 false := ⟨_, _, _, kc1, by decide, rfl, lw_in1 (k := 204) rfl rfl⟩
theorem fX3_26 : ab_FL RX3 26 1 2 false := ⟨_, _, _, kc1, by decide, rfl, lw_in1 (k := 205) rfl rfl⟩
theorem fX11_125 : ab_FL RX11 125 1 2 false := ⟨_, _, _, kc1, by decide, rfl, lw_in1 (k := 206) rfl rfl⟩
theorem fX1_21 : ab_FL RX1 21 1 3 false := ⟨_, _, _, kc1, by decide, rfl, lw_in1 (k := 207) rfl rfl⟩
theorem fX11_129 : ab_FL RX11 129 1 3 false := ⟨_, _, _, kc1, by decide, rfl, lw_in1 (k := 208) rfl rfl⟩
theorem fX1_24 : ab_FL RX1 24 1 4 false := ⟨_, _, _, kc1, by decide, rfl, lw_in1 (k := 209) rfl rfl⟩
theorem fX11_276 : ab_FL RX11 276 1 4 false := ⟨_, _, _, kc1, by decide, rfl, lw_in1 (k := 210) rfl rfl⟩
theorem fX1_27 : ab_FL RX1 27 1 5 false := ⟨_, _, _, kc1, by decide, rfl, lw_in1 (k := 211) rfl rfl⟩
theorem fX11_166 : ab_FL RX11 166 1 5 false := ⟨_, _, _, kc1, by decide, rfl, lw_in1 (k := 212) rfl rfl⟩
theorem fX1_32 : ab_FL RX1 32 1 6 true := ⟨_, _, _, kc1, by decide, rfl, lw_in1 (k := 213) rfl rfl⟩
theorem fX11_163 : ab_FL RX11 163 1 6 true := ⟨_, _, _, kc1, by decide, rfl, lw_in1 (k := 214) rfl rfl⟩
theorem lX11_47 : Cond.methodLink RX11 47 YX5_init.1 ∈ lw_all := lw_in1 (k := 232) rfl rfl
theorem lX5_3 : Cond.methodLink RX5 3 objectInit ∈ lw_all := lw_in1 (k := 235) rfl rfl
theorem fX5_30 : ab_FL RX5 30 5 0 true := ⟨_, _, _, kc5, by decide, rfl, lw_in1 (k := 237) rfl rfl⟩
theorem fX5_9 : ab_FL RX5 9 5 1 true := ⟨_, _, _, kc5, by decide, rfl, lw_in1 (k := 238) rfl rfl⟩
theorem fX5_17 : ab_FL RX5 17 5 2 true := ⟨_, _, _, kc5, by decide, rfl, lw_in1 (k := 239) rfl rfl⟩
theorem fX5_20 : ab_FL RX5 20 5 3 true := ⟨_, _, _, kc5, by decide, rfl, lw_in2 (k := 0) rfl rfl⟩
theorem fX11_224 : ab_FL RX11 224 5 3 true := ⟨_, _, _, kc5, by decide, rfl, lw_in2 (k := 1) rfl rfl⟩
theorem fX5_23 : ab_FL RX5 23 5 4 false := ⟨_, _, _, kc5, by decide, rfl, lw_in2 (k := 2) rfl rfl⟩
theorem fX11_221 : ab_FL RX11 221 5 4 false := ⟨_, _, _, kc5, by decide, rfl, lw_in2 (k := 3) rfl rfl⟩
theorem fX5_27 : ab_FL RX5 27 5 5 false := ⟨_, _, _, kc5, by decide, rfl, lw_in2 (k := 4) rfl rfl⟩
theorem lX11_54 : Cond.methodLink RX11 54 YX3_init.1 ∈ lw_all := lw_in2 (k := 20) rfl rfl
theorem lX3_3 : Cond.methodLink RX3 3 objectInit ∈ lw_all := lw_in2 (k := 23) rfl rfl
theorem fX3_22 : ab_FL RX3 22 3 0 true := ⟨_, _, _, kc3, by decide, rfl, lw_in2 (k := 24) rfl rfl⟩
theorem fX3_9 : ab_FL RX3 9 3 1 true := ⟨_, _, _, kc3, by decide, rfl, lw_in2 (k := 25) rfl rfl⟩
theorem fX3_15 : ab_FL RX3 15 3 2 false := ⟨_, _, _, kc3, by decide, rfl, lw_in2 (k := 26) rfl rfl⟩
theorem fX3_19 : ab_FL RX3 19 3 3 true := ⟨_, _, _, kc3, by decide, rfl, lw_in2 (k := 27) rfl rfl⟩
theorem lX11_61 : Cond.methodLink RX11 61 YX2_init.1 ∈ lw_all := lw_in2 (k := 39) rfl rfl
theorem lX2_3 : Cond.methodLink RX2 3 objectInit ∈ lw_all := lw_in2 (k := 42) rfl rfl
theorem fX2_22 : ab_FL RX2 22 2 0 true := ⟨_, _, _, kc2, by decide, rfl, lw_in2 (k := 43) rfl rfl⟩
theorem fX2_9 : ab_FL RX2 9 2 1 true := ⟨_, _, _, kc2, by decide, rfl, lw_in2 (k := 44) rfl rfl⟩
theorem fX2_15 : ab_FL RX2 15 2 2 true := ⟨_, _, _, kc2, by decide, rfl, lw_in2 (k := 45) rfl rfl⟩
theorem fX0_41 : ab_FL RX0 41 2 2 true := ⟨_, _, _, kc2, by decide, rfl, lw_in2 (k := 46) rfl rfl⟩
theorem fX8_41 : ab_FL RX8 41 2 2 true := ⟨_, _, _, kc2, by decide, rfl, lw_in2 (k := 47) rfl rfl⟩
theorem fX2_18 : ab_FL RX2 18 2 3 false := ⟨_, _, _, kc2, by decide, rfl, lw_in2 (k := 48) rfl rfl⟩
theorem fX8_23 : ab_FL RX8 23 2 3 false := ⟨_, _, _, kc2, by decide, rfl, lw_in2 (k := 49) rfl rfl⟩
theorem fX0_36 : ab_FL RX0 36 2 3 false := ⟨_, _, _, kc2, by decide, rfl, lw_in2 (k := 50) rfl rfl⟩
theorem fX11_251 : ab_FL RX11 251 2 3 false := ⟨_, _, _, kc2, by decide, rfl, lw_in2 (k := 51) rfl rfl⟩
theorem lX11_68 : Cond.methodLink RX11 68 YX8_init.1 ∈ lw_all := lw_in2 (k := 63) rfl rfl
theorem lX8_3 : Cond.methodLink RX8 3 objectInit ∈ lw_all := lw_in2 (k := 66) rfl rfl
theorem fX8_19 : ab_FL RX8 19 8 0 true := ⟨_, _, _, kc8, by decide, rfl, lw_in2 (k := 67) rfl rfl⟩
theorem fX8_9 : ab_FL RX8 9 8 1 true := ⟨_, _, _, kc8, by decide, rfl, lw_in2 (k := 68) rfl rfl⟩
theorem fX11_257 : ab_FL RX11 257 8 1 true := ⟨_, _, _, kc8, by decide, rfl, lw_in2 (k := 69) rfl rfl⟩
theorem fX8_15 : ab_FL RX8 15 8 2 false := ⟨_, _, _, kc8, by decide, rfl, lw_in2 (k := 70) rfl rfl⟩
theorem fX11_260 : ab_FL RX11 260 8 2 false := ⟨_, _, _, kc8, by decide, rfl, lw_in2 (k := 71) rfl rfl⟩
theorem lX11_77 : Cond.methodLink RX11 77 YX0_init.1 ∈ lw_all := lw_in2 (k := 81) rfl rfl
theorem lX0_3 : Cond.methodLink RX0 3 objectInit ∈ lw_all := lw_in2 (k := 84) rfl rfl
theorem fX0_22 : ab_FL RX0 22 0 0 true := ⟨_, _, _, kc0, by decide, rfl, lw_in2 (k := 85) rfl rfl⟩
theorem fX0_9 : ab_FL RX0 9 0 1 true := ⟨_, _, _, kc0, by decide, rfl, lw_in2 (k := 86) rfl rfl⟩
theorem fX0_15 : ab_FL RX0 15 0 2 true := ⟨_, _, _, kc0, by decide, rfl, lw_in2 (k := 87) rfl rfl⟩
theorem fX11_266 : ab_FL RX11 266 0 2 true := ⟨_, _, _, kc0, by decide, rfl, lw_in2 (k := 88) rfl rfl⟩
theorem fX0_18 : ab_FL RX0 18 0 3 false := ⟨_, _, _, kc0, by decide, rfl, lw_in2 (k := 89) rfl rfl⟩
theorem fX11_265 : ab_FL RX11 265 0 3 false := ⟨_, _, _, kc0, by decide, rfl, lw_in2 (k := 90) rfl rfl⟩
theorem fX11_10 : ab_FL RX11 10 11 0 true := ⟨_, _, _, kc11, by decide, rfl, lw_in2 (k := 100) rfl rfl⟩
theorem fX11_19 : ab_FL RX11 19 11 1 true := ⟨_, _, _, kc11, by decide, rfl, lw_in2 (k := 101) rfl rfl⟩
theorem fX11_23 : ab_FL RX11 23 11 2 true := ⟨_, _, _, kc11, by decide, rfl, lw_in2 (k := 102) rfl rfl⟩
theorem fX11_29 : ab_FL RX11 29 11 3 true := ⟨_, _, _, kc11, by decide, rfl, lw_in2 (k := 103) rfl rfl⟩
theorem fX11_38 : ab_FL RX11 38 11 4 true := ⟨_, _, _, kc11, by decide, rfl, lw_in2 (k := 104) rfl rfl⟩
theorem fX11_42 : ab_FL RX11 42 11 5 true := ⟨_, _, _, kc11, by decide, rfl, lw_in2 (k := 105) rfl rfl⟩
theorem fX11_48 : ab_FL RX11 48 11 6 true := ⟨_, _, _, kc11, by decide, rfl, lw_in2 (k := 106) rfl rfl⟩
theorem fX11_55 : ab_FL RX11 55 11 7 true := ⟨_, _, _, kc11, by decide, rfl, lw_in2 (k := 107) rfl rfl⟩
theorem fX11_62 : ab_FL RX11 62 11 8 true := ⟨_, _, _, kc11, by decide, rfl, lw_in2 (k := 108) rfl rfl⟩
theorem fX11_71 : ab_FL RX11 71 11 9 true := ⟨_, _, _, kc11, by decide, rfl, lw_in2 (k := 109) rfl rfl⟩
theorem fX11_78 : ab_FL RX11 78 11 10 true := ⟨_, _, _, kc11, by decide, rfl, lw_in2 (k := 110) rfl rfl⟩
theorem lL_13 : Cond.methodLink RL 13 YX11_worth.1 ∈ lw_all := lw_in2 (k := 134) rfl rfl
theorem lX11_82 : Cond.methodLink RX11 82 YX11_isSort.1 ∈ lw_all := lw_in2 (k := 138) rfl rfl
theorem lX11_89 : Cond.methodLink RX11 89 YX11_within.1 ∈ lw_all := lw_in2 (k := 141) rfl rfl
theorem lX11_86 : Cond.methodLink RX11 86 YX11_isKind.1 ∈ lw_all := lw_in2 (k := 144) rfl rfl
theorem lX11_97 : Cond.methodLink RX11 97 YX5_forget.1 ∈ lw_all := lw_in2 (k := 147) rfl rfl
theorem lL_18 : Cond.methodLink RL 18 YX11_need.1 ∈ lw_all := lw_in2 (k := 151) rfl rfl
theorem lL_23 : Cond.methodLink RL 23 YX11_coming.1 ∈ lw_all := lw_in2 (k := 155) rfl rfl
theorem lX11_108 : Cond.methodLink RX11 108 YX6_isFull.1 ∈ lw_all := lw_in2 (k := 159) rfl rfl
theorem lX11_114 : Cond.methodLink RX11 114 YX6_add.1 ∈ lw_all := lw_in2 (k := 163) rfl rfl
theorem lX6_19 : Cond.methodLink RX6 19 YX6_isFull.1 ∈ lw_all := lw_in2 (k := 167) rfl rfl
theorem lL_28 : Cond.methodLink RL 28 YX11_joining.1 ∈ lw_all := lw_in2 (k := 168) rfl rfl
theorem lL_32 : Cond.methodLink RL 32 YX11_join.1 ∈ lw_all := lw_in2 (k := 172) rfl rfl
theorem lX11_121 : Cond.methodLink RX11 121 YX1_isFull.1 ∈ lw_all := lw_in2 (k := 176) rfl rfl
theorem lX11_122 : Cond.methodLink RX11 122 YX1_add.1 ∈ lw_all := lw_in2 (k := 180) rfl rfl
theorem lX1_50 : Cond.methodLink RX1 50 YX1_isFull.1 ∈ lw_all := lw_in2 (k := 184) rfl rfl
theorem lX1_54 : Cond.methodLink RX1 54 YX4_begin.1 ∈ lw_all := lw_in2 (k := 185) rfl rfl
theorem lL_36 : Cond.methodLink RL 36 YX11_run.1 ∈ lw_all := lw_in2 (k := 189) rfl rfl
theorem lX11_132 : Cond.methodLink RX11 132 YX1_pass.1 ∈ lw_all := lw_in2 (k := 193) rfl rfl
theorem lX1_64 : Cond.methodLink RX1 64 YX6_inWeek.1 ∈ lw_all := lw_in2 (k := 197) rfl rfl
theorem lX1_70 : Cond.methodLink RX1 70 YX1_offer.1 ∈ lw_all := lw_in2 (k := 201) rfl rfl
theorem lX1_109 : Cond.methodLink RX1 109 YX1_stand.1 ∈ lw_all := lw_in2 (k := 205) rfl rfl
theorem lX1_89 : Cond.methodLink RX1 89 YX1_isAhead.1 ∈ lw_all := lw_in2 (k := 209) rfl rfl
theorem lX1_118 : Cond.methodLink RX1 118 YX7_takes.1 ∈ lw_all := lw_in2 (k := 213) rfl rfl
theorem lX1_122 : Cond.methodLink RX1 122 YX1_sayNo.1 ∈ lw_all := lw_in2 (k := 217) rfl rfl
theorem lX1_126 : Cond.methodLink RX1 126 YX1_house.1 ∈ lw_all := lw_in2 (k := 221) rfl rfl
theorem lX1_77 : Cond.methodLink RX1 77 YX1_arrive.1 ∈ lw_all := lw_in2 (k := 225) rfl rfl
theorem lX1_137 : Cond.methodLink RX1 137 YX1_add.1 ∈ lw_all := lw_in2 (k := 229) rfl rfl
theorem lX1_86 : Cond.methodLink RX1 86 YX1_growOlder.1 ∈ lw_all := lw_in2 (k := 230) rfl rfl
theorem lX1_140 : Cond.methodLink RX1 140 YJ9_min_7cf53.1 ∈ lw_all := lw_in2 (k := 234) rfl rfl
theorem lL_40 : Cond.methodLink RL 40 YX11_person.1 ∈ lw_all := lw_in2 (k := 237) rfl rfl
theorem lX11_139 : Cond.methodLink RX11 139 YX1_stand.1 ∈ lw_all := lw_in3 (k := 1) rfl rfl
theorem lL_44 : Cond.methodLink RL 44 YX11_of.1 ∈ lw_all := lw_in3 (k := 2) rfl rfl
theorem lL_48 : Cond.methodLink RL 48 YX11_empty.1 ∈ lw_all := lw_in3 (k := 6) rfl rfl
theorem lL_55 : Cond.methodLink RL 55 YX11_write.1 ∈ lw_all := lw_in3 (k := 10) rfl rfl
theorem nX11_172 : Cond.constantLong RX11 172 (Int64.ofInt (255)) ∈ lw_all := lw_in3 (k := 14) rfl rfl
theorem lX11_174 : Cond.methodLink RX11 174 YX9_add.1 ∈ lw_all := lw_in3 (k := 15) rfl rfl
theorem lL_60 : Cond.methodLink RL 60 YX11_erase.1 ∈ lw_all := lw_in3 (k := 19) rfl rfl
theorem lL_64 : Cond.methodLink RL 64 YX11_fault.1 ∈ lw_all := lw_in3 (k := 23) rfl rfl
theorem lX11_177 : Cond.methodLink RX11 177 YX9_readInto.1 ∈ lw_all := lw_in3 (k := 27) rfl rfl
theorem lX9_22 : Cond.methodLink RX9 22 YX7_setAsAtFirst.1 ∈ lw_all := lw_in3 (k := 31) rfl rfl
theorem lX9_30 : Cond.methodLink RX9 30 YX9_goOn.1 ∈ lw_all := lw_in3 (k := 32) rfl rfl
theorem lX9_108 : Cond.methodLink RX9 108 YX9_lookOf.1 ∈ lw_all := lw_in3 (k := 36) rfl rfl
theorem lX9_33 : Cond.methodLink RX9 33 YX9_readLine.1 ∈ lw_all := lw_in3 (k := 39) rfl rfl
theorem lX9_42 : Cond.methodLink RX9 42 YX9_pass.1 ∈ lw_all := lw_in3 (k := 44) rfl rfl
theorem lX9_99 : Cond.methodLink RX9 99 YJ0_length_8abf5.1 ∈ lw_all := lw_in3 (k := 48) rfl rfl
theorem lJ0_335 : Cond.methodLink RJ0 335 YJ0_coder_7d493.1 ∈ lw_all := lw_in3 (k := 52) rfl rfl
theorem gJ0_38 : Cond.fieldLink RJ0 38 "java/lang/String" "COMPACT_STRINGS" "Z" ∈ lw_all := lw_in3 (k := 56) rfl rfl
theorem lX9_104 : Cond.methodLink RX9 104 YJ0_charAt_5068e.1 ∈ lw_all := lw_in3 (k := 58) rfl rfl
theorem lJ0_492 : Cond.methodLink RJ0 492 YJ0_isLatin1_aae02.1 ∈ lw_all := lw_in3 (k := 62) rfl rfl
theorem lJ0_495 : Cond.methodLink RJ0 495 YJ1_charAt_3b067.1 ∈ lw_all := lw_in3 (k := 66) rfl rfl
theorem lJ1_9 : Cond.methodLink RJ1 9 YJ0_checkIndex_df160.1 ∈ lw_all := lw_in3 (k := 69) rfl rfl
theorem gJ0_1053 : Cond.fieldLink RJ0 1053 "jdk/internal/util/Preconditions" "SIOOBE_FORMATTER" "Ljava/util/function/BiFunction;" ∈ lw_all := lw_in3 (k := 72) rfl rfl
theorem lJ0_1059 : Cond.methodLink RJ0 1059 YJ3_checkIndex_8e157.1 ∈ lw_all := lw_in3 (k := 74) rfl rfl
theorem lJ0_498 : Cond.methodLink RJ0 498 YJ2_charAt_3b067.1 ∈ lw_all := lw_in3 (k := 77) rfl rfl
theorem lJ2_67 : Cond.methodLink RJ2 67 YJ2_checkIndex_2214a.1 ∈ lw_all := lw_in3 (k := 80) rfl rfl
theorem lJ2_48 : Cond.methodLink RJ2 48 YJ2_length_9d52b.1 ∈ lw_all := lw_in3 (k := 83) rfl rfl
theorem lJ2_414 : Cond.methodLink RJ2 414 YJ0_checkIndex_df160.1 ∈ lw_all := lw_in3 (k := 86) rfl rfl
theorem lJ2_71 : Cond.methodLink RJ2 71 YJ2_getChar_3b067.1 ∈ lw_all := lw_in3 (k := 87) rfl rfl
theorem gJ2_44 : Cond.fieldLink RJ2 44 "java/lang/StringUTF16" "$assertionsDisabled" "Z" ∈ lw_all := lw_in3 (k := 90) rfl rfl
theorem gJ2_59 : Cond.fieldLink RJ2 59 "java/lang/StringUTF16" "HI_BYTE_SHIFT" "I" ∈ lw_all := lw_in3 (k := 92) rfl rfl
theorem gJ2_63 : Cond.fieldLink RJ2 63 "java/lang/StringUTF16" "LO_BYTE_SHIFT" "I" ∈ lw_all := lw_in3 (k := 94) rfl rfl
theorem lX9_54 : Cond.methodLink RX9 54 YX9_choose.1 ∈ lw_all := lw_in3 (k := 99) rfl rfl
theorem lX9_62 : Cond.methodLink RX9 62 YX9_number.1 ∈ lw_all := lw_in3 (k := 104) rfl rfl
theorem lX9_83 : Cond.methodLink RX9 83 YX9_readWay.1 ∈ lw_all := lw_in3 (k := 114) rfl rfl
theorem lX9_92 : Cond.methodLink RX9 92 YX7_setWay.1 ∈ lw_all := lw_in3 (k := 121) rfl rfl
theorem lL_68 : Cond.methodLink RL 68 YX11_rules.1 ∈ lw_all := lw_in3 (k := 124) rfl rfl
theorem lX11_181 : Cond.methodLink RX11 181 YX7_copy.1 ∈ lw_all := lw_in3 (k := 128) rfl rfl
theorem lL_72 : Cond.methodLink RL 72 YX11_rule.1 ∈ lw_all := lw_in3 (k := 132) rfl rfl
theorem lL_76 : Cond.methodLink RL 76 YX11_way.1 ∈ lw_all := lw_in3 (k := 136) rfl rfl
theorem lL_80 : Cond.methodLink RL 80 YX11_would.1 ∈ lw_all := lw_in3 (k := 140) rfl rfl
theorem lX11_204 : Cond.methodLink RX11 204 YX11_tryOut.1 ∈ lw_all := lw_in3 (k := 144) rfl rfl
theorem lX11_279 : Cond.methodLink RX11 279 YX1_beginLike.1 ∈ lw_all := lw_in3 (k := 148) rfl rfl
theorem lX1_40 : Cond.methodLink RX1 40 YX4_copy.1 ∈ lw_all := lw_in3 (k := 152) rfl rfl
theorem lX1_44 : Cond.methodLink RX1 44 YJ7_fill_53178.1 ∈ lw_all := lw_in3 (k := 156) rfl rfl
theorem lX11_207 : Cond.methodLink RX11 207 YX1_total.1 ∈ lw_all := lw_in3 (k := 157) rfl rfl
theorem lL_84 : Cond.methodLink RL 84 YX11_gain.1 ∈ lw_all := lw_in3 (k := 161) rfl rfl
theorem nX11_210 : Cond.constant RX11 210 (Int32.ofInt (-2147483648)) ∈ lw_all := lw_in3 (k := 165) rfl rfl
theorem lX11_211 : Cond.methodLink RX11 211 YX1_gained.1 ∈ lw_all := lw_in3 (k := 166) rfl rfl
theorem lL_88 : Cond.methodLink RL 88 YX11_best.1 ∈ lw_all := lw_in3 (k := 170) rfl rfl
theorem lL_92 : Cond.methodLink RL 92 YX11_rest.1 ∈ lw_all := lw_in3 (k := 174) rfl rfl
theorem lX11_214 : Cond.methodLink RX11 214 YX5_areKnownFor.1 ∈ lw_all := lw_in3 (k := 178) rfl rfl
theorem lX11_217 : Cond.methodLink RX11 217 YX5_find.1 ∈ lw_all := lw_in3 (k := 182) rfl rfl
theorem lX5_34 : Cond.methodLink RX5 34 YX5_findLikeBars.1 ∈ lw_all := lw_in3 (k := 186) rfl rfl
theorem lX5_62 : Cond.methodLink RX5 62 YX5_kindsTaken.1 ∈ lw_all := lw_in3 (k := 190) rfl rfl
theorem lX5_37 : Cond.methodLink RX5 37 YX5_likeSetting.1 ∈ lw_all := lw_in3 (k := 194) rfl rfl
theorem lX5_71 : Cond.methodLink RX5 71 YX5_barOf.1 ∈ lw_all := lw_in3 (k := 198) rfl rfl
theorem lX5_41 : Cond.methodLink RX5 41 YX5_setWays.1 ∈ lw_all := lw_in3 (k := 203) rfl rfl
theorem lX5_77 : Cond.methodLink RX5 77 YX7_setWay.1 ∈ lw_all := lw_in3 (k := 207) rfl rfl
theorem lX5_45 : Cond.methodLink RX5 45 YX1_beginLike.1 ∈ lw_all := lw_in3 (k := 208) rfl rfl
theorem lX5_51 : Cond.methodLink RX5 51 YX1_pass.1 ∈ lw_all := lw_in3 (k := 209) rfl rfl
theorem lX5_55 : Cond.methodLink RX5 55 YX1_gained.1 ∈ lw_all := lw_in3 (k := 210) rfl rfl
theorem lX5_58 : Cond.methodLink RX5 58 YX5_isAtRest.1 ∈ lw_all := lw_in3 (k := 211) rfl rfl
theorem lL_96 : Cond.methodLink RL 96 YX11_lot.1 ∈ lw_all := lw_in3 (k := 215) rfl rfl
theorem lX11_227 : Cond.methodLink RX11 227 YJ9_min_7cf53.1 ∈ lw_all := lw_in3 (k := 219) rfl rfl
theorem lX11_233 : Cond.methodLink RX11 233 YX3_gather.1 ∈ lw_all := lw_in3 (k := 220) rfl rfl
theorem lX3_31 : Cond.methodLink RX3 31 YJ9_min_7cf53.1 ∈ lw_all := lw_in3 (k := 224) rfl rfl
theorem lX11_237 : Cond.methodLink RX11 237 YX3_lay.1 ∈ lw_all := lw_in3 (k := 225) rfl rfl
theorem lX3_46 : Cond.methodLink RX3 46 YJ7_fill_53178.1 ∈ lw_all := lw_in3 (k := 229) rfl rfl
theorem lX11_241 : Cond.methodLink RX11 241 YX3_rowsFor.1 ∈ lw_all := lw_in3 (k := 230) rfl rfl
theorem lX3_52 : Cond.methodLink RX3 52 YX3_rowsFrom.1 ∈ lw_all := lw_in3 (k := 234) rfl rfl
theorem lX3_56 : Cond.methodLink RX3 56 YX3_kindTaken.1 ∈ lw_all := lw_in3 (k := 238) rfl rfl
theorem gX11_244 : Cond.fieldLink RX11 244 "ThreeOffers" "FACTORIALS" "[I" ∈ lw_all := lw_in4 (k := 4) rfl rfl
theorem lX11_247 : Cond.methodLink RX11 247 YX11_lowest.1 ∈ lw_all := lw_in4 (k := 5) rfl rfl
theorem lX11_283 : Cond.methodLink RX11 283 YX11_commonDivisor.1 ∈ lw_all := lw_in4 (k := 8) rfl rfl
theorem lL_101 : Cond.methodLink RL 101 YX11_holder.1 ∈ lw_all := lw_in4 (k := 11) rfl rfl
theorem lX11_252 : Cond.methodLink RX11 252 YX2_add.1 ∈ lw_all := lw_in4 (k := 15) rfl rfl
theorem lL_105 : Cond.methodLink RL 105 YX11_swaps.1 ∈ lw_all := lw_in4 (k := 19) rfl rfl
theorem lX11_254 : Cond.methodLink RX11 254 YX8_settle.1 ∈ lw_all := lw_in4 (k := 23) rfl rfl
theorem lX8_28 : Cond.methodLink RX8 28 YX8_closeRing.1 ∈ lw_all := lw_in4 (k := 27) rfl rfl
theorem lX8_32 : Cond.methodLink RX8 32 YJ6_numberOfTrailingZeros_0f7a4.1 ∈ lw_all := lw_in4 (k := 31) rfl rfl
theorem nJ6_264 : Cond.constant RJ6 264 (Int32.ofInt (65536)) ∈ lw_all := lw_in4 (k := 34) rfl rfl
theorem lX8_37 : Cond.methodLink RX8 37 YX8_pointedTo.1 ∈ lw_all := lw_in4 (k := 35) rfl rfl
theorem lX8_44 : Cond.methodLink RX8 44 YX2_likesMore.1 ∈ lw_all := lw_in4 (k := 39) rfl rfl
theorem lL_109 : Cond.methodLink RL 109 YX11_rings.1 ∈ lw_all := lw_in4 (k := 43) rfl rfl
theorem lL_113 : Cond.methodLink RL 113 YX11_chain.1 ∈ lw_all := lw_in4 (k := 47) rfl rfl
theorem lX11_263 : Cond.methodLink RX11 263 YX0_find.1 ∈ lw_all := lw_in4 (k := 51) rfl rfl
theorem lX0_26 : Cond.methodLink RX0 26 YX0_goOn.1 ∈ lw_all := lw_in4 (k := 55) rfl rfl
theorem lX0_30 : Cond.methodLink RX0 30 arraycopyName ∈ lw_all := lw_in4 (k := 59) rfl rfl
theorem lX0_44 : Cond.methodLink RX0 44 YX2_likesMore.1 ∈ lw_all := lw_in4 (k := 62) rfl rfl
theorem lL_117 : Cond.methodLink RL 117 YX11_mean.1 ∈ lw_all := lw_in4 (k := 63) rfl rfl
theorem nX11_269 : Cond.constantLong RX11 269 (Int64.ofInt (-3)) ∈ lw_all := lw_in4 (k := 67) rfl rfl
theorem lX11_271 : Cond.methodLink RX11 271 YX11_power.1 ∈ lw_all := lw_in4 (k := 68) rfl rfl
theorem lL_122 : Cond.methodLink RL 122 YX11_count.1 ∈ lw_all := lw_in4 (k := 71) rfl rfl
theorem lL_12 : Cond.methodLink RL 12 YX12_init.1 ∈ lw_all := lw_in4 (k := 77) rfl rfl
theorem lX12_1 : Cond.methodLink RX12 1 objectInit ∈ lw_all := lw_in4 (k := 80) rfl rfl
theorem lX12_71 : Cond.methodLink RX12 71 YX12_firstRules.1 ∈ lw_all := lw_in4 (k := 81) rfl rfl
theorem fX12_7 : ab_FL RX12 7 12 0 true := ⟨_, _, _, kc12, by decide, rfl, lw_in4 (k := 84) rfl rfl⟩
theorem fX12_13 : ab_FL RX12 13 12 1 true := ⟨_, _, _, kc12, by decide, rfl, lw_in4 (k := 85) rfl rfl⟩
theorem fX12_83 : ab_FL RX12 83 12 2 false := ⟨_, _, _, kc12, by decide, rfl, lw_in4 (k := 86) rfl rfl⟩
theorem fX12_16 : ab_FL RX12 16 12 3 true := ⟨_, _, _, kc12, by decide, rfl, lw_in4 (k := 87) rfl rfl⟩
theorem fX12_87 : ab_FL RX12 87 12 4 false := ⟨_, _, _, kc12, by decide, rfl, lw_in4 (k := 88) rfl rfl⟩
theorem fX12_19 : ab_FL RX12 19 12 5 true := ⟨_, _, _, kc12, by decide, rfl, lw_in4 (k := 89) rfl rfl⟩
theorem fX12_22 : ab_FL RX12 22 12 6 true := ⟨_, _, _, kc12, by decide, rfl, lw_in4 (k := 90) rfl rfl⟩
theorem fX12_25 : ab_FL RX12 25 12 7 true := ⟨_, _, _, kc12, by decide, rfl, lw_in4 (k := 91) rfl rfl⟩
theorem fX12_28 : ab_FL RX12 28 12 8 true := ⟨_, _, _, kc12, by decide, rfl, lw_in4 (k := 92) rfl rfl⟩
theorem fX12_31 : ab_FL RX12 31 12 9 true := ⟨_, _, _, kc12, by decide, rfl, lw_in4 (k := 93) rfl rfl⟩
theorem fX12_110 : ab_FL RX12 110 12 10 false := ⟨_, _, _, kc12, by decide, rfl, lw_in4 (k := 94) rfl rfl⟩
theorem fX12_35 : ab_FL RX12 35 12 11 true := ⟨_, _, _, kc12, by decide, rfl, lw_in4 (k := 95) rfl rfl⟩
theorem fX12_115 : ab_FL RX12 115 12 12 false := ⟨_, _, _, kc12, by decide, rfl, lw_in4 (k := 96) rfl rfl⟩
theorem fX12_118 : ab_FL RX12 118 12 13 false := ⟨_, _, _, kc12, by decide, rfl, lw_in4 (k := 97) rfl rfl⟩
theorem fX12_129 : ab_FL RX12 129 12 14 false := ⟨_, _, _, kc12, by decide, rfl, lw_in4 (k := 98) rfl rfl⟩
theorem fX12_121 : ab_FL RX12 121 12 15 false := ⟨_, _, _, kc12, by decide, rfl, lw_in4 (k := 99) rfl rfl⟩
theorem fX12_124 : ab_FL RX12 124 12 16 false := ⟨_, _, _, kc12, by decide, rfl, lw_in4 (k := 100) rfl rfl⟩
theorem fX12_143 : ab_FL RX12 143 12 17 false := ⟨_, _, _, kc12, by decide, rfl, lw_in4 (k := 101) rfl rfl⟩
theorem fX12_191 : ab_FL RX12 191 12 18 false := ⟨_, _, _, kc12, by decide, rfl, lw_in4 (k := 102) rfl rfl⟩
theorem fX12_38 : ab_FL RX12 38 12 19 true := ⟨_, _, _, kc12, by decide, rfl, lw_in4 (k := 103) rfl rfl⟩
theorem fX12_41 : ab_FL RX12 41 12 20 true := ⟨_, _, _, kc12, by decide, rfl, lw_in4 (k := 104) rfl rfl⟩
theorem fX12_44 : ab_FL RX12 44 12 21 true := ⟨_, _, _, kc12, by decide, rfl, lw_in4 (k := 105) rfl rfl⟩
theorem fX12_47 : ab_FL RX12 47 12 22 true := ⟨_, _, _, kc12, by decide, rfl, lw_in4 (k := 106) rfl rfl⟩
theorem fX12_50 : ab_FL RX12 50 12 23 true := ⟨_, _, _, kc12, by decide, rfl, lw_in4 (k := 107) rfl rfl⟩
theorem fX12_53 : ab_FL RX12 53 12 24 true := ⟨_, _, _, kc12, by decide, rfl, lw_in4 (k := 108) rfl rfl⟩
theorem fX12_238 : ab_FL RX12 238 12 25 false := ⟨_, _, _, kc12, by decide, rfl, lw_in4 (k := 109) rfl rfl⟩
theorem fX12_56 : ab_FL RX12 56 12 26 true := ⟨_, _, _, kc12, by decide, rfl, lw_in4 (k := 110) rfl rfl⟩
theorem fX12_59 : ab_FL RX12 59 12 27 true := ⟨_, _, _, kc12, by decide, rfl, lw_in4 (k := 111) rfl rfl⟩
theorem fX12_62 : ab_FL RX12 62 12 28 true := ⟨_, _, _, kc12, by decide, rfl, lw_in4 (k := 112) rfl rfl⟩
theorem fX12_65 : ab_FL RX12 65 12 29 true := ⟨_, _, _, kc12, by decide, rfl, lw_in4 (k := 113) rfl rfl⟩
theorem fX12_241 : ab_FL RX12 241 12 30 false := ⟨_, _, _, kc12, by decide, rfl, lw_in4 (k := 114) rfl rfl⟩
theorem fX12_68 : ab_FL RX12 68 12 31 true := ⟨_, _, _, kc12, by decide, rfl, lw_in4 (k := 115) rfl rfl⟩
theorem lL_17 : Cond.methodLink RL 17 YX12_worth.1 ∈ lw_all := lw_in4 (k := 182) rfl rfl
theorem lX12_79 : Cond.methodLink RX12 79 YX12_isFour.1 ∈ lw_all := lw_in4 (k := 186) rfl rfl
theorem lX12_75 : Cond.methodLink RX12 75 YX12_in.1 ∈ lw_all := lw_in4 (k := 189) rfl rfl
theorem lL_22 : Cond.methodLink RL 22 YX12_need.1 ∈ lw_all := lw_in4 (k := 192) rfl rfl
theorem lL_27 : Cond.methodLink RL 27 YX12_coming.1 ∈ lw_all := lw_in4 (k := 196) rfl rfl
theorem lL_31 : Cond.methodLink RL 31 YX12_joining.1 ∈ lw_all := lw_in4 (k := 200) rfl rfl
theorem lL_35 : Cond.methodLink RL 35 YX12_join.1 ∈ lw_all := lw_in4 (k := 204) rfl rfl
theorem lX12_90 : Cond.methodLink RX12 90 YX12_add.1 ∈ lw_all := lw_in4 (k := 208) rfl rfl
theorem lL_39 : Cond.methodLink RL 39 YX12_run.1 ∈ lw_all := lw_in4 (k := 212) rfl rfl
theorem lX12_107 : Cond.methodLink RX12 107 YX12_goWeek.1 ∈ lw_all := lw_in4 (k := 216) rfl rfl
theorem lX12_104 : Cond.methodLink RX12 104 YX12_offer.1 ∈ lw_all := lw_in4 (k := 220) rfl rfl
theorem lX12_98 : Cond.methodLink RX12 98 YX12_findOrder.1 ∈ lw_all := lw_in4 (k := 224) rfl rfl
theorem lX12_94 : Cond.methodLink RX12 94 YX12_isAhead.1 ∈ lw_all := lw_in4 (k := 228) rfl rfl
theorem lX12_101 : Cond.methodLink RX12 101 YX12_doesTake.1 ∈ lw_all := lw_in4 (k := 232) rfl rfl
theorem lL_43 : Cond.methodLink RL 43 YX12_person.1 ∈ lw_all := lw_in4 (k := 236) rfl rfl
theorem lL_47 : Cond.methodLink RL 47 YX12_of.1 ∈ lw_all := lw_in5 (k := 0) rfl rfl
theorem lL_52 : Cond.methodLink RL 52 YX12_empty.1 ∈ lw_all := lw_in5 (k := 4) rfl rfl
theorem lL_59 : Cond.methodLink RL 59 YX12_write.1 ∈ lw_all := lw_in5 (k := 8) rfl rfl
theorem nX12_113 : Cond.constantLong RX12 113 (Int64.ofInt (255)) ∈ lw_all := lw_in5 (k := 12) rfl rfl
theorem lL_63 : Cond.methodLink RL 63 YX12_erase.1 ∈ lw_all := lw_in5 (k := 13) rfl rfl
theorem lL_67 : Cond.methodLink RL 67 YX12_fault.1 ∈ lw_all := lw_in5 (k := 17) rfl rfl
theorem lX12_197 : Cond.methodLink RX12 197 YX12_isRead.1 ∈ lw_all := lw_in5 (k := 21) rfl rfl
theorem lX12_194 : Cond.methodLink RX12 194 YX12_isLine.1 ∈ lw_all := lw_in5 (k := 25) rfl rfl
theorem lX12_146 : Cond.methodLink RX12 146 YX12_nextToken.1 ∈ lw_all := lw_in5 (k := 29) rfl rfl
theorem nX12_127 : Cond.constantLong RX12 127 (Int64.ofInt (-2)) ∈ lw_all := lw_in5 (k := 33) rfl rfl
theorem nX12_133 : Cond.constantLong RX12 133 (Int64.ofInt (27)) ∈ lw_all := lw_in5 (k := 34) rfl rfl
theorem nX12_135 : Cond.constantLong RX12 135 (Int64.ofInt (96)) ∈ lw_all := lw_in5 (k := 35) rfl rfl
theorem nX12_137 : Cond.constantLong RX12 137 (Int64.ofInt (-4)) ∈ lw_all := lw_in5 (k := 36) rfl rfl
theorem nX12_139 : Cond.constantLong RX12 139 (Int64.ofInt (-1)) ∈ lw_all := lw_in5 (k := 37) rfl rfl
theorem nX12_141 : Cond.constantLong RX12 141 (Int64.ofInt (-3)) ∈ lw_all := lw_in5 (k := 38) rfl rfl
theorem nX12_166 : Cond.constantLong RX12 166 (Int64.ofInt (8328978)) ∈ lw_all := lw_in5 (k := 39) rfl rfl
theorem nX12_168 : Cond.constantLong RX12 168 (Int64.ofInt (400577)) ∈ lw_all := lw_in5 (k := 40) rfl rfl
theorem nX12_170 : Cond.constantLong RX12 170 (Int64.ofInt (279346)) ∈ lw_all := lw_in5 (k := 41) rfl rfl
theorem nX12_172 : Cond.constantLong RX12 172 (Int64.ofInt (237742039)) ∈ lw_all := lw_in5 (k := 42) rfl rfl
theorem lX12_159 : Cond.methodLink RX12 159 YX12_isOf.1 ∈ lw_all := lw_in5 (k := 43) rfl rfl
theorem lX12_149 : Cond.methodLink RX12 149 YX12_fails.1 ∈ lw_all := lw_in5 (k := 47) rfl rfl
theorem nX12_174 : Cond.constantLong RX12 174 (Int64.ofInt (286651)) ∈ lw_all := lw_in5 (k := 51) rfl rfl
theorem lX12_163 : Cond.methodLink RX12 163 YX12_isNumber.1 ∈ lw_all := lw_in5 (k := 52) rfl rfl
theorem nX12_176 : Cond.constantLong RX12 176 (Int64.ofInt (399641)) ∈ lw_all := lw_in5 (k := 56) rfl rfl
theorem nX12_178 : Cond.constantLong RX12 178 (Int64.ofInt (4027)) ∈ lw_all := lw_in5 (k := 57) rfl rfl
theorem nX12_180 : Cond.constantLong RX12 180 (Int64.ofInt (40187)) ∈ lw_all := lw_in5 (k := 58) rfl rfl
theorem nX12_182 : Cond.constantLong RX12 182 (Int64.ofInt (388609)) ∈ lw_all := lw_in5 (k := 59) rfl rfl
theorem nX12_184 : Cond.constantLong RX12 184 (Int64.ofInt (151331)) ∈ lw_all := lw_in5 (k := 60) rfl rfl
theorem nX12_186 : Cond.constantLong RX12 186 (Int64.ofInt (16819)) ∈ lw_all := lw_in5 (k := 61) rfl rfl
theorem lX12_188 : Cond.methodLink RX12 188 YX12_isWay.1 ∈ lw_all := lw_in5 (k := 62) rfl rfl
theorem nX12_153 : Cond.constantLong RX12 153 (Int64.ofInt (1132)) ∈ lw_all := lw_in5 (k := 66) rfl rfl
theorem nX12_155 : Cond.constantLong RX12 155 (Int64.ofInt (1503)) ∈ lw_all := lw_in5 (k := 67) rfl rfl
theorem nX12_157 : Cond.constantLong RX12 157 (Int64.ofInt (119163)) ∈ lw_all := lw_in5 (k := 68) rfl rfl
theorem lL_71 : Cond.methodLink RL 71 YX12_rules.1 ∈ lw_all := lw_in5 (k := 69) rfl rfl
theorem lL_75 : Cond.methodLink RL 75 YX12_rule.1 ∈ lw_all := lw_in5 (k := 73) rfl rfl
theorem lL_79 : Cond.methodLink RL 79 YX12_way.1 ∈ lw_all := lw_in5 (k := 77) rfl rfl
theorem lL_83 : Cond.methodLink RL 83 YX12_would.1 ∈ lw_all := lw_in5 (k := 81) rfl rfl
theorem lX12_200 : Cond.methodLink RX12 200 YX12_goOn.1 ∈ lw_all := lw_in5 (k := 85) rfl rfl
theorem lX12_203 : Cond.methodLink RX12 203 YX12_more.1 ∈ lw_all := lw_in5 (k := 89) rfl rfl
theorem lX12_207 : Cond.methodLink RX12 207 YX12_layBack.1 ∈ lw_all := lw_in5 (k := 93) rfl rfl
theorem lL_87 : Cond.methodLink RL 87 YX12_gain.1 ∈ lw_all := lw_in5 (k := 97) rfl rfl
theorem nX12_210 : Cond.constant RX12 210 (Int32.ofInt (-2147483648)) ∈ lw_all := lw_in5 (k := 101) rfl rfl
theorem lX12_211 : Cond.methodLink RX12 211 YX12_gainOf.1 ∈ lw_all := lw_in5 (k := 102) rfl rfl
theorem lL_91 : Cond.methodLink RL 91 YX12_best.1 ∈ lw_all := lw_in5 (k := 106) rfl rfl
theorem lX12_214 : Cond.methodLink RX12 214 YX12_keepRules.1 ∈ lw_all := lw_in5 (k := 110) rfl rfl
theorem lX12_217 : Cond.methodLink RX12 217 YX12_layBackRules.1 ∈ lw_all := lw_in5 (k := 114) rfl rfl
theorem lL_95 : Cond.methodLink RL 95 YX12_rest.1 ∈ lw_all := lw_in5 (k := 118) rfl rfl
theorem lX12_220 : Cond.methodLink RX12 220 YX12_findGains.1 ∈ lw_all := lw_in5 (k := 122) rfl rfl
theorem lX12_223 : Cond.methodLink RX12 223 YX12_isAtRest.1 ∈ lw_all := lw_in5 (k := 126) rfl rfl
theorem lL_100 : Cond.methodLink RL 100 YX12_lot.1 ∈ lw_all := lw_in5 (k := 130) rfl rfl
theorem lX12_230 : Cond.methodLink RX12 230 YX12_lotOf.1 ∈ lw_all := lw_in5 (k := 134) rfl rfl
theorem lX12_234 : Cond.methodLink RX12 234 YX12_part.1 ∈ lw_all := lw_in5 (k := 138) rfl rfl
theorem lX12_226 : Cond.methodLink RX12 226 YX12_divisor.1 ∈ lw_all := lw_in5 (k := 142) rfl rfl
theorem lL_104 : Cond.methodLink RL 104 YX12_holder.1 ∈ lw_all := lw_in5 (k := 145) rfl rfl
theorem lL_108 : Cond.methodLink RL 108 YX12_swaps.1 ∈ lw_all := lw_in5 (k := 149) rfl rfl
theorem lX12_248 : Cond.methodLink RX12 248 YX12_swapAll.1 ∈ lw_all := lw_in5 (k := 153) rfl rfl
theorem lX12_244 : Cond.methodLink RX12 244 YX12_worthTo.1 ∈ lw_all := lw_in5 (k := 157) rfl rfl
theorem lL_112 : Cond.methodLink RL 112 YX12_rings.1 ∈ lw_all := lw_in5 (k := 161) rfl rfl
theorem lL_116 : Cond.methodLink RL 116 YX12_chain.1 ∈ lw_all := lw_in5 (k := 165) rfl rfl
theorem lX12_251 : Cond.methodLink RX12 251 YX12_wouldGo.1 ∈ lw_all := lw_in5 (k := 169) rfl rfl
theorem lL_121 : Cond.methodLink RL 121 YX12_mean.1 ∈ lw_all := lw_in5 (k := 173) rfl rfl
theorem lL_125 : Cond.methodLink RL 125 YX12_count.1 ∈ lw_all := lw_in5 (k := 177) rfl rfl
theorem nL_53 : Cond.constantLong RL 53 (Int64.ofInt (4294967295)) ∈ lw_all := lw_in5 (k := 181) rfl rfl
theorem gJ0_9 : Cond.fieldLink RJ0 9 "java/lang/String" "value" "[B" ∈ lw_all := lw_in5 (k := 182) rfl rfl
theorem gJ0_15 : Cond.fieldLink RJ0 15 "java/lang/String" "coder" "B" ∈ lw_all := lw_in5 (k := 183) rfl rfl
end
section
section AJ
variable {G : ab_G} {Y : ab_Y} {R : Room} {Z : ab_Zt} {kc ks : Nat} {h : ab_H} {pc : Nat} {ls : List (Option ab_V)} {st : List ab_V}
theorem aw_mmin {x y : Int} {idx : Nat} (hd : decode Y.2.1 pc = .ok (.invokestatic idx, 3)) (hlk : Cond.methodLink Y.1.cls idx Lib.Math.min.name ∈ lw_all) (hx : ab_In x) (hy : ab_In y) (hw : st.length ≤ 4) (h1 : 1 ≤ R.frames) (h2 : 21 ≤ R.locals) (h3 : kc ≤ R.cells) (h4 : ks ≤ R.slots) (k : aW G Y R Z kc ks h (pc + 3) ls (ab_i (if y < x then y else x) :: st)) : aW G Y R Z kc ks h pc ls (ab_i y :: ab_i x :: st) := by
  intro p e s m args below meth c C H locs lsr hR hO hL hl
  have k9 := k p e s m args below meth c C H locs lsr hR hO hL hl
  have hts := C.2.2.2.2.2.1
  refine va_mmin C.1 C.2.1 (C.2.2.2.1.trans hl.1.symm) C.2.2.2.2.1 (hts _ hlk) (hts _ sJmin) (hts _ nJmin) (hts _ cJmin) h1 (by have := ab_cats (G := G) st; omega) h3 h4 hd ?_
  have e9 : (if Int32.ofInt y < Int32.ofInt x then Int32.ofInt y else Int32.ofInt x) = Int32.ofInt (if y < x then y else x) := by
    by_cases hc : y < x
    · rw [if_pos hc, if_pos ((ab_lti hy hx).mpr hc)]
    · rw [if_neg hc, if_neg (fun q => hc ((ab_lti hy hx).mp q))]
  rw [e9]
  exact k9
end AJ
end
