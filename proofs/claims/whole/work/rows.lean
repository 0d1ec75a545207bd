section
-- ===== PART A: goes FIRST, ahead of the names: the tables' words, and 'selects' of the private methods out of them =====
/-- a private method of a class that the tables say can be made, by its rows of tables_1 -/
def lw_okq (q : MethodName × Nat) : Prop := (q.1.cls ≠ "java/lang/invoke/MethodHandle" ∧ q.1.cls ≠ "java/lang/invoke/VarHandle") ∧ Cond.instantiable q.1.cls q.2 ∈ tables_1 ∧ Cond.privateMethod q.1 ∈ tables_1 ∧ Cond.instanceMethod q.1 ∈ tables_1
theorem lw_p0 : lw_okq (⟨"ThreeOffers$Course", "offer", "(ILThreeOffers$Rules;)V"⟩, 7) := ⟨⟨by decide +kernel, by decide +kernel⟩, List.mem_of_getElem? (i := 160) (by decide +kernel), List.mem_of_getElem? (i := 442) (by decide +kernel), List.mem_of_getElem? (i := 443) (by decide +kernel)⟩
theorem lw_p1 : lw_okq (⟨"ThreeOffers$Course", "isAhead", "(LThreeOffers$Person;LThreeOffers$Person;I)Z"⟩, 7) := ⟨⟨by decide +kernel, by decide +kernel⟩, List.mem_of_getElem? (i := 160) (by decide +kernel), List.mem_of_getElem? (i := 450) (by decide +kernel), List.mem_of_getElem? (i := 451) (by decide +kernel)⟩
theorem lw_p2 : lw_okq (⟨"ThreeOffers$Course", "sayNo", "(LThreeOffers$Person;LThreeOffers$Rules;)Z"⟩, 7) := ⟨⟨by decide +kernel, by decide +kernel⟩, List.mem_of_getElem? (i := 160) (by decide +kernel), List.mem_of_getElem? (i := 458) (by decide +kernel), List.mem_of_getElem? (i := 459) (by decide +kernel)⟩
theorem lw_p3 : lw_okq (⟨"ThreeOffers$Course", "house", "(LThreeOffers$Person;I)V"⟩, 7) := ⟨⟨by decide +kernel, by decide +kernel⟩, List.mem_of_getElem? (i := 160) (by decide +kernel), List.mem_of_getElem? (i := 462) (by decide +kernel), List.mem_of_getElem? (i := 463) (by decide +kernel)⟩
theorem lw_p4 : lw_okq (⟨"ThreeOffers$Course", "arrive", "(I)V"⟩, 7) := ⟨⟨by decide +kernel, by decide +kernel⟩, List.mem_of_getElem? (i := 160) (by decide +kernel), List.mem_of_getElem? (i := 466) (by decide +kernel), List.mem_of_getElem? (i := 467) (by decide +kernel)⟩
theorem lw_p5 : lw_okq (⟨"ThreeOffers$Course", "growOlder", "(I)V"⟩, 7) := ⟨⟨by decide +kernel, by decide +kernel⟩, List.mem_of_getElem? (i := 160) (by decide +kernel), List.mem_of_getElem? (i := 471) (by decide +kernel), List.mem_of_getElem? (i := 472) (by decide +kernel)⟩
theorem lw_p6 : lw_okq (⟨"ThreeOffers$Text", "goOn", "()V"⟩, 6) := ⟨⟨by decide +kernel, by decide +kernel⟩, List.mem_of_getElem? (i := 132) (by decide +kernel), List.mem_of_getElem? (i := 513) (by decide +kernel), List.mem_of_getElem? (i := 514) (by decide +kernel)⟩
theorem lw_p7 : lw_okq (⟨"ThreeOffers$Text", "readLine", "(LThreeOffers$Rules;)Z"⟩, 6) := ⟨⟨by decide +kernel, by decide +kernel⟩, List.mem_of_getElem? (i := 132) (by decide +kernel), List.mem_of_getElem? (i := 520) (by decide +kernel), List.mem_of_getElem? (i := 521) (by decide +kernel)⟩
theorem lw_p8 : lw_okq (⟨"ThreeOffers$Text", "pass", "(Ljava/lang/String;)Z"⟩, 6) := ⟨⟨by decide +kernel, by decide +kernel⟩, List.mem_of_getElem? (i := 132) (by decide +kernel), List.mem_of_getElem? (i := 525) (by decide +kernel), List.mem_of_getElem? (i := 526) (by decide +kernel)⟩
theorem lw_p9 : lw_okq (⟨"ThreeOffers$Text", "choose", "(Ljava/lang/String;Ljava/lang/String;Ljava/lang/String;)I"⟩, 6) := ⟨⟨by decide +kernel, by decide +kernel⟩, List.mem_of_getElem? (i := 132) (by decide +kernel), List.mem_of_getElem? (i := 580) (by decide +kernel), List.mem_of_getElem? (i := 581) (by decide +kernel)⟩
theorem lw_p10 : lw_okq (⟨"ThreeOffers$Text", "number", "(I)I"⟩, 6) := ⟨⟨by decide +kernel, by decide +kernel⟩, List.mem_of_getElem? (i := 132) (by decide +kernel), List.mem_of_getElem? (i := 585) (by decide +kernel), List.mem_of_getElem? (i := 586) (by decide +kernel)⟩
theorem lw_p11 : lw_okq (⟨"ThreeOffers$Text", "readWay", "(LThreeOffers$Rules;)Z"⟩, 6) := ⟨⟨by decide +kernel, by decide +kernel⟩, List.mem_of_getElem? (i := 132) (by decide +kernel), List.mem_of_getElem? (i := 595) (by decide +kernel), List.mem_of_getElem? (i := 596) (by decide +kernel)⟩
theorem lw_p12 : lw_okq (⟨"ThreeOffers", "tryOut", "(ILThreeOffers$Rules;)V"⟩, 11) := ⟨⟨by decide +kernel, by decide +kernel⟩, List.mem_of_getElem? (i := 23) (by decide +kernel), List.mem_of_getElem? (i := 625) (by decide +kernel), List.mem_of_getElem? (i := 626) (by decide +kernel)⟩
theorem lw_p13 : lw_okq (⟨"ThreeOffers$Rest", "findLikeBars", "()V"⟩, 6) := ⟨⟨by decide +kernel, by decide +kernel⟩, List.mem_of_getElem? (i := 231) (by decide +kernel), List.mem_of_getElem? (i := 667) (by decide +kernel), List.mem_of_getElem? (i := 668) (by decide +kernel)⟩
theorem lw_p14 : lw_okq (⟨"ThreeOffers$Rest", "kindsTaken", "(II)I"⟩, 6) := ⟨⟨by decide +kernel, by decide +kernel⟩, List.mem_of_getElem? (i := 231) (by decide +kernel), List.mem_of_getElem? (i := 671) (by decide +kernel), List.mem_of_getElem? (i := 672) (by decide +kernel)⟩
theorem lw_p15 : lw_okq (⟨"ThreeOffers$Rest", "likeSetting", "(I)I"⟩, 6) := ⟨⟨by decide +kernel, by decide +kernel⟩, List.mem_of_getElem? (i := 231) (by decide +kernel), List.mem_of_getElem? (i := 675) (by decide +kernel), List.mem_of_getElem? (i := 676) (by decide +kernel)⟩
def lw_privs_1 : List (MethodName × Nat) := [(⟨"ThreeOffers$Course", "offer", "(ILThreeOffers$Rules;)V"⟩, 7), (⟨"ThreeOffers$Course", "isAhead", "(LThreeOffers$Person;LThreeOffers$Person;I)Z"⟩, 7), (⟨"ThreeOffers$Course", "sayNo", "(LThreeOffers$Person;LThreeOffers$Rules;)Z"⟩, 7), (⟨"ThreeOffers$Course", "house", "(LThreeOffers$Person;I)V"⟩, 7), (⟨"ThreeOffers$Course", "arrive", "(I)V"⟩, 7), (⟨"ThreeOffers$Course", "growOlder", "(I)V"⟩, 7), (⟨"ThreeOffers$Text", "goOn", "()V"⟩, 6), (⟨"ThreeOffers$Text", "readLine", "(LThreeOffers$Rules;)Z"⟩, 6), (⟨"ThreeOffers$Text", "pass", "(Ljava/lang/String;)Z"⟩, 6), (⟨"ThreeOffers$Text", "choose", "(Ljava/lang/String;Ljava/lang/String;Ljava/lang/String;)I"⟩, 6), (⟨"ThreeOffers$Text", "number", "(I)I"⟩, 6), (⟨"ThreeOffers$Text", "readWay", "(LThreeOffers$Rules;)Z"⟩, 6), (⟨"ThreeOffers", "tryOut", "(ILThreeOffers$Rules;)V"⟩, 11), (⟨"ThreeOffers$Rest", "findLikeBars", "()V"⟩, 6), (⟨"ThreeOffers$Rest", "kindsTaken", "(II)I"⟩, 6), (⟨"ThreeOffers$Rest", "likeSetting", "(I)I"⟩, 6)]
theorem lw_r1 : ∀ q ∈ lw_privs_1, lw_okq q := List.forall_mem_cons.mpr ⟨lw_p0, List.forall_mem_cons.mpr ⟨lw_p1, List.forall_mem_cons.mpr ⟨lw_p2, List.forall_mem_cons.mpr ⟨lw_p3, List.forall_mem_cons.mpr ⟨lw_p4, List.forall_mem_cons.mpr ⟨lw_p5, List.forall_mem_cons.mpr ⟨lw_p6, List.forall_mem_cons.mpr ⟨lw_p7, List.forall_mem_cons.mpr ⟨lw_p8, List.forall_mem_cons.mpr ⟨lw_p9, List.forall_mem_cons.mpr ⟨lw_p10, List.forall_mem_cons.mpr ⟨lw_p11, List.forall_mem_cons.mpr ⟨lw_p12, List.forall_mem_cons.mpr ⟨lw_p13, List.forall_mem_cons.mpr ⟨lw_p14, List.forall_mem_cons.mpr ⟨lw_p15, fun _ h => absurd h List.not_mem_nil⟩⟩⟩⟩⟩⟩⟩⟩⟩⟩⟩⟩⟩⟩⟩⟩
theorem lw_p16 : lw_okq (⟨"ThreeOffers$Rest", "setWays", "(LThreeOffers$Rules;I)V"⟩, 6) := ⟨⟨by decide +kernel, by decide +kernel⟩, List.mem_of_getElem? (i := 231) (by decide +kernel), List.mem_of_getElem? (i := 684) (by decide +kernel), List.mem_of_getElem? (i := 685) (by decide +kernel)⟩
theorem lw_p17 : lw_okq (⟨"ThreeOffers$Rest", "isAtRest", "(I)Z"⟩, 6) := ⟨⟨by decide +kernel, by decide +kernel⟩, List.mem_of_getElem? (i := 231) (by decide +kernel), List.mem_of_getElem? (i := 692) (by decide +kernel), List.mem_of_getElem? (i := 693) (by decide +kernel)⟩
theorem lw_p18 : lw_okq (⟨"ThreeOffers$Lot", "rowsFrom", "(IIII)I"⟩, 4) := ⟨⟨by decide +kernel, by decide +kernel⟩, List.mem_of_getElem? (i := 259) (by decide +kernel), List.mem_of_getElem? (i := 715) (by decide +kernel), List.mem_of_getElem? (i := 716) (by decide +kernel)⟩
theorem lw_p19 : lw_okq (⟨"ThreeOffers$Lot", "kindTaken", "(I)I"⟩, 4) := ⟨⟨by decide +kernel, by decide +kernel⟩, List.mem_of_getElem? (i := 259) (by decide +kernel), List.mem_of_getElem? (i := 719) (by decide +kernel), List.mem_of_getElem? (i := 720) (by decide +kernel)⟩
theorem lw_p20 : lw_okq (⟨"ThreeOffers$Swaps", "closeRing", "(I)I"⟩, 3) := ⟨⟨by decide +kernel, by decide +kernel⟩, List.mem_of_getElem? (i := 302) (by decide +kernel), List.mem_of_getElem? (i := 748) (by decide +kernel), List.mem_of_getElem? (i := 749) (by decide +kernel)⟩
theorem lw_p21 : lw_okq (⟨"ThreeOffers$Swaps", "pointedTo", "(II)I"⟩, 3) := ⟨⟨by decide +kernel, by decide +kernel⟩, List.mem_of_getElem? (i := 302) (by decide +kernel), List.mem_of_getElem? (i := 756) (by decide +kernel), List.mem_of_getElem? (i := 757) (by decide +kernel)⟩
theorem lw_p22 : lw_okq (⟨"ThreeOffers$Chain", "goOn", "(III)V"⟩, 4) := ⟨⟨by decide +kernel, by decide +kernel⟩, List.mem_of_getElem? (i := 320) (by decide +kernel), List.mem_of_getElem? (i := 776) (by decide +kernel), List.mem_of_getElem? (i := 777) (by decide +kernel)⟩
theorem lw_p23 : lw_okq (⟨"ThreeOffersModel", "add", "(I)V"⟩, 32) := ⟨⟨by decide +kernel, by decide +kernel⟩, List.mem_of_getElem? (i := 796) (by decide +kernel), List.mem_of_getElem? (i := 929) (by decide +kernel), List.mem_of_getElem? (i := 930) (by decide +kernel)⟩
theorem lw_p24 : lw_okq (⟨"ThreeOffersModel", "goWeek", "()V"⟩, 32) := ⟨⟨by decide +kernel, by decide +kernel⟩, List.mem_of_getElem? (i := 796) (by decide +kernel), List.mem_of_getElem? (i := 937) (by decide +kernel), List.mem_of_getElem? (i := 938) (by decide +kernel)⟩
theorem lw_p25 : lw_okq (⟨"ThreeOffersModel", "offer", "(I)V"⟩, 32) := ⟨⟨by decide +kernel, by decide +kernel⟩, List.mem_of_getElem? (i := 796) (by decide +kernel), List.mem_of_getElem? (i := 941) (by decide +kernel), List.mem_of_getElem? (i := 942) (by decide +kernel)⟩
theorem lw_p26 : lw_okq (⟨"ThreeOffersModel", "findOrder", "()V"⟩, 32) := ⟨⟨by decide +kernel, by decide +kernel⟩, List.mem_of_getElem? (i := 796) (by decide +kernel), List.mem_of_getElem? (i := 945) (by decide +kernel), List.mem_of_getElem? (i := 946) (by decide +kernel)⟩
theorem lw_p27 : lw_okq (⟨"ThreeOffersModel", "isAhead", "(II)Z"⟩, 32) := ⟨⟨by decide +kernel, by decide +kernel⟩, List.mem_of_getElem? (i := 796) (by decide +kernel), List.mem_of_getElem? (i := 949) (by decide +kernel), List.mem_of_getElem? (i := 950) (by decide +kernel)⟩
theorem lw_p28 : lw_okq (⟨"ThreeOffersModel", "doesTake", "(II)Z"⟩, 32) := ⟨⟨by decide +kernel, by decide +kernel⟩, List.mem_of_getElem? (i := 796) (by decide +kernel), List.mem_of_getElem? (i := 953) (by decide +kernel), List.mem_of_getElem? (i := 954) (by decide +kernel)⟩
theorem lw_p29 : lw_okq (⟨"ThreeOffersModel", "isRead", "()Z"⟩, 32) := ⟨⟨by decide +kernel, by decide +kernel⟩, List.mem_of_getElem? (i := 796) (by decide +kernel), List.mem_of_getElem? (i := 982) (by decide +kernel), List.mem_of_getElem? (i := 983) (by decide +kernel)⟩
theorem lw_p30 : lw_okq (⟨"ThreeOffersModel", "isLine", "()Z"⟩, 32) := ⟨⟨by decide +kernel, by decide +kernel⟩, List.mem_of_getElem? (i := 796) (by decide +kernel), List.mem_of_getElem? (i := 986) (by decide +kernel), List.mem_of_getElem? (i := 987) (by decide +kernel)⟩
theorem lw_p31 : lw_okq (⟨"ThreeOffersModel", "nextToken", "()V"⟩, 32) := ⟨⟨by decide +kernel, by decide +kernel⟩, List.mem_of_getElem? (i := 796) (by decide +kernel), List.mem_of_getElem? (i := 990) (by decide +kernel), List.mem_of_getElem? (i := 991) (by decide +kernel)⟩
def lw_privs_2 : List (MethodName × Nat) := [(⟨"ThreeOffers$Rest", "setWays", "(LThreeOffers$Rules;I)V"⟩, 6), (⟨"ThreeOffers$Rest", "isAtRest", "(I)Z"⟩, 6), (⟨"ThreeOffers$Lot", "rowsFrom", "(IIII)I"⟩, 4), (⟨"ThreeOffers$Lot", "kindTaken", "(I)I"⟩, 4), (⟨"ThreeOffers$Swaps", "closeRing", "(I)I"⟩, 3), (⟨"ThreeOffers$Swaps", "pointedTo", "(II)I"⟩, 3), (⟨"ThreeOffers$Chain", "goOn", "(III)V"⟩, 4), (⟨"ThreeOffersModel", "add", "(I)V"⟩, 32), (⟨"ThreeOffersModel", "goWeek", "()V"⟩, 32), (⟨"ThreeOffersModel", "offer", "(I)V"⟩, 32), (⟨"ThreeOffersModel", "findOrder", "()V"⟩, 32), (⟨"ThreeOffersModel", "isAhead", "(II)Z"⟩, 32), (⟨"ThreeOffersModel", "doesTake", "(II)Z"⟩, 32), (⟨"ThreeOffersModel", "isRead", "()Z"⟩, 32), (⟨"ThreeOffersModel", "isLine", "()Z"⟩, 32), (⟨"ThreeOffersModel", "nextToken", "()V"⟩, 32)]
theorem lw_r2 : ∀ q ∈ lw_privs_2, lw_okq q := List.forall_mem_cons.mpr ⟨lw_p16, List.forall_mem_cons.mpr ⟨lw_p17, List.forall_mem_cons.mpr ⟨lw_p18, List.forall_mem_cons.mpr ⟨lw_p19, List.forall_mem_cons.mpr ⟨lw_p20, List.forall_mem_cons.mpr ⟨lw_p21, List.forall_mem_cons.mpr ⟨lw_p22, List.forall_mem_cons.mpr ⟨lw_p23, List.forall_mem_cons.mpr ⟨lw_p24, List.forall_mem_cons.mpr ⟨lw_p25, List.forall_mem_cons.mpr ⟨lw_p26, List.forall_mem_cons.mpr ⟨lw_p27, List.forall_mem_cons.mpr ⟨lw_p28, List.forall_mem_cons.mpr ⟨lw_p29, List.forall_mem_cons.mpr ⟨lw_p30, List.forall_mem_cons.mpr ⟨lw_p31, fun _ h => absurd h List.not_mem_nil⟩⟩⟩⟩⟩⟩⟩⟩⟩⟩⟩⟩⟩⟩⟩⟩
theorem lw_p32 : lw_okq (⟨"ThreeOffersModel", "isOf", "(IJJJ)Z"⟩, 32) := ⟨⟨by decide +kernel, by decide +kernel⟩, List.mem_of_getElem? (i := 796) (by decide +kernel), List.mem_of_getElem? (i := 1004) (by decide +kernel), List.mem_of_getElem? (i := 1005) (by decide +kernel)⟩
theorem lw_p33 : lw_okq (⟨"ThreeOffersModel", "fails", "()Z"⟩, 32) := ⟨⟨by decide +kernel, by decide +kernel⟩, List.mem_of_getElem? (i := 796) (by decide +kernel), List.mem_of_getElem? (i := 1008) (by decide +kernel), List.mem_of_getElem? (i := 1009) (by decide +kernel)⟩
theorem lw_p34 : lw_okq (⟨"ThreeOffersModel", "isNumber", "(II)Z"⟩, 32) := ⟨⟨by decide +kernel, by decide +kernel⟩, List.mem_of_getElem? (i := 796) (by decide +kernel), List.mem_of_getElem? (i := 1013) (by decide +kernel), List.mem_of_getElem? (i := 1014) (by decide +kernel)⟩
theorem lw_p35 : lw_okq (⟨"ThreeOffersModel", "isWay", "()Z"⟩, 32) := ⟨⟨by decide +kernel, by decide +kernel⟩, List.mem_of_getElem? (i := 796) (by decide +kernel), List.mem_of_getElem? (i := 1023) (by decide +kernel), List.mem_of_getElem? (i := 1024) (by decide +kernel)⟩
theorem lw_p36 : lw_okq (⟨"ThreeOffersModel", "goOn", "(I)V"⟩, 32) := ⟨⟨by decide +kernel, by decide +kernel⟩, List.mem_of_getElem? (i := 796) (by decide +kernel), List.mem_of_getElem? (i := 1046) (by decide +kernel), List.mem_of_getElem? (i := 1047) (by decide +kernel)⟩
theorem lw_p37 : lw_okq (⟨"ThreeOffersModel", "more", "(I)I"⟩, 32) := ⟨⟨by decide +kernel, by decide +kernel⟩, List.mem_of_getElem? (i := 796) (by decide +kernel), List.mem_of_getElem? (i := 1050) (by decide +kernel), List.mem_of_getElem? (i := 1051) (by decide +kernel)⟩
theorem lw_p38 : lw_okq (⟨"ThreeOffersModel", "layBack", "()V"⟩, 32) := ⟨⟨by decide +kernel, by decide +kernel⟩, List.mem_of_getElem? (i := 796) (by decide +kernel), List.mem_of_getElem? (i := 1054) (by decide +kernel), List.mem_of_getElem? (i := 1055) (by decide +kernel)⟩
theorem lw_p39 : lw_okq (⟨"ThreeOffersModel", "gainOf", "(I)I"⟩, 32) := ⟨⟨by decide +kernel, by decide +kernel⟩, List.mem_of_getElem? (i := 796) (by decide +kernel), List.mem_of_getElem? (i := 1063) (by decide +kernel), List.mem_of_getElem? (i := 1064) (by decide +kernel)⟩
theorem lw_p40 : lw_okq (⟨"ThreeOffersModel", "keepRules", "()V"⟩, 32) := ⟨⟨by decide +kernel, by decide +kernel⟩, List.mem_of_getElem? (i := 796) (by decide +kernel), List.mem_of_getElem? (i := 1071) (by decide +kernel), List.mem_of_getElem? (i := 1072) (by decide +kernel)⟩
theorem lw_p41 : lw_okq (⟨"ThreeOffersModel", "layBackRules", "()V"⟩, 32) := ⟨⟨by decide +kernel, by decide +kernel⟩, List.mem_of_getElem? (i := 796) (by decide +kernel), List.mem_of_getElem? (i := 1075) (by decide +kernel), List.mem_of_getElem? (i := 1076) (by decide +kernel)⟩
theorem lw_p42 : lw_okq (⟨"ThreeOffersModel", "findGains", "(I)V"⟩, 32) := ⟨⟨by decide +kernel, by decide +kernel⟩, List.mem_of_getElem? (i := 796) (by decide +kernel), List.mem_of_getElem? (i := 1083) (by decide +kernel), List.mem_of_getElem? (i := 1084) (by decide +kernel)⟩
theorem lw_p43 : lw_okq (⟨"ThreeOffersModel", "isAtRest", "(I)Z"⟩, 32) := ⟨⟨by decide +kernel, by decide +kernel⟩, List.mem_of_getElem? (i := 796) (by decide +kernel), List.mem_of_getElem? (i := 1087) (by decide +kernel), List.mem_of_getElem? (i := 1088) (by decide +kernel)⟩
theorem lw_p44 : lw_okq (⟨"ThreeOffersModel", "lotOf", "(III)I"⟩, 32) := ⟨⟨by decide +kernel, by decide +kernel⟩, List.mem_of_getElem? (i := 796) (by decide +kernel), List.mem_of_getElem? (i := 1095) (by decide +kernel), List.mem_of_getElem? (i := 1096) (by decide +kernel)⟩
theorem lw_p45 : lw_okq (⟨"ThreeOffersModel", "part", "(JJI)I"⟩, 32) := ⟨⟨by decide +kernel, by decide +kernel⟩, List.mem_of_getElem? (i := 796) (by decide +kernel), List.mem_of_getElem? (i := 1099) (by decide +kernel), List.mem_of_getElem? (i := 1100) (by decide +kernel)⟩
theorem lw_p46 : lw_okq (⟨"ThreeOffersModel", "swapAll", "()V"⟩, 32) := ⟨⟨by decide +kernel, by decide +kernel⟩, List.mem_of_getElem? (i := 796) (by decide +kernel), List.mem_of_getElem? (i := 1114) (by decide +kernel), List.mem_of_getElem? (i := 1115) (by decide +kernel)⟩
theorem lw_p47 : lw_okq (⟨"ThreeOffersModel", "worthTo", "(II)I"⟩, 32) := ⟨⟨by decide +kernel, by decide +kernel⟩, List.mem_of_getElem? (i := 796) (by decide +kernel), List.mem_of_getElem? (i := 1118) (by decide +kernel), List.mem_of_getElem? (i := 1119) (by decide +kernel)⟩
def lw_privs_3 : List (MethodName × Nat) := [(⟨"ThreeOffersModel", "isOf", "(IJJJ)Z"⟩, 32), (⟨"ThreeOffersModel", "fails", "()Z"⟩, 32), (⟨"ThreeOffersModel", "isNumber", "(II)Z"⟩, 32), (⟨"ThreeOffersModel", "isWay", "()Z"⟩, 32), (⟨"ThreeOffersModel", "goOn", "(I)V"⟩, 32), (⟨"ThreeOffersModel", "more", "(I)I"⟩, 32), (⟨"ThreeOffersModel", "layBack", "()V"⟩, 32), (⟨"ThreeOffersModel", "gainOf", "(I)I"⟩, 32), (⟨"ThreeOffersModel", "keepRules", "()V"⟩, 32), (⟨"ThreeOffersModel", "layBackRules", "()V"⟩, 32), (⟨"ThreeOffersModel", "findGains", "(I)V"⟩, 32), (⟨"ThreeOffersModel", "isAtRest", "(I)Z"⟩, 32), (⟨"ThreeOffersModel", "lotOf", "(III)I"⟩, 32), (⟨"ThreeOffersModel", "part", "(JJI)I"⟩, 32), (⟨"ThreeOffersModel", "swapAll", "()V"⟩, 32), (⟨"ThreeOffersModel", "worthTo", "(II)I"⟩, 32)]
theorem lw_r3 : ∀ q ∈ lw_privs_3, lw_okq q := List.forall_mem_cons.mpr ⟨lw_p32, List.forall_mem_cons.mpr ⟨lw_p33, List.forall_mem_cons.mpr ⟨lw_p34, List.forall_mem_cons.mpr ⟨lw_p35, List.forall_mem_cons.mpr ⟨lw_p36, List.forall_mem_cons.mpr ⟨lw_p37, List.forall_mem_cons.mpr ⟨lw_p38, List.forall_mem_cons.mpr ⟨lw_p39, List.forall_mem_cons.mpr ⟨lw_p40, List.forall_mem_cons.mpr ⟨lw_p41, List.forall_mem_cons.mpr ⟨lw_p42, List.forall_mem_cons.mpr ⟨lw_p43, List.forall_mem_cons.mpr ⟨lw_p44, List.forall_mem_cons.mpr ⟨lw_p45, List.forall_mem_cons.mpr ⟨lw_p46, List.forall_mem_cons.mpr ⟨lw_p47, fun _ h => absurd h List.not_mem_nil⟩⟩⟩⟩⟩⟩⟩⟩⟩⟩⟩⟩⟩⟩⟩⟩
theorem lw_p48 : lw_okq (⟨"ThreeOffersModel", "wouldGo", "(II)Z"⟩, 32) := ⟨⟨by decide +kernel, by decide +kernel⟩, List.mem_of_getElem? (i := 796) (by decide +kernel), List.mem_of_getElem? (i := 1130) (by decide +kernel), List.mem_of_getElem? (i := 1131) (by decide +kernel)⟩
def lw_privs_4 : List (MethodName × Nat) := [(⟨"ThreeOffersModel", "wouldGo", "(II)Z"⟩, 32)]
theorem lw_r4 : ∀ q ∈ lw_privs_4, lw_okq q := List.forall_mem_cons.mpr ⟨lw_p48, fun _ h => absurd h List.not_mem_nil⟩
def lw_privs : List (MethodName × Nat) := lw_privs_1 ++ (lw_privs_2 ++ (lw_privs_3 ++ (lw_privs_4)))
def lw_tbl : List Cond := k2_sels lw_privs ++ tables_1
theorem lw_privs_ok : ∀ q ∈ lw_privs, lw_okq q := by
  show ∀ q ∈ lw_privs_1 ++ (lw_privs_2 ++ (lw_privs_3 ++ (lw_privs_4))), lw_okq q
  exact List.forall_mem_append.mpr ⟨lw_r1, List.forall_mem_append.mpr ⟨lw_r2, List.forall_mem_append.mpr ⟨lw_r3, lw_r4⟩⟩⟩
end
section
def RX0 : String := "ThreeOffers$Chain"
def TX0 : u_T := fun k => match k with
  | 0 => ("ThreeOffers$Chain", "holders", "LThreeOffers$Holders;", true)
  | 1 => ("ThreeOffers$Chain", "tried", "[I", true)
  | 2 => ("ThreeOffers$Chain", "longest", "[I", true)
  | _ => ("ThreeOffers$Chain", "length", "I", false)
def tyX0 : Nat → FieldType := fun k => match k with
  | 0 => .object "ThreeOffers$Holders"
  | 1 => .array .int
  | 2 => .array .int
  | _ => .int
theorem nmX0 : ∀ a, a < 4 → ∀ b, b < 4 → a ≠ b → (TX0 a).2.1 ≠ (TX0 b).2.1 := by decide +kernel
theorem tyX0_ok : ∀ k, k < 4 → parseFieldDescriptor (TX0 k).2.2.1 = some (tyX0 k) := by decide +kernel
abbrev cX0_init : ByteArray := prog_2_method_1_code
def yX0_init : MethodName := ⟨RX0, "<init>", "(LThreeOffers$Holders;)V"⟩
abbrev cX0_find : ByteArray := prog_2_method_2_code
def yX0_find : MethodName := ⟨RX0, "find", "(I)V"⟩
abbrev cX0_goOn : ByteArray := prog_2_method_3_code
def yX0_goOn : MethodName := ⟨RX0, "goOn", "(III)V"⟩
def RX1 : String := "ThreeOffers$Course"
def TX1 : u_T := fun k => match k with
  | 0 => ("ThreeOffers$Course", "town", "LThreeOffers$Town;", true)
  | 1 => ("ThreeOffers$Course", "list", "[LThreeOffers$Person;", true)
  | 2 => ("ThreeOffers$Course", "size", "I", false)
  | 3 => ("ThreeOffers$Course", "week", "I", false)
  | 4 => ("ThreeOffers$Course", "nextNumber", "I", false)
  | 5 => ("ThreeOffers$Course", "emptyHouses", "I", false)
  | _ => ("ThreeOffers$Course", "tallies", "[[I", true)
def tyX1 : Nat → FieldType := fun k => match k with
  | 0 => .object "ThreeOffers$Town"
  | 1 => .array (.object "ThreeOffers$Person")
  | 2 => .int
  | 3 => .int
  | 4 => .int
  | 5 => .int
  | _ => .array (.array .int)
theorem nmX1 : ∀ a, a < 7 → ∀ b, b < 7 → a ≠ b → (TX1 a).2.1 ≠ (TX1 b).2.1 := by decide +kernel
theorem tyX1_ok : ∀ k, k < 7 → parseFieldDescriptor (TX1 k).2.2.1 = some (tyX1 k) := by decide +kernel
abbrev cX1_init : ByteArray := prog_3_method_1_code
def yX1_init : MethodName := ⟨RX1, "<init>", "(LThreeOffers$Town;)V"⟩
abbrev cX1_beginLike : ByteArray := prog_3_method_2_code
def yX1_beginLike : MethodName := ⟨RX1, "beginLike", "(LThreeOffers$Course;)V"⟩
abbrev cX1_isFull : ByteArray := prog_3_method_3_code
def yX1_isFull : MethodName := ⟨RX1, "isFull", "()Z"⟩
abbrev cX1_add : ByteArray := prog_3_method_4_code
def yX1_add : MethodName := ⟨RX1, "add", "(I)V"⟩
abbrev cX1_total : ByteArray := prog_3_method_5_code
def yX1_total : MethodName := ⟨RX1, "total", "(I)I"⟩
abbrev cX1_gained : ByteArray := prog_3_method_6_code
def yX1_gained : MethodName := ⟨RX1, "gained", "(I)I"⟩
abbrev cX1_pass : ByteArray := prog_3_method_7_code
def yX1_pass : MethodName := ⟨RX1, "pass", "(ILThreeOffers$Rules;)V"⟩
abbrev cX1_stand : ByteArray := prog_3_method_8_code
def yX1_stand : MethodName := ⟨RX1, "stand", "(I)V"⟩
abbrev cX1_isAhead : ByteArray := prog_3_method_9_code
def yX1_isAhead : MethodName := ⟨RX1, "isAhead", "(LThreeOffers$Person;LThreeOffers$Person;I)Z"⟩
abbrev cX1_offer : ByteArray := prog_3_method_10_code
def yX1_offer : MethodName := ⟨RX1, "offer", "(ILThreeOffers$Rules;)V"⟩
abbrev cX1_house : ByteArray := prog_3_method_11_code
def yX1_house : MethodName := ⟨RX1, "house", "(LThreeOffers$Person;I)V"⟩
abbrev cX1_sayNo : ByteArray := prog_3_method_12_code
def yX1_sayNo : MethodName := ⟨RX1, "sayNo", "(LThreeOffers$Person;LThreeOffers$Rules;)Z"⟩
abbrev cX1_arrive : ByteArray := prog_3_method_13_code
def yX1_arrive : MethodName := ⟨RX1, "arrive", "(I)V"⟩
abbrev cX1_growOlder : ByteArray := prog_3_method_14_code
def yX1_growOlder : MethodName := ⟨RX1, "growOlder", "(I)V"⟩
def RX2 : String := "ThreeOffers$Holders"
def TX2 : u_T := fun k => match k with
  | 0 => ("ThreeOffers$Holders", "town", "LThreeOffers$Town;", true)
  | 1 => ("ThreeOffers$Holders", "sorts", "[I", true)
  | 2 => ("ThreeOffers$Holders", "kinds", "[I", true)
  | _ => ("ThreeOffers$Holders", "many", "I", false)
def tyX2 : Nat → FieldType := fun k => match k with
  | 0 => .object "ThreeOffers$Town"
  | 1 => .array .int
  | 2 => .array .int
  | _ => .int
theorem nmX2 : ∀ a, a < 4 → ∀ b, b < 4 → a ≠ b → (TX2 a).2.1 ≠ (TX2 b).2.1 := by decide +kernel
theorem tyX2_ok : ∀ k, k < 4 → parseFieldDescriptor (TX2 k).2.2.1 = some (tyX2 k) := by decide +kernel
abbrev cX2_init : ByteArray := prog_4_method_1_code
def yX2_init : MethodName := ⟨RX2, "<init>", "(LThreeOffers$Town;)V"⟩
abbrev cX2_add : ByteArray := prog_4_method_2_code
def yX2_add : MethodName := ⟨RX2, "add", "(II)I"⟩
abbrev cX2_likesMore : ByteArray := prog_4_method_3_code
def yX2_likesMore : MethodName := ⟨RX2, "likesMore", "(III)Z"⟩
def RX3 : String := "ThreeOffers$Lot"
def TX3 : u_T := fun k => match k with
  | 0 => ("ThreeOffers$Lot", "town", "LThreeOffers$Town;", true)
  | 1 => ("ThreeOffers$Lot", "sorts", "[I", true)
  | 2 => ("ThreeOffers$Lot", "people", "I", false)
  | _ => ("ThreeOffers$Lot", "left", "[I", true)
def tyX3 : Nat → FieldType := fun k => match k with
  | 0 => .object "ThreeOffers$Town"
  | 1 => .array .int
  | 2 => .int
  | _ => .array .int
theorem nmX3 : ∀ a, a < 4 → ∀ b, b < 4 → a ≠ b → (TX3 a).2.1 ≠ (TX3 b).2.1 := by decide +kernel
theorem tyX3_ok : ∀ k, k < 4 → parseFieldDescriptor (TX3 k).2.2.1 = some (tyX3 k) := by decide +kernel
abbrev cX3_init : ByteArray := prog_5_method_1_code
def yX3_init : MethodName := ⟨RX3, "<init>", "(LThreeOffers$Town;)V"⟩
abbrev cX3_gather : ByteArray := prog_5_method_2_code
def yX3_gather : MethodName := ⟨RX3, "gather", "(LThreeOffers$Course;I)V"⟩
abbrev cX3_lay : ByteArray := prog_5_method_3_code
def yX3_lay : MethodName := ⟨RX3, "lay", "(II)V"⟩
abbrev cX3_rowsFor : ByteArray := prog_5_method_4_code
def yX3_rowsFor : MethodName := ⟨RX3, "rowsFor", "(II)I"⟩
abbrev cX3_rowsFrom : ByteArray := prog_5_method_5_code
def yX3_rowsFrom : MethodName := ⟨RX3, "rowsFrom", "(IIII)I"⟩
abbrev cX3_kindTaken : ByteArray := prog_5_method_6_code
def yX3_kindTaken : MethodName := ⟨RX3, "kindTaken", "(I)I"⟩
def RX4 : String := "ThreeOffers$Person"
def TX4 : u_T := fun k => match k with
  | 0 => ("ThreeOffers$Person", "sort", "I", false)
  | 1 => ("ThreeOffers$Person", "number", "I", false)
  | 2 => ("ThreeOffers$Person", "points", "I", false)
  | 3 => ("ThreeOffers$Person", "noes", "I", false)
  | _ => ("ThreeOffers$Person", "waited", "I", false)
def tyX4 : Nat → FieldType := fun k => match k with
  | 0 => .int
  | 1 => .int
  | 2 => .int
  | 3 => .int
  | _ => .int
theorem nmX4 : ∀ a, a < 5 → ∀ b, b < 5 → a ≠ b → (TX4 a).2.1 ≠ (TX4 b).2.1 := by decide +kernel
theorem tyX4_ok : ∀ k, k < 5 → parseFieldDescriptor (TX4 k).2.2.1 = some (tyX4 k) := by decide +kernel
abbrev cX4_init : ByteArray := prog_6_method_1_code
def yX4_init : MethodName := ⟨RX4, "<init>", "()V"⟩
abbrev cX4_begin : ByteArray := prog_6_method_2_code
def yX4_begin : MethodName := ⟨RX4, "begin", "(II)V"⟩
abbrev cX4_copy : ByteArray := prog_6_method_3_code
def yX4_copy : MethodName := ⟨RX4, "copy", "(LThreeOffers$Person;)V"⟩
def RX5 : String := "ThreeOffers$Rest"
def TX5 : u_T := fun k => match k with
  | 0 => ("ThreeOffers$Rest", "town", "LThreeOffers$Town;", true)
  | 1 => ("ThreeOffers$Rest", "gains", "[I", true)
  | 2 => ("ThreeOffers$Rest", "like", "[[I", true)
  | 3 => ("ThreeOffers$Rest", "found", "[I", true)
  | 4 => ("ThreeOffers$Rest", "many", "I", false)
  | _ => ("ThreeOffers$Rest", "knownFor", "I", false)
def tyX5 : Nat → FieldType := fun k => match k with
  | 0 => .object "ThreeOffers$Town"
  | 1 => .array .int
  | 2 => .array (.array .int)
  | 3 => .array .int
  | 4 => .int
  | _ => .int
theorem nmX5 : ∀ a, a < 6 → ∀ b, b < 6 → a ≠ b → (TX5 a).2.1 ≠ (TX5 b).2.1 := by decide +kernel
theorem tyX5_ok : ∀ k, k < 6 → parseFieldDescriptor (TX5 k).2.2.1 = some (tyX5 k) := by decide +kernel
abbrev cX5_init : ByteArray := prog_7_method_1_code
def yX5_init : MethodName := ⟨RX5, "<init>", "(LThreeOffers$Town;)V"⟩
abbrev cX5_forget : ByteArray := prog_7_method_2_code
def yX5_forget : MethodName := ⟨RX5, "forget", "()V"⟩
abbrev cX5_areKnownFor : ByteArray := prog_7_method_3_code
def yX5_areKnownFor : MethodName := ⟨RX5, "areKnownFor", "(I)Z"⟩
abbrev cX5_find : ByteArray := prog_7_method_4_code
def yX5_find : MethodName := ⟨RX5, "find", "(ILThreeOffers$Course;LThreeOffers$Course;LThreeOffers$Rules;)V"⟩
abbrev cX5_findLikeBars : ByteArray := prog_7_method_5_code
def yX5_findLikeBars : MethodName := ⟨RX5, "findLikeBars", "()V"⟩
abbrev cX5_kindsTaken : ByteArray := prog_7_method_6_code
def yX5_kindsTaken : MethodName := ⟨RX5, "kindsTaken", "(II)I"⟩
abbrev cX5_likeSetting : ByteArray := prog_7_method_7_code
def yX5_likeSetting : MethodName := ⟨RX5, "likeSetting", "(I)I"⟩
abbrev cX5_barOf : ByteArray := prog_7_method_8_code
def yX5_barOf : MethodName := ⟨RX5, "barOf", "(II)I"⟩
abbrev cX5_setWays : ByteArray := prog_7_method_9_code
def yX5_setWays : MethodName := ⟨RX5, "setWays", "(LThreeOffers$Rules;I)V"⟩
abbrev cX5_isAtRest : ByteArray := prog_7_method_10_code
def yX5_isAtRest : MethodName := ⟨RX5, "isAtRest", "(I)Z"⟩
def RX6 : String := "ThreeOffers$Row"
def TX6 : u_T := fun k => match k with
  | 0 => ("ThreeOffers$Row", "items", "[I", true)
  | _ => ("ThreeOffers$Row", "size", "I", false)
def tyX6 : Nat → FieldType := fun k => match k with
  | 0 => .array .int
  | _ => .int
theorem nmX6 : ∀ a, a < 2 → ∀ b, b < 2 → a ≠ b → (TX6 a).2.1 ≠ (TX6 b).2.1 := by decide +kernel
theorem tyX6_ok : ∀ k, k < 2 → parseFieldDescriptor (TX6 k).2.2.1 = some (tyX6 k) := by decide +kernel
abbrev cX6_init : ByteArray := prog_8_method_1_code
def yX6_init : MethodName := ⟨RX6, "<init>", "()V"⟩
abbrev cX6_isFull : ByteArray := prog_8_method_2_code
def yX6_isFull : MethodName := ⟨RX6, "isFull", "()Z"⟩
abbrev cX6_add : ByteArray := prog_8_method_3_code
def yX6_add : MethodName := ⟨RX6, "add", "(I)I"⟩
abbrev cX6_inWeek : ByteArray := prog_8_method_4_code
def yX6_inWeek : MethodName := ⟨RX6, "inWeek", "(I)I"⟩
def RX7 : String := "ThreeOffers$Rules"
def TX7 : u_T := fun k => match k with
  | 0 => ("ThreeOffers$Rules", "order", "I", false)
  | 1 => ("ThreeOffers$Rules", "noes", "I", false)
  | 2 => ("ThreeOffers$Rules", "then", "I", false)
  | 3 => ("ThreeOffers$Rules", "grow", "I", false)
  | 4 => ("ThreeOffers$Rules", "ways", "[I", true)
  | 5 => ("ThreeOffers$Rules", "bars", "[I", true)
  | _ => ("ThreeOffers$Rules", "falls", "[I", true)
def tyX7 : Nat → FieldType := fun k => match k with
  | 0 => .int
  | 1 => .int
  | 2 => .int
  | 3 => .int
  | 4 => .array .int
  | 5 => .array .int
  | _ => .array .int
theorem nmX7 : ∀ a, a < 7 → ∀ b, b < 7 → a ≠ b → (TX7 a).2.1 ≠ (TX7 b).2.1 := by decide +kernel
theorem tyX7_ok : ∀ k, k < 7 → parseFieldDescriptor (TX7 k).2.2.1 = some (tyX7 k) := by decide +kernel
abbrev cX7_init : ByteArray := prog_9_method_1_code
def yX7_init : MethodName := ⟨RX7, "<init>", "()V"⟩
abbrev cX7_setAsAtFirst : ByteArray := prog_9_method_2_code
def yX7_setAsAtFirst : MethodName := ⟨RX7, "setAsAtFirst", "()V"⟩
abbrev cX7_copy : ByteArray := prog_9_method_3_code
def yX7_copy : MethodName := ⟨RX7, "copy", "(LThreeOffers$Rules;)V"⟩
abbrev cX7_setWay : ByteArray := prog_9_method_4_code
def yX7_setWay : MethodName := ⟨RX7, "setWay", "(IIII)V"⟩
abbrev cX7_takes : ByteArray := prog_9_method_5_code
def yX7_takes : MethodName := ⟨RX7, "takes", "(III)Z"⟩
def RX8 : String := "ThreeOffers$Swaps"
def TX8 : u_T := fun k => match k with
  | 0 => ("ThreeOffers$Swaps", "holders", "LThreeOffers$Holders;", true)
  | 1 => ("ThreeOffers$Swaps", "gets", "[I", true)
  | _ => ("ThreeOffers$Swaps", "ringsOfSeveral", "I", false)
def tyX8 : Nat → FieldType := fun k => match k with
  | 0 => .object "ThreeOffers$Holders"
  | 1 => .array .int
  | _ => .int
theorem nmX8 : ∀ a, a < 3 → ∀ b, b < 3 → a ≠ b → (TX8 a).2.1 ≠ (TX8 b).2.1 := by decide +kernel
theorem tyX8_ok : ∀ k, k < 3 → parseFieldDescriptor (TX8 k).2.2.1 = some (tyX8 k) := by decide +kernel
abbrev cX8_init : ByteArray := prog_10_method_1_code
def yX8_init : MethodName := ⟨RX8, "<init>", "(LThreeOffers$Holders;)V"⟩
abbrev cX8_settle : ByteArray := prog_10_method_2_code
def yX8_settle : MethodName := ⟨RX8, "settle", "()V"⟩
abbrev cX8_closeRing : ByteArray := prog_10_method_3_code
def yX8_closeRing : MethodName := ⟨RX8, "closeRing", "(I)I"⟩
abbrev cX8_pointedTo : ByteArray := prog_10_method_4_code
def yX8_pointedTo : MethodName := ⟨RX8, "pointedTo", "(II)I"⟩
def RX9 : String := "ThreeOffers$Text"
def TX9 : u_T := fun k => match k with
  | 0 => ("ThreeOffers$Text", "signs", "[C", true)
  | 1 => ("ThreeOffers$Text", "length", "I", false)
  | 2 => ("ThreeOffers$Text", "lines", "I", false)
  | 3 => ("ThreeOffers$Text", "start", "I", false)
  | 4 => ("ThreeOffers$Text", "end", "I", false)
  | _ => ("ThreeOffers$Text", "look", "I", false)
def tyX9 : Nat → FieldType := fun k => match k with
  | 0 => .array .char
  | 1 => .int
  | 2 => .int
  | 3 => .int
  | 4 => .int
  | _ => .int
theorem nmX9 : ∀ a, a < 6 → ∀ b, b < 6 → a ≠ b → (TX9 a).2.1 ≠ (TX9 b).2.1 := by decide +kernel
theorem tyX9_ok : ∀ k, k < 6 → parseFieldDescriptor (TX9 k).2.2.1 = some (tyX9 k) := by decide +kernel
abbrev cX9_init : ByteArray := prog_11_method_1_code
def yX9_init : MethodName := ⟨RX9, "<init>", "()V"⟩
abbrev cX9_add : ByteArray := prog_11_method_2_code
def yX9_add : MethodName := ⟨RX9, "add", "(C)V"⟩
abbrev cX9_readInto : ByteArray := prog_11_method_3_code
def yX9_readInto : MethodName := ⟨RX9, "readInto", "(LThreeOffers$Rules;)I"⟩
abbrev cX9_readLine : ByteArray := prog_11_method_4_code
def yX9_readLine : MethodName := ⟨RX9, "readLine", "(LThreeOffers$Rules;)Z"⟩
abbrev cX9_readWay : ByteArray := prog_11_method_5_code
def yX9_readWay : MethodName := ⟨RX9, "readWay", "(LThreeOffers$Rules;)Z"⟩
abbrev cX9_choose : ByteArray := prog_11_method_6_code
def yX9_choose : MethodName := ⟨RX9, "choose", "(Ljava/lang/String;Ljava/lang/String;Ljava/lang/String;)I"⟩
abbrev cX9_number : ByteArray := prog_11_method_7_code
def yX9_number : MethodName := ⟨RX9, "number", "(I)I"⟩
abbrev cX9_pass : ByteArray := prog_11_method_8_code
def yX9_pass : MethodName := ⟨RX9, "pass", "(Ljava/lang/String;)Z"⟩
abbrev cX9_goOn : ByteArray := prog_11_method_9_code
def yX9_goOn : MethodName := ⟨RX9, "goOn", "()V"⟩
abbrev cX9_lookOf : ByteArray := prog_11_method_10_code
def yX9_lookOf : MethodName := ⟨RX9, "lookOf", "(C)I"⟩
def RX10 : String := "ThreeOffers$Town"
def TX10 : u_T := fun k => match k with
  | 0 => ("ThreeOffers$Town", "worths", "[[I", true)
  | 1 => ("ThreeOffers$Town", "needs", "[I", true)
  | 2 => ("ThreeOffers$Town", "houses", "LThreeOffers$Row;", true)
  | _ => ("ThreeOffers$Town", "comers", "LThreeOffers$Row;", true)
def tyX10 : Nat → FieldType := fun k => match k with
  | 0 => .array (.array .int)
  | 1 => .array .int
  | 2 => .object "ThreeOffers$Row"
  | _ => .object "ThreeOffers$Row"
theorem nmX10 : ∀ a, a < 4 → ∀ b, b < 4 → a ≠ b → (TX10 a).2.1 ≠ (TX10 b).2.1 := by decide +kernel
theorem tyX10_ok : ∀ k, k < 4 → parseFieldDescriptor (TX10 k).2.2.1 = some (tyX10 k) := by decide +kernel
abbrev cX10_init : ByteArray := prog_12_method_1_code
def yX10_init : MethodName := ⟨RX10, "<init>", "()V"⟩
def RX11 : String := "ThreeOffers"
def TX11 : u_T := fun k => match k with
  | 0 => ("ThreeOffers", "town", "LThreeOffers$Town;", true)
  | 1 => ("ThreeOffers", "told", "LThreeOffers$Rules;", true)
  | 2 => ("ThreeOffers", "draft", "LThreeOffers$Rules;", true)
  | 3 => ("ThreeOffers", "text", "LThreeOffers$Text;", true)
  | 4 => ("ThreeOffers", "now", "LThreeOffers$Course;", true)
  | 5 => ("ThreeOffers", "trial", "LThreeOffers$Course;", true)
  | 6 => ("ThreeOffers", "settings", "LThreeOffers$Rest;", true)
  | 7 => ("ThreeOffers", "draw", "LThreeOffers$Lot;", true)
  | 8 => ("ThreeOffers", "holders", "LThreeOffers$Holders;", true)
  | 9 => ("ThreeOffers", "exchange", "LThreeOffers$Swaps;", true)
  | _ => ("ThreeOffers", "moves", "LThreeOffers$Chain;", true)
def tyX11 : Nat → FieldType := fun k => match k with
  | 0 => .object "ThreeOffers$Town"
  | 1 => .object "ThreeOffers$Rules"
  | 2 => .object "ThreeOffers$Rules"
  | 3 => .object "ThreeOffers$Text"
  | 4 => .object "ThreeOffers$Course"
  | 5 => .object "ThreeOffers$Course"
  | 6 => .object "ThreeOffers$Rest"
  | 7 => .object "ThreeOffers$Lot"
  | 8 => .object "ThreeOffers$Holders"
  | 9 => .object "ThreeOffers$Swaps"
  | _ => .object "ThreeOffers$Chain"
theorem nmX11 : ∀ a, a < 11 → ∀ b, b < 11 → a ≠ b → (TX11 a).2.1 ≠ (TX11 b).2.1 := by decide +kernel
theorem tyX11_ok : ∀ k, k < 11 → parseFieldDescriptor (TX11 k).2.2.1 = some (tyX11 k) := by decide +kernel
abbrev cX11_init : ByteArray := prog_1_method_1_code
def yX11_init : MethodName := ⟨RX11, "<init>", "()V"⟩
abbrev cX11_worth : ByteArray := prog_1_method_2_code
def yX11_worth : MethodName := ⟨RX11, "worth", "(III)I"⟩
abbrev cX11_need : ByteArray := prog_1_method_3_code
def yX11_need : MethodName := ⟨RX11, "need", "(II)I"⟩
abbrev cX11_coming : ByteArray := prog_1_method_4_code
def yX11_coming : MethodName := ⟨RX11, "coming", "(I)I"⟩
abbrev cX11_joining : ByteArray := prog_1_method_5_code
def yX11_joining : MethodName := ⟨RX11, "joining", "(I)I"⟩
abbrev cX11_join : ByteArray := prog_1_method_6_code
def yX11_join : MethodName := ⟨RX11, "join", "(I)I"⟩
abbrev cX11_run : ByteArray := prog_1_method_7_code
def yX11_run : MethodName := ⟨RX11, "run", "(I)I"⟩
abbrev cX11_person : ByteArray := prog_1_method_8_code
def yX11_person : MethodName := ⟨RX11, "person", "(II)I"⟩
abbrev cX11_of : ByteArray := prog_1_method_9_code
def yX11_of : MethodName := ⟨RX11, "of", "(II)I"⟩
abbrev cX11_empty : ByteArray := prog_1_method_10_code
def yX11_empty : MethodName := ⟨RX11, "empty", "()I"⟩
abbrev cX11_write : ByteArray := prog_1_method_11_code
def yX11_write : MethodName := ⟨RX11, "write", "(JI)I"⟩
abbrev cX11_erase : ByteArray := prog_1_method_12_code
def yX11_erase : MethodName := ⟨RX11, "erase", "()I"⟩
abbrev cX11_fault : ByteArray := prog_1_method_13_code
def yX11_fault : MethodName := ⟨RX11, "fault", "()I"⟩
abbrev cX11_rules : ByteArray := prog_1_method_14_code
def yX11_rules : MethodName := ⟨RX11, "rules", "()I"⟩
abbrev cX11_rule : ByteArray := prog_1_method_15_code
def yX11_rule : MethodName := ⟨RX11, "rule", "(I)I"⟩
abbrev cX11_way : ByteArray := prog_1_method_16_code
def yX11_way : MethodName := ⟨RX11, "way", "(II)I"⟩
abbrev cX11_would : ByteArray := prog_1_method_17_code
def yX11_would : MethodName := ⟨RX11, "would", "(II)I"⟩
abbrev cX11_gain : ByteArray := prog_1_method_18_code
def yX11_gain : MethodName := ⟨RX11, "gain", "(II)I"⟩
abbrev cX11_best : ByteArray := prog_1_method_19_code
def yX11_best : MethodName := ⟨RX11, "best", "(II)I"⟩
abbrev cX11_rest : ByteArray := prog_1_method_20_code
def yX11_rest : MethodName := ⟨RX11, "rest", "(II)I"⟩
abbrev cX11_lot : ByteArray := prog_1_method_21_code
def yX11_lot : MethodName := ⟨RX11, "lot", "(IIIII)I"⟩
abbrev cX11_holder : ByteArray := prog_1_method_22_code
def yX11_holder : MethodName := ⟨RX11, "holder", "(II)I"⟩
abbrev cX11_swaps : ByteArray := prog_1_method_23_code
def yX11_swaps : MethodName := ⟨RX11, "swaps", "(I)I"⟩
abbrev cX11_rings : ByteArray := prog_1_method_24_code
def yX11_rings : MethodName := ⟨RX11, "rings", "()I"⟩
abbrev cX11_chain : ByteArray := prog_1_method_25_code
def yX11_chain : MethodName := ⟨RX11, "chain", "(II)I"⟩
abbrev cX11_mean : ByteArray := prog_1_method_26_code
def yX11_mean : MethodName := ⟨RX11, "mean", "(IIII)J"⟩
abbrev cX11_count : ByteArray := prog_1_method_27_code
def yX11_count : MethodName := ⟨RX11, "count", "(I)I"⟩
abbrev cX11_tryOut : ByteArray := prog_1_method_28_code
def yX11_tryOut : MethodName := ⟨RX11, "tryOut", "(ILThreeOffers$Rules;)V"⟩
abbrev cX11_within : ByteArray := prog_1_method_29_code
def yX11_within : MethodName := ⟨RX11, "within", "(III)Z"⟩
abbrev cX11_isSort : ByteArray := prog_1_method_30_code
def yX11_isSort : MethodName := ⟨RX11, "isSort", "(I)Z"⟩
abbrev cX11_isKind : ByteArray := prog_1_method_31_code
def yX11_isKind : MethodName := ⟨RX11, "isKind", "(I)Z"⟩
abbrev cX11_power : ByteArray := prog_1_method_32_code
def yX11_power : MethodName := ⟨RX11, "power", "(JI)J"⟩
abbrev cX11_lowest : ByteArray := prog_1_method_33_code
def yX11_lowest : MethodName := ⟨RX11, "lowest", "(JJI)J"⟩
abbrev cX11_commonDivisor : ByteArray := prog_1_method_34_code
def yX11_commonDivisor : MethodName := ⟨RX11, "commonDivisor", "(JJ)J"⟩
def RX12 : String := "ThreeOffersModel"
def TX12 : u_T := fun k => match k with
  | 0 => ("ThreeOffersModel", "worth", "[I", true)
  | 1 => ("ThreeOffersModel", "need", "[I", true)
  | 2 => ("ThreeOffersModel", "comings", "I", false)
  | 3 => ("ThreeOffersModel", "coming", "[I", true)
  | 4 => ("ThreeOffersModel", "joinings", "I", false)
  | 5 => ("ThreeOffersModel", "joining", "[I", true)
  | 6 => ("ThreeOffersModel", "now", "[I", true)
  | 7 => ("ThreeOffersModel", "kept", "[I", true)
  | 8 => ("ThreeOffersModel", "order", "[I", true)
  | 9 => ("ThreeOffersModel", "isOff", "[Z", true)
  | 10 => ("ThreeOffersModel", "bytes", "I", false)
  | 11 => ("ThreeOffersModel", "text", "[I", true)
  | 12 => ("ThreeOffersModel", "position", "I", false)
  | 13 => ("ThreeOffersModel", "tokenAt", "I", false)
  | 14 => ("ThreeOffersModel", "token", "J", false)
  | 15 => ("ThreeOffersModel", "digits", "I", false)
  | 16 => ("ThreeOffersModel", "number", "I", false)
  | 17 => ("ThreeOffersModel", "faultAt", "I", false)
  | 18 => ("ThreeOffersModel", "readMany", "I", false)
  | 19 => ("ThreeOffersModel", "read", "[I", true)
  | 20 => ("ThreeOffersModel", "rule", "[I", true)
  | 21 => ("ThreeOffersModel", "told", "[I", true)
  | 22 => ("ThreeOffersModel", "gains", "[I", true)
  | 23 => ("ThreeOffersModel", "row", "[I", true)
  | 24 => ("ThreeOffersModel", "left", "[I", true)
  | 25 => ("ThreeOffersModel", "holders", "I", false)
  | 26 => ("ThreeOffersModel", "holderSort", "[I", true)
  | 27 => ("ThreeOffersModel", "holderKind", "[I", true)
  | 28 => ("ThreeOffersModel", "pointsTo", "[I", true)
  | 29 => ("ThreeOffersModel", "gets", "[I", true)
  | 30 => ("ThreeOffersModel", "ringMany", "I", false)
  | _ => ("ThreeOffersModel", "longest", "[I", true)
def tyX12 : Nat → FieldType := fun k => match k with
  | 0 => .array .int
  | 1 => .array .int
  | 2 => .int
  | 3 => .array .int
  | 4 => .int
  | 5 => .array .int
  | 6 => .array .int
  | 7 => .array .int
  | 8 => .array .int
  | 9 => .array .boolean
  | 10 => .int
  | 11 => .array .int
  | 12 => .int
  | 13 => .int
  | 14 => .long
  | 15 => .int
  | 16 => .int
  | 17 => .int
  | 18 => .int
  | 19 => .array .int
  | 20 => .array .int
  | 21 => .array .int
  | 22 => .array .int
  | 23 => .array .int
  | 24 => .array .int
  | 25 => .int
  | 26 => .array .int
  | 27 => .array .int
  | 28 => .array .int
  | 29 => .array .int
  | 30 => .int
  | _ => .array .int
theorem nmX12 : ∀ a, a < 32 → ∀ b, b < 32 → a ≠ b → (TX12 a).2.1 ≠ (TX12 b).2.1 := by decide +kernel
theorem tyX12_ok : ∀ k, k < 32 → parseFieldDescriptor (TX12 k).2.2.1 = some (tyX12 k) := by decide +kernel
abbrev cX12_init : ByteArray := prog_14_method_1_code
def yX12_init : MethodName := ⟨RX12, "<init>", "()V"⟩
abbrev cX12_firstRules : ByteArray := prog_14_method_2_code
def yX12_firstRules : MethodName := ⟨RX12, "firstRules", "([I)V"⟩
abbrev cX12_in : ByteArray := prog_14_method_3_code
def yX12_in : MethodName := ⟨RX12, "in", "(III)Z"⟩
abbrev cX12_isFour : ByteArray := prog_14_method_4_code
def yX12_isFour : MethodName := ⟨RX12, "isFour", "(I)Z"⟩
abbrev cX12_worth : ByteArray := prog_14_method_5_code
def yX12_worth : MethodName := ⟨RX12, "worth", "(III)I"⟩
abbrev cX12_need : ByteArray := prog_14_method_6_code
def yX12_need : MethodName := ⟨RX12, "need", "(II)I"⟩
abbrev cX12_coming : ByteArray := prog_14_method_7_code
def yX12_coming : MethodName := ⟨RX12, "coming", "(I)I"⟩
abbrev cX12_joining : ByteArray := prog_14_method_8_code
def yX12_joining : MethodName := ⟨RX12, "joining", "(I)I"⟩
abbrev cX12_add : ByteArray := prog_14_method_9_code
def yX12_add : MethodName := ⟨RX12, "add", "(I)V"⟩
abbrev cX12_join : ByteArray := prog_14_method_10_code
def yX12_join : MethodName := ⟨RX12, "join", "(I)I"⟩
abbrev cX12_isAhead : ByteArray := prog_14_method_11_code
def yX12_isAhead : MethodName := ⟨RX12, "isAhead", "(II)Z"⟩
abbrev cX12_findOrder : ByteArray := prog_14_method_12_code
def yX12_findOrder : MethodName := ⟨RX12, "findOrder", "()V"⟩
abbrev cX12_doesTake : ByteArray := prog_14_method_13_code
def yX12_doesTake : MethodName := ⟨RX12, "doesTake", "(II)Z"⟩
abbrev cX12_offer : ByteArray := prog_14_method_14_code
def yX12_offer : MethodName := ⟨RX12, "offer", "(I)V"⟩
abbrev cX12_goWeek : ByteArray := prog_14_method_15_code
def yX12_goWeek : MethodName := ⟨RX12, "goWeek", "()V"⟩
abbrev cX12_run : ByteArray := prog_14_method_16_code
def yX12_run : MethodName := ⟨RX12, "run", "(I)I"⟩
abbrev cX12_person : ByteArray := prog_14_method_17_code
def yX12_person : MethodName := ⟨RX12, "person", "(II)I"⟩
abbrev cX12_of : ByteArray := prog_14_method_18_code
def yX12_of : MethodName := ⟨RX12, "of", "(II)I"⟩
abbrev cX12_empty : ByteArray := prog_14_method_19_code
def yX12_empty : MethodName := ⟨RX12, "empty", "()I"⟩
abbrev cX12_write : ByteArray := prog_14_method_20_code
def yX12_write : MethodName := ⟨RX12, "write", "(JI)I"⟩
abbrev cX12_erase : ByteArray := prog_14_method_21_code
def yX12_erase : MethodName := ⟨RX12, "erase", "()I"⟩
abbrev cX12_nextToken : ByteArray := prog_14_method_22_code
def yX12_nextToken : MethodName := ⟨RX12, "nextToken", "()V"⟩
abbrev cX12_fails : ByteArray := prog_14_method_23_code
def yX12_fails : MethodName := ⟨RX12, "fails", "()Z"⟩
abbrev cX12_isNumber : ByteArray := prog_14_method_24_code
def yX12_isNumber : MethodName := ⟨RX12, "isNumber", "(II)Z"⟩
abbrev cX12_isOf : ByteArray := prog_14_method_25_code
def yX12_isOf : MethodName := ⟨RX12, "isOf", "(IJJJ)Z"⟩
abbrev cX12_isWay : ByteArray := prog_14_method_26_code
def yX12_isWay : MethodName := ⟨RX12, "isWay", "()Z"⟩
abbrev cX12_isLine : ByteArray := prog_14_method_27_code
def yX12_isLine : MethodName := ⟨RX12, "isLine", "()Z"⟩
abbrev cX12_isRead : ByteArray := prog_14_method_28_code
def yX12_isRead : MethodName := ⟨RX12, "isRead", "()Z"⟩
abbrev cX12_fault : ByteArray := prog_14_method_29_code
def yX12_fault : MethodName := ⟨RX12, "fault", "()I"⟩
abbrev cX12_rules : ByteArray := prog_14_method_30_code
def yX12_rules : MethodName := ⟨RX12, "rules", "()I"⟩
abbrev cX12_rule : ByteArray := prog_14_method_31_code
def yX12_rule : MethodName := ⟨RX12, "rule", "(I)I"⟩
abbrev cX12_way : ByteArray := prog_14_method_32_code
def yX12_way : MethodName := ⟨RX12, "way", "(II)I"⟩
abbrev cX12_keepRules : ByteArray := prog_14_method_33_code
def yX12_keepRules : MethodName := ⟨RX12, "keepRules", "()V"⟩
abbrev cX12_layBackRules : ByteArray := prog_14_method_34_code
def yX12_layBackRules : MethodName := ⟨RX12, "layBackRules", "()V"⟩
abbrev cX12_goOn : ByteArray := prog_14_method_35_code
def yX12_goOn : MethodName := ⟨RX12, "goOn", "(I)V"⟩
abbrev cX12_layBack : ByteArray := prog_14_method_36_code
def yX12_layBack : MethodName := ⟨RX12, "layBack", "()V"⟩
abbrev cX12_more : ByteArray := prog_14_method_37_code
def yX12_more : MethodName := ⟨RX12, "more", "(I)I"⟩
abbrev cX12_would : ByteArray := prog_14_method_38_code
def yX12_would : MethodName := ⟨RX12, "would", "(II)I"⟩
abbrev cX12_gainOf : ByteArray := prog_14_method_39_code
def yX12_gainOf : MethodName := ⟨RX12, "gainOf", "(I)I"⟩
abbrev cX12_gain : ByteArray := prog_14_method_40_code
def yX12_gain : MethodName := ⟨RX12, "gain", "(II)I"⟩
abbrev cX12_best : ByteArray := prog_14_method_41_code
def yX12_best : MethodName := ⟨RX12, "best", "(II)I"⟩
abbrev cX12_findGains : ByteArray := prog_14_method_42_code
def yX12_findGains : MethodName := ⟨RX12, "findGains", "(I)V"⟩
abbrev cX12_isAtRest : ByteArray := prog_14_method_43_code
def yX12_isAtRest : MethodName := ⟨RX12, "isAtRest", "(I)Z"⟩
abbrev cX12_rest : ByteArray := prog_14_method_44_code
def yX12_rest : MethodName := ⟨RX12, "rest", "(II)I"⟩
abbrev cX12_divisor : ByteArray := prog_14_method_45_code
def yX12_divisor : MethodName := ⟨RX12, "divisor", "(JJ)J"⟩
abbrev cX12_part : ByteArray := prog_14_method_46_code
def yX12_part : MethodName := ⟨RX12, "part", "(JJI)I"⟩
abbrev cX12_lotOf : ByteArray := prog_14_method_47_code
def yX12_lotOf : MethodName := ⟨RX12, "lotOf", "(III)I"⟩
abbrev cX12_lot : ByteArray := prog_14_method_48_code
def yX12_lot : MethodName := ⟨RX12, "lot", "(IIIII)I"⟩
abbrev cX12_holder : ByteArray := prog_14_method_49_code
def yX12_holder : MethodName := ⟨RX12, "holder", "(II)I"⟩
abbrev cX12_worthTo : ByteArray := prog_14_method_50_code
def yX12_worthTo : MethodName := ⟨RX12, "worthTo", "(II)I"⟩
abbrev cX12_swapAll : ByteArray := prog_14_method_51_code
def yX12_swapAll : MethodName := ⟨RX12, "swapAll", "()V"⟩
abbrev cX12_swaps : ByteArray := prog_14_method_52_code
def yX12_swaps : MethodName := ⟨RX12, "swaps", "(I)I"⟩
abbrev cX12_rings : ByteArray := prog_14_method_53_code
def yX12_rings : MethodName := ⟨RX12, "rings", "()I"⟩
abbrev cX12_wouldGo : ByteArray := prog_14_method_54_code
def yX12_wouldGo : MethodName := ⟨RX12, "wouldGo", "(II)Z"⟩
abbrev cX12_chain : ByteArray := prog_14_method_55_code
def yX12_chain : MethodName := ⟨RX12, "chain", "(II)I"⟩
abbrev cX12_mean : ByteArray := prog_14_method_56_code
def yX12_mean : MethodName := ⟨RX12, "mean", "(IIII)J"⟩
abbrev cX12_count : ByteArray := prog_14_method_57_code
def yX12_count : MethodName := ⟨RX12, "count", "(I)I"⟩
def RJ6 : String := "java/lang/Integer"
abbrev cJ6_numberOfTrailingZeros_0f7a4 : ByteArray := prog_15_method_48_code
def yJ6_numberOfTrailingZeros_0f7a4 : MethodName := ⟨RJ6, "numberOfTrailingZeros", "(I)I"⟩
def RJ9 : String := "java/lang/Math"
abbrev cJ9_min_7cf53 : ByteArray := prog_16_method_69_code
def yJ9_min_7cf53 : MethodName := ⟨RJ9, "min", "(II)I"⟩
def RJ0 : String := "java/lang/String"
abbrev cJ0_length_8abf5 : ByteArray := prog_17_method_54_code
def yJ0_length_8abf5 : MethodName := ⟨RJ0, "length", "()I"⟩
abbrev cJ0_charAt_5068e : ByteArray := prog_17_method_56_code
def yJ0_charAt_5068e : MethodName := ⟨RJ0, "charAt", "(I)C"⟩
abbrev cJ0_coder_7d493 : ByteArray := prog_17_method_152_code
def yJ0_coder_7d493 : MethodName := ⟨RJ0, "coder", "()B"⟩
abbrev cJ0_isLatin1_aae02 : ByteArray := prog_17_method_154_code
def yJ0_isLatin1_aae02 : MethodName := ⟨RJ0, "isLatin1", "()Z"⟩
abbrev cJ0_checkIndex_df160 : ByteArray := prog_17_method_155_code
def yJ0_checkIndex_df160 : MethodName := ⟨RJ0, "checkIndex", "(II)V"⟩
def RJ1 : String := "java/lang/StringLatin1"
abbrev cJ1_charAt_3b067 : ByteArray := prog_18_method_2_code
def yJ1_charAt_3b067 : MethodName := ⟨RJ1, "charAt", "([BI)C"⟩
def RJ2 : String := "java/lang/StringUTF16"
abbrev cJ2_getChar_3b067 : ByteArray := prog_19_method_5_code
def yJ2_getChar_3b067 : MethodName := ⟨RJ2, "getChar", "([BI)C"⟩
abbrev cJ2_length_9d52b : ByteArray := prog_19_method_6_code
def yJ2_length_9d52b : MethodName := ⟨RJ2, "length", "([B)I"⟩
abbrev cJ2_charAt_3b067 : ByteArray := prog_19_method_83_code
def yJ2_charAt_3b067 : MethodName := ⟨RJ2, "charAt", "([BI)C"⟩
abbrev cJ2_checkIndex_2214a : ByteArray := prog_19_method_91_code
def yJ2_checkIndex_2214a : MethodName := ⟨RJ2, "checkIndex", "(I[B)V"⟩
def RJ10 : String := "java/lang/System"
def RJ7 : String := "java/util/Arrays"
abbrev cJ7_fill_53178 : ByteArray := prog_21_method_103_code
def yJ7_fill_53178 : MethodName := ⟨RJ7, "fill", "([II)V"⟩
def RJ3 : String := "jdk/internal/util/Preconditions"
abbrev cJ3_checkIndex_8e157 : ByteArray := prog_22_method_11_code
def yJ3_checkIndex_8e157 : MethodName := ⟨RJ3, "checkIndex", "(IILjava/util/function/BiFunction;)I"⟩
def RL : String := "ThreeOffersLaw"
abbrev cL_law : ByteArray := code
def yL_law : MethodName := ⟨RL, "law", "([I)Z"⟩
abbrev vwCl : List vw_C := [(RX0, TX0, 4), (RX1, TX1, 7), (RX2, TX2, 4), (RX3, TX3, 4), (RX4, TX4, 5), (RX5, TX5, 6), (RX6, TX6, 2), (RX7, TX7, 7), (RX8, TX8, 3), (RX9, TX9, 6), (RX10, TX10, 4), (RX11, TX11, 11), (RX12, TX12, 32)]
end
section
-- the state of the whole system, in numbers: what a heap of the machine says
def lw_all : List Cond := lw_tbl.filter goodWord
theorem lw_all_in {w : Cond} {k : Nat} (h : lw_tbl[k]? = some w) (hg : goodWord w = true) : w ∈ lw_all := List.mem_filter.mpr ⟨List.mem_of_getElem? h, hg⟩
theorem lw_all_good (y : Cond) (hy : y ∈ lw_all) : GoodIn (y :: lw_all) (y :: lw_all) := fun w hw => ⟨hw, good_of_word (List.mem_filter.mp ((List.mem_cons.mp hw).elim (fun e => e ▸ hy) id)).2⟩
def ab_shl : List (Nat × Nat) := [(11, 11), (10, 4), (23, 4), (20, 4), (20, 4), (20, 4), (20, 4), (20, 4), (6, 2), (20, 24), (6, 2), (20, 24), (7, 7), (20, 4), (20, 4), (20, 4), (7, 7), (20, 4), (20, 4), (20, 4), (9, 6), (21, 160), (1, 7), (24, 12), (23, 6), (20, 4), (20, 4), (20, 4), (20, 4), (20, 4), (20, 4), (4, 5), (4, 5), (4, 5), (4, 5), (4, 5), (4, 5), (4, 5), (4, 5), (4, 5), (4, 5), (4, 5), (4, 5), (1, 7), (24, 12), (23, 6), (20, 4), (20, 4), (20, 4), (20, 4), (20, 4), (20, 4), (4, 5), (4, 5), (4, 5), (4, 5), (4, 5), (4, 5), (4, 5), (4, 5), (4, 5), (4, 5), (4, 5), (4, 5), (5, 6), (20, 2500), (23, 4), (20, 5), (20, 5), (20, 5), (20, 5), (20, 625), (3, 4), (20, 6), (20, 4), (2, 4), (20, 8), (20, 8), (8, 3), (20, 8), (0, 4), (20, 8), (20, 8), (12, 32), (20, 16), (20, 4), (20, 24), (20, 24), (20, 88), (20, 88), (20, 12), (22, 12), (20, 160), (20, 16), (20, 16), (20, 16), (20, 2500), (20, 6), (20, 4), (20, 8), (20, 8), (20, 8), (20, 8), (20, 2048)]
def ab_sh (i : Nat) : Nat × Nat := ab_shl.getD (i - 1) (0, 0)
def ab_ty (k : Nat) : Nat → FieldType := match k with
  | 0 => tyX0
  | 1 => tyX1
  | 2 => tyX2
  | 3 => tyX3
  | 4 => tyX4
  | 5 => tyX5
  | 6 => tyX6
  | 7 => tyX7
  | 8 => tyX8
  | 9 => tyX9
  | 10 => tyX10
  | 11 => tyX11
  | 12 => tyX12
  | _ => fun _ => .int
def ab_six (i : Nat) : Nat := [46, 48, 50, 52, 60, 68, 70, 71, 73, 77, 81, 86, 88, 90, 40].getD i 0
def ab_stx (i : Nat) : String := ["order", "time", "need", "points", "noes", "then", "end", "back", "stay", "grow", "way", "any", "bar", "fall", ";"].getD i ""
def ab_len : List Nat := [5, 4, 4, 6, 4, 4, 3, 4, 4, 4, 3, 3, 3, 4, 1]
def ab_byt : List (List Int32) := [[111, 114, 100, 101, 114], [116, 105, 109, 101], [110, 101, 101, 100], [112, 111, 105, 110, 116, 115], [110, 111, 101, 115], [116, 104, 101, 110], [101, 110, 100], [98, 97, 99, 107], [115, 116, 97, 121], [103, 114, 111, 119], [119, 97, 121], [97, 110, 121], [98, 97, 114], [102, 97, 108, 108], [59]]
abbrev ab_V : Type := Int ⊕ (Int ⊕ Nat)
abbrev ab_i (z : Int) : ab_V := Sum.inl z
abbrev ab_l (z : Int) : ab_V := Sum.inr (Sum.inl z)
abbrev ab_r (i : Nat) : ab_V := Sum.inr (Sum.inr i)
-- launch; class ids; slots; array class ids; the last old address; addresses of old cells; the script's length and values
abbrev ab_G : Type := Launch × (Nat → ClassId) × (Nat → Nat → Nat) × (Nat → ClassId) × Nat × (Nat → Nat) × Nat × (Nat → Int32)
abbrev ab_B (G : ab_G) : Nat := G.2.2.2.2.1
abbrev ab_ax (G : ab_G) : Nat → Nat := G.2.2.2.2.2.1
abbrev ab_cT (G : ab_G) : Nat → ClassId := G.2.2.2.1
abbrev ab_L (G : ab_G) : Nat := G.2.2.2.2.2.2.1
abbrev ab_xs (G : ab_G) : Nat → Int32 := G.2.2.2.2.2.2.2
-- how many cells are made; what ints and longs they hold; what references
abbrev ab_H : Type := Nat × (Nat → Nat → Int) × (Nat → Nat → Nat)
abbrev ab_Y : Type := MethodName × ByteArray × Nat × Option FieldType
def ab_ad (G : ab_G) (i : Nat) : Nat := if i < 1000 then ab_B G + i else ab_ax G i
def ab_rv (G : ab_G) (r : Nat) : Value := if r = 0 then .null else .ref (ab_ad G r)
def ab_c (G : ab_G) : ab_V → Value
  | .inl z => .int (Int32.ofInt z)
  | .inr (.inl z) => .long (Int64.ofInt z)
  | .inr (.inr r) => ab_rv G r
def ab_sv (G : ab_G) (t : Nat) (x : Int) (r : Nat) : Value := match t with
  | 0 => .int (Int32.ofInt x)
  | 1 => ab_rv G r
  | _ => .long (Int64.ofInt x)
def ab_tag (t : FieldType) : Nat := match t with
  | .long => 2
  | .object _ => 1
  | .array _ => 1
  | _ => 0
def ab_et (k : Nat) : FieldType := match k with
  | 20 => .int
  | 21 => .char
  | 22 => .boolean
  | 23 => .array .int
  | _ => .object "ThreeOffers$Person"
def ab_u (I : Nat → Nat → Int) (i j : Nat) (v : Int) : Nat → Nat → Int := fun a b => if a = i ∧ b = j then v else I a b
def ab_w (R : Nat → Nat → Nat) (i j : Nat) (v : Nat) : Nat → Nat → Nat := fun a b => if a = i ∧ b = j then v else R a b
def ab_cell (G : ab_G) (I : Nat → Nat → Int) (R : Nat → Nat → Nat) (i : Nat) (H : Heap) : Prop :=
  if (ab_sh i).1 < 20 then ∃ q : vw_C, vwCl[(ab_sh i).1]? = some q ∧ t_OB (ab_ad G i) (G.2.1 (ab_sh i).1) q.2.2 (G.2.2.1 (ab_sh i).1) H (fun j => ab_sv G (ab_tag (ab_ty (ab_sh i).1 j)) (I i j) (R i j))
  else H[ab_ad G i]? = some (arrV (ab_cT G (ab_sh i).1) (ab_sh i).2 (fun j => ab_sv G (ab_tag (ab_et (ab_sh i).1)) (I i j) (R i j)))
def ab_Rep (G : ab_G) (h : ab_H) (H : Heap) : Prop := h.1 < 1000 ∧ H.size = ab_B G + h.1 + 1 ∧ ∀ i, 1 ≤ i → i ≤ h.1 → ab_cell G h.2.1 h.2.2 i H
def ab_A (G : ab_G) : Nat → Prop := fun q => ab_B G < q
def ab_tys (G : ab_G) : List (ClassId × FieldType) := [(ab_cT G 20, .int), (ab_cT G 21, .char), (ab_cT G 22, .boolean), (ab_cT G 23, .array .int), (ab_cT G 24, .object "ThreeOffers$Person")]
def ab_fig (j : Nat) : Int := [1, 5, 25, 125].getD j 0
def ab_fac (j : Nat) : Int := [1, 1, 2, 6, 24, 120, 720].getD j 0
def ab_St (G : ab_G) (U : State) (H : Heap) : Prop :=
  va_Z "ThreeOffers" "FIGURES" "[I" (.ref (ab_ax G 1000)) (ab_A G) U H ∧ va_T .int (ab_ax G 1000) 4 (fun j => .int (Int32.ofInt (ab_fig j))) (ab_A G) U H ∧
  va_Z "ThreeOffers" "FACTORIALS" "[I" (.ref (ab_ax G 1001)) (ab_A G) U H ∧ va_T .int (ab_ax G 1001) 7 (fun j => .int (Int32.ofInt (ab_fac j))) (ab_A G) U H ∧
  vk_S 15 ab_len ab_byt (fun i => ab_ax G (1100 + i)) (fun i => ab_ax G (1200 + i)) (ab_A G) U H ∧
  va_Z "java/lang/String" "COMPACT_STRINGS" "Z" (.int 1) (ab_A G) U H ∧
  (va_X (ab_ax G 1002) (ab_L G) (ab_xs G) U H ∧ ab_ax G 1002 ≤ ab_B G)
def ab_Gl (G : ab_G) (U : State) : Prop :=
  va_K (G.2.1, G.2.2.1) vwCl (ab_tys G) U ∧ ab_St G U U.heap ∧ (∀ i, i < 15 → vk_R "ThreeOffers$Text" (ab_six i) (ab_stx i) (ab_ax G (1100 + i)) U) ∧ ab_B G < U.heap.size
theorem ab_St.moved {G : ab_G} {s U : State} {H : Heap} (hal : s.vm.Alike U.vm) (h : ab_St G s H) : ab_St G U H :=
  ⟨h.1.moved hal, h.2.1.moved hal, h.2.2.1.moved hal, h.2.2.2.1.moved hal, h.2.2.2.2.1.moved hal, h.2.2.2.2.2.1.moved hal, h.2.2.2.2.2.2.1.moved hal, h.2.2.2.2.2.2.2⟩
theorem ab_St.kept {G : ab_G} {U : State} {H H1 : Heap} (hq : ∀ q : Nat, q ≤ ab_B G → H1[q]? = H[q]?) (h : ab_St G U H) : ab_St G U H1 := by
  have hq' : ∀ a : Nat, a < H.size → ¬ ab_A G a → H1[a]? = H[a]? := fun a _ ha => hq a (Nat.not_lt.mp ha)
  exact ⟨h.1.kept hq', h.2.1.kept hq', h.2.2.1.kept hq', h.2.2.2.1.kept hq', h.2.2.2.2.1.kept hq', h.2.2.2.2.2.1.kept hq', h.2.2.2.2.2.2.1.kept (hq _ h.2.2.2.2.2.2.2), h.2.2.2.2.2.2.2⟩
theorem ab_Gl.warm {G : ab_G} {s U : State} (hW : s.WarmedH U.vm) (hq : ∀ q : Nat, q ≤ ab_B G → U.heap[q]? = s.heap[q]?) (hb : ab_B G < U.heap.size) (h : ab_Gl G s) : ab_Gl G U :=
  ⟨h.1.moved hW.alike, (h.2.1.moved hW.alike).kept hq, fun i hi => (h.2.2.1 i hi).warm hW, hb⟩
theorem ab_Gl.same {G : ab_G} {s U : State} (hv : U.vm = s.vm) (hh : U.heap = s.heap) (h : ab_Gl G s) : ab_Gl G U := by
  refine ⟨h.1.moved (hv ▸ Vm.Alike.refl _), ?_, fun i hi => (h.2.2.1 i hi).same hv, by rw [hh]; exact h.2.2.2⟩
  rw [hh]
  exact h.2.1.moved (hv ▸ Vm.Alike.refl _)
-- locals
def ab_lo (G : ab_G) : Nat → List (Option ab_V) → List (Nat × Value)
  | _, [] => []
  | k, none :: t => ab_lo G (k + 1) t
  | k, some v :: t => (k, ab_c G v) :: ab_lo G (k + 1) t
theorem ab_lo_at {G : ab_G} : ∀ {ls : List (Option ab_V)} {k j : Nat} {v : ab_V}, ls[j]? = some (some v) → (k + j, ab_c G v) ∈ ab_lo G k ls
  | [], k, j, v, h => by simp at h
  | none :: t, k, 0, v, h => by simp at h
  | some w :: t, k, 0, v, h => by
    simp at h
    subst h
    exact List.mem_cons_self
  | none :: t, k, j + 1, v, h => by
    have := ab_lo_at (G := G) (ls := t) (k := k + 1) (j := j) (v := v) (by simpa using h)
    rw [show k + (j + 1) = k + 1 + j by omega]
    exact this
  | some w :: t, k, j + 1, v, h => by
    have := ab_lo_at (G := G) (ls := t) (k := k + 1) (j := j) (v := v) (by simpa using h)
    rw [show k + (j + 1) = k + 1 + j by omega]
    exact List.mem_cons_of_mem _ this
theorem ab_lo_of {G : ab_G} : ∀ {ls : List (Option ab_V)} {k : Nat} {q : Nat × Value}, q ∈ ab_lo G k ls → ∃ (j : Nat) (v : ab_V), ls[j]? = some (some v) ∧ q = (k + j, ab_c G v)
  | [], k, q, h => by simp [ab_lo] at h
  | none :: t, k, q, h => by
    obtain ⟨j, v, h1, h2⟩ := ab_lo_of (ls := t) (k := k + 1) h
    exact ⟨j + 1, v, by simpa using h1, by rw [h2]; congr 1; omega⟩
  | some w :: t, k, q, h => by
    rcases List.mem_cons.mp h with h | h
    · exact ⟨0, w, rfl, h⟩
    · obtain ⟨j, v, h1, h2⟩ := ab_lo_of (ls := t) (k := k + 1) h
      exact ⟨j + 1, v, by simpa using h1, by rw [h2]; congr 1; omega⟩
def ab_isl : Option ab_V → Bool
  | some (.inr (.inl _)) => true
  | _ => false
def ab_clr (ls : List (Option ab_V)) (i : Nat) : List (Option ab_V) := match i with
  | 0 => ls
  | i + 1 => match ls[i]? with
    | some (some (.inr (.inl _))) => ls.set i none
    | _ => ls
def ab_st1 (ls : List (Option ab_V)) (i : Nat) (v : ab_V) : List (Option ab_V) := (ab_clr ls i).set i (some v)
def ab_st2 (ls : List (Option ab_V)) (i : Nat) (v : ab_V) : List (Option ab_V) := ((ab_clr ls i).set i (some v)).set (i + 1) none
theorem ab_clr_at {ls : List (Option ab_V)} {i j : Nat} {v : ab_V} (h : (ab_clr ls i)[j]? = some (some v)) : ls[j]? = some (some v) ∧ ¬ (j + 1 = i ∧ ab_isl (some v) = true) := by
  cases i with
  | zero => exact ⟨h, by omega⟩
  | succ i =>
    unfold ab_clr at h
    simp only at h
    split at h
    · rename_i w hw
      by_cases hij : i = j
      · subst hij
        rw [List.getElem?_set_self (List.getElem?_eq_some_iff.mp hw).1] at h
        simp at h
      · rw [List.getElem?_set_ne hij] at h
        exact ⟨h, by omega⟩
    · rename_i hne
      refine ⟨h, fun ⟨h1, h2⟩ => ?_⟩
      have h1 : j = i := by omega
      subst h1
      match v, h2 with
      | .inr (.inl z), _ => exact hne z h
theorem ab_cat (G : ab_G) (v : ab_V) : (ab_c G v).category = if ab_isl (some v) = true then 2 else 1 := by
  match v with
  | .inl z => rfl
  | .inr (.inl z) => rfl
  | .inr (.inr r) =>
    show (ab_rv G r).category = _
    unfold ab_rv
    split <;> rfl
theorem ab_has1 {G : ab_G} {ls : List (Option ab_V)} {nL i : Nat} {v : ab_V} {l' : Array Slot} (h : lv_has l' nL ((i, ab_c G v) :: (ab_lo G 0 ls).filter (fun q => !(q.1 == i) && !(q.1 + 1 == i && q.2.category == 2)))) : lv_has l' nL (ab_lo G 0 (ab_st1 ls i v)) := by
  refine ⟨h.1, h.2.1, fun q hq => ?_⟩
  obtain ⟨j, w, hj, rfl⟩ := ab_lo_of hq
  apply h.2.2
  unfold ab_st1 at hj
  by_cases hij : i = j
  · subst hij
    have hl := (List.getElem?_eq_some_iff.mp hj).1
    rw [List.length_set] at hl
    rw [List.getElem?_set_self hl] at hj
    cases hj
    rw [Nat.zero_add]
    exact List.mem_cons_self
  · rw [List.getElem?_set_ne hij] at hj
    obtain ⟨h1, h2⟩ := ab_clr_at hj
    refine List.mem_cons_of_mem _ (List.mem_filter.mpr ⟨ab_lo_at h1, ?_⟩)
    have hc := ab_cat G w
    simp only [Nat.zero_add, Bool.and_eq_true, Bool.not_eq_true', beq_eq_false_iff_ne, ne_eq, Bool.and_eq_false_iff]
    refine ⟨fun e => hij e.symm, ?_⟩
    by_cases e : j + 1 = i
    · right
      intro e2
      rw [hc] at e2
      split at e2
      · rename_i e3; exact h2 ⟨e, e3⟩
      · cases e2
    · left; exact e
theorem ab_has2 {G : ab_G} {ls : List (Option ab_V)} {nL i : Nat} {v : ab_V} {l' : Array Slot} (h : lv_has l' nL ((i, ab_c G v) :: (ab_lo G 0 ls).filter (fun q => !(q.1 == i) && (!(q.1 == i + 1) && !(q.1 + 1 == i && q.2.category == 2))))) : lv_has l' nL (ab_lo G 0 (ab_st2 ls i v)) := by
  refine ⟨h.1, h.2.1, fun q hq => ?_⟩
  obtain ⟨j, w, hj, rfl⟩ := ab_lo_of hq
  apply h.2.2
  unfold ab_st2 at hj
  by_cases hij1 : i + 1 = j
  · subst hij1
    have hl := (List.getElem?_eq_some_iff.mp hj).1
    rw [List.length_set] at hl
    rw [List.getElem?_set_self hl] at hj
    cases hj
  · rw [List.getElem?_set_ne hij1] at hj
    by_cases hij : i = j
    · subst hij
      have hl := (List.getElem?_eq_some_iff.mp hj).1
      rw [List.length_set] at hl
      rw [List.getElem?_set_self hl] at hj
      cases hj
      rw [Nat.zero_add]
      exact List.mem_cons_self
    · rw [List.getElem?_set_ne hij] at hj
      obtain ⟨h1, h2⟩ := ab_clr_at hj
      refine List.mem_cons_of_mem _ (List.mem_filter.mpr ⟨ab_lo_at h1, ?_⟩)
      have hc := ab_cat G w
      simp only [Nat.zero_add, Bool.and_eq_true, Bool.not_eq_true', beq_eq_false_iff_ne, ne_eq, Bool.and_eq_false_iff]
      refine ⟨fun e => hij e.symm, fun e => hij1 e.symm, ?_⟩
      by_cases e : j + 1 = i
      · right
        intro e2
        rw [hc] at e2
        split at e2
        · rename_i e3; exact h2 ⟨e, e3⟩
        · cases e2
      · left; exact e
theorem ab_has_ld {G : ab_G} {ls : List (Option ab_V)} {nL i : Nat} {v : ab_V} {l' : Array Slot} (h : lv_has l' nL (ab_lo G 0 ls)) (hi : ls[i]? = some (some v)) : l'[i]? = some (.val (ab_c G v)) := by
  have := h.2.2 _ (ab_lo_at (G := G) (k := 0) hi)
  rwa [Nat.zero_add] at this
-- fewer known locals
def ab_le : List (Option ab_V) → List (Option ab_V) → Prop := fun a b => ∀ (j : Nat) (v : ab_V), a[j]? = some (some v) → b[j]? = some (some v)
theorem ab_has_le {G : ab_G} {a b : List (Option ab_V)} {nL : Nat} {l' : Array Slot} (h : lv_has l' nL (ab_lo G 0 b)) (hab : ab_le a b) : lv_has l' nL (ab_lo G 0 a) := by
  refine ⟨h.1, h.2.1, fun q hq => ?_⟩
  obtain ⟨j, w, hj, rfl⟩ := ab_lo_of hq
  exact h.2.2 _ (ab_lo_at (hab j w hj))
-- the locals at a method's entry
def ab_en : List ab_V → List (Option ab_V)
  | [] => []
  | .inr (.inl z) :: t => some (.inr (.inl z)) :: none :: ab_en t
  | v :: t => some v :: ab_en t
theorem ab_en_args (G : ab_G) : ∀ (as : List ab_V) (k : Nat), lv_args k (as.map (ab_c G)) = ab_lo G k (ab_en as)
  | [], k => rfl
  | .inl z :: t, k => by
    show (k, _) :: lv_args (k + 1) _ = _
    rw [ab_en_args G t (k + 1)]; rfl
  | .inr (.inl z) :: t, k => by
    show (k, _) :: lv_args (k + 2) _ = _
    rw [ab_en_args G t (k + 2)]; rfl
  | .inr (.inr r) :: t, k => by
    have hc : ¬ (ab_c G (.inr (.inr r))).category = 2 := by rw [ab_cat, if_neg (by simp [ab_isl])]; decide
    show (k, _) :: lv_args (if (ab_c G (.inr (.inr r))).category = 2 then k + 2 else k + 1) _ = _
    rw [if_neg hc, ab_en_args G t (k + 1)]; rfl
theorem ab_en_len (G : ab_G) : ∀ (as : List ab_V), (lg_sl (as.map (ab_c G))).length = (ab_en as).length
  | [] => rfl
  | .inl z :: t => by
    have := ab_en_len G t
    simp [lg_sl, ab_en, ab_c, Value.category] at this ⊢
    omega
  | .inr (.inl z) :: t => by
    have := ab_en_len G t
    simp [lg_sl, ab_en, ab_c, Value.category] at this ⊢
    omega
  | .inr (.inr r) :: t => by
    have := ab_en_len G t
    have hc : ¬ (ab_rv G r).category = 2 := by unfold ab_rv; split <;> simp [Value.category]
    simp [lg_sl, ab_en, ab_c, hc] at this ⊢
    omega
theorem ab_lo_pad (G : ab_G) (ls : List (Option ab_V)) (n : Nat) {l' : Array Slot} {nL : Nat} (h : lv_has l' nL (ab_lo G 0 ls)) : lv_has l' nL (ab_lo G 0 (ls ++ List.replicate n none)) := by
  refine ab_has_le h (fun j v hj => ?_)
  by_cases hl : j < ls.length
  · rw [List.getElem?_append_left hl] at hj; exact hj
  · rw [List.getElem?_append_right (by omega)] at hj
    have := List.mem_of_getElem? hj
    have := (List.mem_replicate.mp this).2
    cases this
end
section
def ab_rm (d mc ms : Nat) : Room := { frames := d, cells := mc, slots := ms, locals := 64 * d }
def ab_Cx (G : ab_G) (Y : ab_Y) (p : Program) (s : State) (m : MethodId) (args : Array Value) (meth : Method) (c : Code) : Prop :=
  p.tables.exec = Jvm.exec ∧ c.code = Y.2.1 ∧ meth.sig.returnType = Y.2.2.2 ∧ c.maxLocals = Y.2.2.1 ∧ s.vm.findClass Y.1.cls = some m.cls ∧ (∀ w ∈ lw_all, w.before args s = true) ∧ meth.locks = false ∧ meth.name = Y.1.name ∧ ab_Gl G s
abbrev ab_Zt : Type := List Frame → Array Value → State → State → Prop
/-- from this point of the method Y, with the heap h, the locals ls and the stack st, the machine comes to Z -/
def aW (G : ab_G) (Y : ab_Y) (R : Room) (Z : ab_Zt) (kc ks : Nat) (h : ab_H) (pc : Nat) (ls : List (Option ab_V)) (st : List ab_V) : Prop :=
  ∀ (p : Program) (e : Env) (s : State) (m : MethodId) (args : Array Value) (below : List Frame) (meth : Method) (c : Code), ab_Cx G Y p s m args meth c → ∀ (H : Heap) (locs : List Loc) (lsr : Array Slot), ab_Rep G h H → (∀ q : Nat, q ≤ ab_B G → H[q]? = s.heap[q]?) → (∀ q ∈ locs, ab_B G < q.base) → lv_has lsr Y.2.2.1 (ab_lo G 0 ls) → W p G.1 e R s m args below meth c H locs kc ks (Z below args s) (F0 m pc lsr (st.map (ab_c G)))
def ab_In (z : Int) : Prop := -2147483648 ≤ z ∧ z < 2147483648
def ab_Il (z : Int) : Prop := -9223372036854775808 ≤ z ∧ z < 9223372036854775808
theorem ab_to {z : Int} (h : ab_In z) : (Int32.ofInt z).toInt = z := Int32.toInt_ofInt_of_le h.1 h.2
theorem ab_tol {z : Int} (h : ab_Il z) : (Int64.ofInt z).toInt = z := Int64.toInt_ofInt_of_le h.1 h.2
theorem ab_eqi {x y : Int} (hx : ab_In x) (hy : ab_In y) : Int32.ofInt x = Int32.ofInt y ↔ x = y := by rw [← Int32.toInt_inj, ab_to hx, ab_to hy]
theorem ab_lti {x y : Int} (hx : ab_In x) (hy : ab_In y) : Int32.ofInt x < Int32.ofInt y ↔ x < y := by rw [Int32.lt_iff_toInt_lt, ab_to hx, ab_to hy]
theorem ab_lei {x y : Int} (hx : ab_In x) (hy : ab_In y) : Int32.ofInt x ≤ Int32.ofInt y ↔ x ≤ y := by rw [Int32.le_iff_toInt_le, ab_to hx, ab_to hy]
theorem ab_eql {x y : Int} (hx : ab_Il x) (hy : ab_Il y) : Int64.ofInt x = Int64.ofInt y ↔ x = y := by rw [← Int64.toInt_inj, ab_tol hx, ab_tol hy]
theorem ab_ltl {x y : Int} (hx : ab_Il x) (hy : ab_Il y) : Int64.ofInt x < Int64.ofInt y ↔ x < y := by rw [Int64.lt_iff_toInt_lt, ab_tol hx, ab_tol hy]
theorem ab_in0 : ab_In 0 := by unfold ab_In; omega
def ab_and (x y : Int) : Int := (Int32.ofInt x &&& Int32.ofInt y).toInt
def ab_or (x y : Int) : Int := (Int32.ofInt x ||| Int32.ofInt y).toInt
def ab_xor (x y : Int) : Int := (Int32.ofInt x ^^^ Int32.ofInt y).toInt
def ab_sl (x y : Int) : Int := (Int32.ofInt x <<< (Int32.ofInt y &&& 31)).toInt
def ab_sr (x y : Int) : Int := (Int32.ofInt x >>> (Int32.ofInt y &&& 31)).toInt
def ab_usr (x y : Int) : Int := ((Int32.ofInt x).toUInt32 >>> ((Int32.ofInt y).toUInt32 &&& Int32.toUInt32 31)).toInt32.toInt
def ab_div (x y : Int) : Int := (Int32.ofInt x / Int32.ofInt y).toInt
def ab_rem (x y : Int) : Int := (Int32.ofInt x - Int32.ofInt x / Int32.ofInt y * Int32.ofInt y).toInt
def ab_landL (x y : Int) : Int := (Int64.ofInt x &&& Int64.ofInt y).toInt
def ab_lorL (x y : Int) : Int := (Int64.ofInt x ||| Int64.ofInt y).toInt
def ab_ldivL (x y : Int) : Int := (Int64.ofInt x / Int64.ofInt y).toInt
def ab_lremL (x y : Int) : Int := (Int64.ofInt x - Int64.ofInt x / Int64.ofInt y * Int64.ofInt y).toInt
def ab_lshlL (x y : Int) : Int := (Int64.ofInt x <<< ((Int32.ofInt y).toInt64 &&& 63)).toInt
def ab_lshrL (x y : Int) : Int := (Int64.ofInt x >>> ((Int32.ofInt y).toInt64 &&& 63)).toInt
def ab_i2c (x : Int) : Int := ((Int32.ofInt x).toUInt32 % 65536).toInt32.toInt
def ab_i2l (x : Int) : Int := (Int32.ofInt x).toInt64.toInt
def ab_l2i (x : Int) : Int := (Int64.ofInt x).toInt32.toInt
def ab_lcmp (x y : Int) : Int := (lg_cmp (Int64.ofInt x) (Int64.ofInt y)).toInt
section AR
variable {G : ab_G} {Y : ab_Y} {R : Room} {Z : ab_Zt} {kc ks : Nat} {h : ab_H} {pc : Nat} {ls : List (Option ab_V)} {st : List ab_V}
theorem aw_iadd {x y : Int} (hd : decode Y.2.1 pc = .ok (.iadd, 1)) (k : aW G Y R Z kc ks h (pc + 1) ls (ab_i (x + y) :: st)) : aW G Y R Z kc ks h pc ls (ab_i y :: ab_i x :: st) := by
  intro p e s m args below meth c C H locs lsr hR hO hL hl
  refine lv_iadd C.1 C.2.1 hd ?_
  rw [← Int32.ofInt_add]
  exact k p e s m args below meth c C H locs lsr hR hO hL hl
theorem aw_isub {x y : Int} (hd : decode Y.2.1 pc = .ok (.isub, 1)) (k : aW G Y R Z kc ks h (pc + 1) ls (ab_i (x - y) :: st)) : aW G Y R Z kc ks h pc ls (ab_i y :: ab_i x :: st) := by
  intro p e s m args below meth c C H locs lsr hR hO hL hl
  refine lv_isub C.1 C.2.1 hd ?_
  rw [← Int32.ofInt_sub]
  exact k p e s m args below meth c C H locs lsr hR hO hL hl
theorem aw_imul {x y : Int} (hd : decode Y.2.1 pc = .ok (.imul, 1)) (k : aW G Y R Z kc ks h (pc + 1) ls (ab_i (x * y) :: st)) : aW G Y R Z kc ks h pc ls (ab_i y :: ab_i x :: st) := by
  intro p e s m args below meth c C H locs lsr hR hO hL hl
  refine lv_imul C.1 C.2.1 hd ?_
  rw [← Int32.ofInt_mul]
  exact k p e s m args below meth c C H locs lsr hR hO hL hl
theorem aw_ladd {x y : Int} (hd : decode Y.2.1 pc = .ok (.ladd, 1)) (k : aW G Y R Z kc ks h (pc + 1) ls (ab_l (x + y) :: st)) : aW G Y R Z kc ks h pc ls (ab_l y :: ab_l x :: st) := by
  intro p e s m args below meth c C H locs lsr hR hO hL hl
  refine lv_ladd C.1 C.2.1 hd ?_
  rw [← Int64.ofInt_add]
  exact k p e s m args below meth c C H locs lsr hR hO hL hl
theorem aw_lsub {x y : Int} (hd : decode Y.2.1 pc = .ok (.lsub, 1)) (k : aW G Y R Z kc ks h (pc + 1) ls (ab_l (x - y) :: st)) : aW G Y R Z kc ks h pc ls (ab_l y :: ab_l x :: st) := by
  intro p e s m args below meth c C H locs lsr hR hO hL hl
  refine lv_lsub C.1 C.2.1 hd ?_
  rw [← Int64.ofInt_sub]
  exact k p e s m args below meth c C H locs lsr hR hO hL hl
theorem aw_lmul {x y : Int} (hd : decode Y.2.1 pc = .ok (.lmul, 1)) (k : aW G Y R Z kc ks h (pc + 1) ls (ab_l (x * y) :: st)) : aW G Y R Z kc ks h pc ls (ab_l y :: ab_l x :: st) := by
  intro p e s m args below meth c C H locs lsr hR hO hL hl
  refine lv_lmul C.1 C.2.1 hd ?_
  rw [← Int64.ofInt_mul]
  exact k p e s m args below meth c C H locs lsr hR hO hL hl
theorem aw_iand {x y : Int} (hd : decode Y.2.1 pc = .ok (.iand, 1)) (k : aW G Y R Z kc ks h (pc + 1) ls (ab_i (ab_and x y) :: st)) : aW G Y R Z kc ks h pc ls (ab_i y :: ab_i x :: st) := by
  intro p e s m args below meth c C H locs lsr hR hO hL hl
  refine lv_iand C.1 C.2.1 hd ?_
  have k9 := k p e s m args below meth c C H locs lsr hR hO hL hl
  simp only [List.map_cons, ab_c, ab_and, Int32.ofInt_toInt, Int64.ofInt_toInt] at k9
  exact k9
theorem aw_ior {x y : Int} (hd : decode Y.2.1 pc = .ok (.ior, 1)) (k : aW G Y R Z kc ks h (pc + 1) ls (ab_i (ab_or x y) :: st)) : aW G Y R Z kc ks h pc ls (ab_i y :: ab_i x :: st) := by
  intro p e s m args below meth c C H locs lsr hR hO hL hl
  refine lv_ior C.1 C.2.1 hd ?_
  have k9 := k p e s m args below meth c C H locs lsr hR hO hL hl
  simp only [List.map_cons, ab_c, ab_or, Int32.ofInt_toInt, Int64.ofInt_toInt] at k9
  exact k9
theorem aw_ixor {x y : Int} (hd : decode Y.2.1 pc = .ok (.ixor, 1)) (k : aW G Y R Z kc ks h (pc + 1) ls (ab_i (ab_xor x y) :: st)) : aW G Y R Z kc ks h pc ls (ab_i y :: ab_i x :: st) := by
  intro p e s m args below meth c C H locs lsr hR hO hL hl
  refine lv_ixor C.1 C.2.1 hd ?_
  have k9 := k p e s m args below meth c C H locs lsr hR hO hL hl
  simp only [List.map_cons, ab_c, ab_xor, Int32.ofInt_toInt, Int64.ofInt_toInt] at k9
  exact k9
theorem aw_ishl {x y : Int} (hd : decode Y.2.1 pc = .ok (.ishl, 1)) (k : aW G Y R Z kc ks h (pc + 1) ls (ab_i (ab_sl x y) :: st)) : aW G Y R Z kc ks h pc ls (ab_i y :: ab_i x :: st) := by
  intro p e s m args below meth c C H locs lsr hR hO hL hl
  refine lv_ishl C.1 C.2.1 hd ?_
  have k9 := k p e s m args below meth c C H locs lsr hR hO hL hl
  simp only [List.map_cons, ab_c, ab_sl, Int32.ofInt_toInt, Int64.ofInt_toInt] at k9
  exact k9
theorem aw_ishr {x y : Int} (hd : decode Y.2.1 pc = .ok (.ishr, 1)) (k : aW G Y R Z kc ks h (pc + 1) ls (ab_i (ab_sr x y) :: st)) : aW G Y R Z kc ks h pc ls (ab_i y :: ab_i x :: st) := by
  intro p e s m args below meth c C H locs lsr hR hO hL hl
  refine lv_ishr C.1 C.2.1 hd ?_
  have k9 := k p e s m args below meth c C H locs lsr hR hO hL hl
  simp only [List.map_cons, ab_c, ab_sr, Int32.ofInt_toInt, Int64.ofInt_toInt] at k9
  exact k9
theorem aw_iushr {x y : Int} (hd : decode Y.2.1 pc = .ok (.iushr, 1)) (k : aW G Y R Z kc ks h (pc + 1) ls (ab_i (ab_usr x y) :: st)) : aW G Y R Z kc ks h pc ls (ab_i y :: ab_i x :: st) := by
  intro p e s m args below meth c C H locs lsr hR hO hL hl
  refine lv_iushr C.1 C.2.1 hd rfl ?_
  have k9 := k p e s m args below meth c C H locs lsr hR hO hL hl
  simp only [List.map_cons, ab_c, ab_usr, Int32.ofInt_toInt, Int64.ofInt_toInt] at k9
  exact k9
theorem aw_land {x y : Int} (hd : decode Y.2.1 pc = .ok (.land, 1)) (k : aW G Y R Z kc ks h (pc + 1) ls (ab_l (ab_landL x y) :: st)) : aW G Y R Z kc ks h pc ls (ab_l y :: ab_l x :: st) := by
  intro p e s m args below meth c C H locs lsr hR hO hL hl
  refine lv_land C.1 C.2.1 hd ?_
  have k9 := k p e s m args below meth c C H locs lsr hR hO hL hl
  simp only [List.map_cons, ab_c, ab_landL, Int32.ofInt_toInt, Int64.ofInt_toInt] at k9
  exact k9
theorem aw_lor {x y : Int} (hd : decode Y.2.1 pc = .ok (.lor, 1)) (k : aW G Y R Z kc ks h (pc + 1) ls (ab_l (ab_lorL x y) :: st)) : aW G Y R Z kc ks h pc ls (ab_l y :: ab_l x :: st) := by
  intro p e s m args below meth c C H locs lsr hR hO hL hl
  refine lv_lor C.1 C.2.1 hd ?_
  have k9 := k p e s m args below meth c C H locs lsr hR hO hL hl
  simp only [List.map_cons, ab_c, ab_lorL, Int32.ofInt_toInt, Int64.ofInt_toInt] at k9
  exact k9
theorem aw_idiv {x y : Int} (hd : decode Y.2.1 pc = .ok (.idiv, 1)) (hy : ab_In y) (h0 : ¬ y = 0) (k : aW G Y R Z kc ks h (pc + 1) ls (ab_i (ab_div x y) :: st)) : aW G Y R Z kc ks h pc ls (ab_i y :: ab_i x :: st) := by
  intro p e s m args below meth c C H locs lsr hR hO hL hl
  refine lv_idiv C.1 C.2.1 hd (fun e9 => h0 ((ab_eqi hy ab_in0).mp e9)) ?_
  have k9 := k p e s m args below meth c C H locs lsr hR hO hL hl
  simp only [List.map_cons, ab_c, ab_div, Int32.ofInt_toInt, Int64.ofInt_toInt] at k9
  exact k9
theorem aw_irem {x y : Int} (hd : decode Y.2.1 pc = .ok (.irem, 1)) (hy : ab_In y) (h0 : ¬ y = 0) (k : aW G Y R Z kc ks h (pc + 1) ls (ab_i (ab_rem x y) :: st)) : aW G Y R Z kc ks h pc ls (ab_i y :: ab_i x :: st) := by
  intro p e s m args below meth c C H locs lsr hR hO hL hl
  refine lv_irem C.1 C.2.1 hd (fun e9 => h0 ((ab_eqi hy ab_in0).mp e9)) ?_
  have k9 := k p e s m args below meth c C H locs lsr hR hO hL hl
  simp only [List.map_cons, ab_c, ab_rem, Int32.ofInt_toInt, Int64.ofInt_toInt] at k9
  exact k9
theorem aw_ldiv {x y : Int} (hd : decode Y.2.1 pc = .ok (.ldiv, 1)) (hy : ab_Il y) (h0 : ¬ y = 0) (k : aW G Y R Z kc ks h (pc + 1) ls (ab_l (ab_ldivL x y) :: st)) : aW G Y R Z kc ks h pc ls (ab_l y :: ab_l x :: st) := by
  intro p e s m args below meth c C H locs lsr hR hO hL hl
  refine lv_ldiv C.1 C.2.1 hd (fun e9 => h0 ((ab_eql hy (by unfold ab_Il; omega)).mp e9)) ?_
  have k9 := k p e s m args below meth c C H locs lsr hR hO hL hl
  simp only [List.map_cons, ab_c, ab_ldivL, Int32.ofInt_toInt, Int64.ofInt_toInt] at k9
  exact k9
theorem aw_lrem {x y : Int} (hd : decode Y.2.1 pc = .ok (.lrem, 1)) (hy : ab_Il y) (h0 : ¬ y = 0) (k : aW G Y R Z kc ks h (pc + 1) ls (ab_l (ab_lremL x y) :: st)) : aW G Y R Z kc ks h pc ls (ab_l y :: ab_l x :: st) := by
  intro p e s m args below meth c C H locs lsr hR hO hL hl
  refine lv_lrem C.1 C.2.1 hd (fun e9 => h0 ((ab_eql hy (by unfold ab_Il; omega)).mp e9)) ?_
  have k9 := k p e s m args below meth c C H locs lsr hR hO hL hl
  simp only [List.map_cons, ab_c, ab_lremL, Int32.ofInt_toInt, Int64.ofInt_toInt] at k9
  exact k9
theorem aw_lshl {x y : Int} (hd : decode Y.2.1 pc = .ok (.lshl, 1)) (k : aW G Y R Z kc ks h (pc + 1) ls (ab_l (ab_lshlL x y) :: st)) : aW G Y R Z kc ks h pc ls (ab_i y :: ab_l x :: st) := by
  intro p e s m args below meth c C H locs lsr hR hO hL hl
  refine lv_lshl C.1 C.2.1 hd rfl ?_
  have k9 := k p e s m args below meth c C H locs lsr hR hO hL hl
  simp only [List.map_cons, ab_c, ab_lshlL, Int32.ofInt_toInt, Int64.ofInt_toInt] at k9
  exact k9
theorem aw_lshr {x y : Int} (hd : decode Y.2.1 pc = .ok (.lshr, 1)) (k : aW G Y R Z kc ks h (pc + 1) ls (ab_l (ab_lshrL x y) :: st)) : aW G Y R Z kc ks h pc ls (ab_i y :: ab_l x :: st) := by
  intro p e s m args below meth c C H locs lsr hR hO hL hl
  refine lv_lshr C.1 C.2.1 hd rfl ?_
  have k9 := k p e s m args below meth c C H locs lsr hR hO hL hl
  simp only [List.map_cons, ab_c, ab_lshrL, Int32.ofInt_toInt, Int64.ofInt_toInt] at k9
  exact k9
theorem aw_i2l {x : Int} (hd : decode Y.2.1 pc = .ok (.i2l, 1)) (k : aW G Y R Z kc ks h (pc + 1) ls (ab_l (ab_i2l x) :: st)) : aW G Y R Z kc ks h pc ls (ab_i x :: st) := by
  intro p e s m args below meth c C H locs lsr hR hO hL hl
  refine lv_i2l C.1 C.2.1 hd rfl ?_
  have k9 := k p e s m args below meth c C H locs lsr hR hO hL hl
  simp only [List.map_cons, ab_c, ab_i2l, Int32.ofInt_toInt, Int64.ofInt_toInt] at k9
  exact k9
theorem aw_l2i {x : Int} (hd : decode Y.2.1 pc = .ok (.l2i, 1)) (k : aW G Y R Z kc ks h (pc + 1) ls (ab_i (ab_l2i x) :: st)) : aW G Y R Z kc ks h pc ls (ab_l x :: st) := by
  intro p e s m args below meth c C H locs lsr hR hO hL hl
  refine lv_l2i C.1 C.2.1 hd rfl ?_
  have k9 := k p e s m args below meth c C H locs lsr hR hO hL hl
  simp only [List.map_cons, ab_c, ab_l2i, Int32.ofInt_toInt, Int64.ofInt_toInt] at k9
  exact k9
theorem aw_i2c {x : Int} (hd : decode Y.2.1 pc = .ok (.i2c, 1)) (k : aW G Y R Z kc ks h (pc + 1) ls (ab_i (ab_i2c x) :: st)) : aW G Y R Z kc ks h pc ls (ab_i x :: st) := by
  intro p e s m args below meth c C H locs lsr hR hO hL hl
  refine lv_i2c C.1 C.2.1 hd rfl ?_
  have k9 := k p e s m args below meth c C H locs lsr hR hO hL hl
  simp only [List.map_cons, ab_c, ab_i2c, Int32.ofInt_toInt, Int64.ofInt_toInt] at k9
  exact k9
theorem aw_lcmp {x y : Int} (hd : decode Y.2.1 pc = .ok (.lcmp, 1)) (k : aW G Y R Z kc ks h (pc + 1) ls (ab_i (ab_lcmp x y) :: st)) : aW G Y R Z kc ks h pc ls (ab_l y :: ab_l x :: st) := by
  intro p e s m args below meth c C H locs lsr hR hO hL hl
  refine W.lcmp C.1 C.2.1 hd ?_
  have k9 := k p e s m args below meth c C H locs lsr hR hO hL hl
  simp only [List.map_cons, ab_c, ab_lcmp, Int32.ofInt_toInt, Int64.ofInt_toInt] at k9
  exact k9
theorem aw_iconst {n : Int} (hd : decode Y.2.1 pc = .ok (.iconst n, 1)) (k : aW G Y R Z kc ks h (pc + 1) ls (ab_i n :: st)) : aW G Y R Z kc ks h pc ls st := by
  intro p e s m args below meth c C H locs lsr hR hO hL hl
  exact lv_iconst C.1 C.2.1 hd rfl (k p e s m args below meth c C H locs lsr hR hO hL hl)
theorem aw_bipush {n : Int} (hd : decode Y.2.1 pc = .ok (.bipush n, 2)) (hn : (Int8.ofInt n).toInt32 = Int32.ofInt n) (k : aW G Y R Z kc ks h (pc + 2) ls (ab_i n :: st)) : aW G Y R Z kc ks h pc ls st := by
  intro p e s m args below meth c C H locs lsr hR hO hL hl
  exact lv_bipush C.1 C.2.1 hd hn (k p e s m args below meth c C H locs lsr hR hO hL hl)
theorem aw_sipush {n : Int} (hd : decode Y.2.1 pc = .ok (.sipush n, 3)) (hn : (Int16.ofInt n).toInt32 = Int32.ofInt n) (k : aW G Y R Z kc ks h (pc + 3) ls (ab_i n :: st)) : aW G Y R Z kc ks h pc ls st := by
  intro p e s m args below meth c C H locs lsr hR hO hL hl
  exact lv_sipush C.1 C.2.1 hd hn (k p e s m args below meth c C H locs lsr hR hO hL hl)
theorem aw_lconst {n : Fin 2} {z : Int} (hd : decode Y.2.1 pc = .ok (.lconst n, 1)) (hn : Int64.ofNat (n : Nat) = Int64.ofInt z) (k : aW G Y R Z kc ks h (pc + 1) ls (ab_l z :: st)) : aW G Y R Z kc ks h pc ls st := by
  intro p e s m args below meth c C H locs lsr hR hO hL hl
  exact lv_lconst C.1 C.2.1 hd hn (k p e s m args below meth c C H locs lsr hR hO hL hl)
theorem aw_ldc {idx : Nat} {z : Int} (hd : decode Y.2.1 pc = .ok (.ldc idx, 2)) (hw : Cond.constant Y.1.cls idx (Int32.ofInt z) ∈ lw_all) (k : aW G Y R Z kc ks h (pc + 2) ls (ab_i z :: st)) : aW G Y R Z kc ks h pc ls st := by
  intro p e s m args below meth c C H locs lsr hR hO hL hl
  exact lv_ldc C.1 C.2.1 C.2.2.2.2.1 (C.2.2.2.2.2.1 _ hw) hd (k p e s m args below meth c C H locs lsr hR hO hL hl)
theorem aw_ldcw {idx : Nat} {z : Int} (hd : decode Y.2.1 pc = .ok (.ldc_w idx, 3)) (hw : Cond.constant Y.1.cls idx (Int32.ofInt z) ∈ lw_all) (k : aW G Y R Z kc ks h (pc + 3) ls (ab_i z :: st)) : aW G Y R Z kc ks h pc ls st := by
  intro p e s m args below meth c C H locs lsr hR hO hL hl
  exact lv_ldcw C.1 C.2.1 C.2.2.2.2.1 (C.2.2.2.2.2.1 _ hw) hd (k p e s m args below meth c C H locs lsr hR hO hL hl)
theorem aw_ldc2 {idx : Nat} {z : Int} (hd : decode Y.2.1 pc = .ok (.ldc2_w idx, 3)) (hw : Cond.constantLong Y.1.cls idx (Int64.ofInt z) ∈ lw_all) (k : aW G Y R Z kc ks h (pc + 3) ls (ab_l z :: st)) : aW G Y R Z kc ks h pc ls st := by
  intro p e s m args below meth c C H locs lsr hR hO hL hl
  exact lv_ldc2 C.1 C.2.1 C.2.2.2.2.1 (C.2.2.2.2.2.1 _ hw) hd (k p e s m args below meth c C H locs lsr hR hO hL hl)
theorem aw_ldcS {i : Nat} (hY : Y.1.cls = "ThreeOffers$Text") (hi : i < 15) (hd : decode Y.2.1 pc = .ok (.ldc (ab_six i), 2)) (k : aW G Y R Z kc ks h (pc + 2) ls (ab_r (1100 + i) :: st)) : aW G Y R Z kc ks h pc ls st := by
  intro p e s m args below meth c C H locs lsr hR hO hL hl
  have k9 := k p e s m args below meth c C H locs lsr hR hO hL hl
  have e9 : ab_c G (ab_r (1100 + i)) = .ref (ab_ax G (1100 + i)) := by
    show ab_rv G (1100 + i) = _
    unfold ab_rv ab_ad
    rw [if_neg (by omega), if_neg (by omega)]
  rw [List.map_cons, e9] at k9
  exact va_ldcS C.1 C.2.1 (hY ▸ C.2.2.2.2.1) (C.2.2.2.2.2.2.2.2.2.2.1 i hi) hd k9
theorem aw_dup {v : ab_V} (hd : decode Y.2.1 pc = .ok (.dup, 1)) (hv : ab_isl (some v) = false) (k : aW G Y R Z kc ks h (pc + 1) ls (v :: v :: st)) : aW G Y R Z kc ks h pc ls (v :: st) := by
  intro p e s m args below meth c C H locs lsr hR hO hL hl
  exact lv_dup C.1 C.2.1 hd (by rw [ab_cat, hv]; rfl) (k p e s m args below meth c C H locs lsr hR hO hL hl)
theorem aw_dup2 {v w : ab_V} (hd : decode Y.2.1 pc = .ok (.dup2, 1)) (hv : ab_isl (some v) = false) (hw : ab_isl (some w) = false) (k : aW G Y R Z kc ks h (pc + 1) ls (v :: w :: v :: w :: st)) : aW G Y R Z kc ks h pc ls (v :: w :: st) := by
  intro p e s m args below meth c C H locs lsr hR hO hL hl
  exact lv_dup2_11 C.1 C.2.1 hd (by rw [ab_cat, hv]; rfl) (by rw [ab_cat, hw]; rfl) (k p e s m args below meth c C H locs lsr hR hO hL hl)
theorem aw_pop {v : ab_V} (hd : decode Y.2.1 pc = .ok (.pop, 1)) (hv : ab_isl (some v) = false) (k : aW G Y R Z kc ks h (pc + 1) ls st) : aW G Y R Z kc ks h pc ls (v :: st) := by
  intro p e s m args below meth c C H locs lsr hR hO hL hl
  exact lv_pop C.1 C.2.1 hd (by rw [ab_cat, hv]; rfl) (k p e s m args below meth c C H locs lsr hR hO hL hl)
theorem aw_iload_n {n : Fin 4} {z : Int} (hd : decode Y.2.1 pc = .ok (.iload_n n, 1)) (hi : ls[(n : Nat)]? = some (some (ab_i z))) (k : aW G Y R Z kc ks h (pc + 1) ls (ab_i z :: st)) : aW G Y R Z kc ks h pc ls st := by
  intro p e s m args below meth c C H locs lsr hR hO hL hl
  exact lv_iload_n C.1 C.2.1 hd rfl (ab_has_ld hl hi) (k p e s m args below meth c C H locs lsr hR hO hL hl)
theorem aw_iload {i : Nat} {z : Int} (hd : decode Y.2.1 pc = .ok (.iload i, 2)) (hi : ls[i]? = some (some (ab_i z))) (k : aW G Y R Z kc ks h (pc + 2) ls (ab_i z :: st)) : aW G Y R Z kc ks h pc ls st := by
  intro p e s m args below meth c C H locs lsr hR hO hL hl
  exact lv_iload C.1 C.2.1 hd (ab_has_ld hl hi) (k p e s m args below meth c C H locs lsr hR hO hL hl)
theorem aw_lload_n {n : Fin 4} {z : Int} (hd : decode Y.2.1 pc = .ok (.lload_n n, 1)) (hi : ls[(n : Nat)]? = some (some (ab_l z))) (k : aW G Y R Z kc ks h (pc + 1) ls (ab_l z :: st)) : aW G Y R Z kc ks h pc ls st := by
  intro p e s m args below meth c C H locs lsr hR hO hL hl
  exact lv_lload_n C.1 C.2.1 hd rfl (ab_has_ld hl hi) (k p e s m args below meth c C H locs lsr hR hO hL hl)
theorem aw_lload {i : Nat} {z : Int} (hd : decode Y.2.1 pc = .ok (.lload i, 2)) (hi : ls[i]? = some (some (ab_l z))) (k : aW G Y R Z kc ks h (pc + 2) ls (ab_l z :: st)) : aW G Y R Z kc ks h pc ls st := by
  intro p e s m args below meth c C H locs lsr hR hO hL hl
  exact lv_lload C.1 C.2.1 hd (ab_has_ld hl hi) (k p e s m args below meth c C H locs lsr hR hO hL hl)
theorem aw_rv {r : Nat} (h0 : ¬ r = 0) : ab_c G (ab_r r) = .ref (ab_ad G r) := by
  show ab_rv G r = _
  unfold ab_rv
  rw [if_neg h0]
theorem aw_aload_n {n : Fin 4} {r : Nat} (hd : decode Y.2.1 pc = .ok (.aload_n n, 1)) (hi : ls[(n : Nat)]? = some (some (ab_r r))) (h0 : ¬ r = 0) (k : aW G Y R Z kc ks h (pc + 1) ls (ab_r r :: st)) : aW G Y R Z kc ks h pc ls st := by
  intro p e s m args below meth c C H locs lsr hR hO hL hl
  have k9 := k p e s m args below meth c C H locs lsr hR hO hL hl
  have k8 := ab_has_ld hl hi
  rw [List.map_cons, aw_rv h0] at k9
  rw [aw_rv h0] at k8
  exact lv_aload_n C.1 C.2.1 hd rfl k8 k9
theorem aw_aload {i : Nat} {r : Nat} (hd : decode Y.2.1 pc = .ok (.aload i, 2)) (hi : ls[i]? = some (some (ab_r r))) (h0 : ¬ r = 0) (k : aW G Y R Z kc ks h (pc + 2) ls (ab_r r :: st)) : aW G Y R Z kc ks h pc ls st := by
  intro p e s m args below meth c C H locs lsr hR hO hL hl
  have k9 := k p e s m args below meth c C H locs lsr hR hO hL hl
  have k8 := ab_has_ld hl hi
  rw [List.map_cons, aw_rv h0] at k9
  rw [aw_rv h0] at k8
  exact lv_aload C.1 C.2.1 hd k8 k9
theorem aw_istore_n {n : Fin 4} {z : Int} {ls' : List (Option ab_V)} (hd : decode Y.2.1 pc = .ok (.istore_n n, 1)) (hi : (n : Nat) < Y.2.2.1) (hl' : ab_st1 ls n (ab_i z) = ls') (k : aW G Y R Z kc ks h (pc + 1) ls' st) : aW G Y R Z kc ks h pc ls (ab_i z :: st) := by
  intro p e s m args below meth c C H locs lsr hR hO hL hl
  subst hl'
  exact lv_istore_n C.1 C.2.1 hd rfl hl hi rfl (fun lsr hl => k p e s m args below meth c C H locs lsr hR hO hL (ab_has1 hl))
theorem aw_istore {i : Nat} {z : Int} {ls' : List (Option ab_V)} (hd : decode Y.2.1 pc = .ok (.istore i, 2)) (hi : i < Y.2.2.1) (hl' : ab_st1 ls i (ab_i z) = ls') (k : aW G Y R Z kc ks h (pc + 2) ls' st) : aW G Y R Z kc ks h pc ls (ab_i z :: st) := by
  intro p e s m args below meth c C H locs lsr hR hO hL hl
  subst hl'
  exact lv_istore C.1 C.2.1 hd hl hi rfl (fun lsr hl => k p e s m args below meth c C H locs lsr hR hO hL (ab_has1 hl))
theorem aw_lstore_n {n : Fin 4} {z : Int} {ls' : List (Option ab_V)} (hd : decode Y.2.1 pc = .ok (.lstore_n n, 1)) (hi : (n : Nat) + 1 < Y.2.2.1) (hl' : ab_st2 ls n (ab_l z) = ls') (k : aW G Y R Z kc ks h (pc + 1) ls' st) : aW G Y R Z kc ks h pc ls (ab_l z :: st) := by
  intro p e s m args below meth c C H locs lsr hR hO hL hl
  subst hl'
  exact lv_lstore_n C.1 C.2.1 hd rfl hl hi rfl (fun lsr hl => k p e s m args below meth c C H locs lsr hR hO hL (ab_has2 hl))
theorem aw_lstore {i : Nat} {z : Int} {ls' : List (Option ab_V)} (hd : decode Y.2.1 pc = .ok (.lstore i, 2)) (hi : i + 1 < Y.2.2.1) (hl' : ab_st2 ls i (ab_l z) = ls') (k : aW G Y R Z kc ks h (pc + 2) ls' st) : aW G Y R Z kc ks h pc ls (ab_l z :: st) := by
  intro p e s m args below meth c C H locs lsr hR hO hL hl
  subst hl'
  exact lv_lstore C.1 C.2.1 hd hl hi rfl (fun lsr hl => k p e s m args below meth c C H locs lsr hR hO hL (ab_has2 hl))
theorem aw_astore_n {n : Fin 4} {r : Nat} {ls' : List (Option ab_V)} (hd : decode Y.2.1 pc = .ok (.astore_n n, 1)) (hi : (n : Nat) < Y.2.2.1) (h0 : ¬ r = 0) (hl' : ab_st1 ls (n : Nat) (ab_r r) = ls') (k : aW G Y R Z kc ks h (pc + 1) ls' st) : aW G Y R Z kc ks h pc ls (ab_r r :: st) := by
  intro p e s m args below meth c C H locs lsr hR hO hL hl
  subst hl'
  rw [List.map_cons, aw_rv h0]
  refine lv_astore_n C.1 C.2.1 hd rfl hl hi rfl (fun lsr hl => k p e s m args below meth c C H locs lsr hR hO hL (ab_has1 ?_))
  rw [aw_rv h0]
  exact hl
theorem aw_astore {i : Nat} {r : Nat} {ls' : List (Option ab_V)} (hd : decode Y.2.1 pc = .ok (.astore i, 2)) (hi : i < Y.2.2.1) (h0 : ¬ r = 0) (hl' : ab_st1 ls i (ab_r r) = ls') (k : aW G Y R Z kc ks h (pc + 2) ls' st) : aW G Y R Z kc ks h pc ls (ab_r r :: st) := by
  intro p e s m args below meth c C H locs lsr hR hO hL hl
  subst hl'
  rw [List.map_cons, aw_rv h0]
  refine lv_astore C.1 C.2.1 hd hl hi rfl (fun lsr hl => k p e s m args below meth c C H locs lsr hR hO hL (ab_has1 ?_))
  rw [aw_rv h0]
  exact hl
theorem aw_iinc {i : Nat} {n z : Int} {ls' : List (Option ab_V)} (hd : decode Y.2.1 pc = .ok (.iinc i n, 3)) (hi : i < Y.2.2.1) (hz : ls[i]? = some (some (ab_i z))) (hl' : ab_st1 ls i (ab_i (z + n)) = ls') (k : aW G Y R Z kc ks h (pc + 3) ls' st) : aW G Y R Z kc ks h pc ls st := by
  intro p e s m args below meth c C H locs lsr hR hO hL hl
  subst hl'
  obtain ⟨k9, hk9⟩ := List.getElem?_of_mem (ab_lo_at (G := G) (k := 0) hz)
  rw [Nat.zero_add] at hk9
  exact lv_iinc C.1 C.2.1 hd hl hk9 (v := Int32.ofInt (z + n)) (Int32.ofInt_add z n).symm hi rfl (fun lsr hl => k p e s m args below meth c C H locs lsr hR hO hL (ab_has1 hl))
theorem aw_if_eq {x off : Int} {tgt : Nat} (hd : decode Y.2.1 pc = .ok (.ifCond .eq off, 3)) (ht : (pc : Int) + off = (tgt : Int)) (hx : ab_In x) (kt : x = 0 → aW G Y R Z kc ks h tgt ls st) (kf : ¬ x = 0 → aW G Y R Z kc ks h (pc + 3) ls st) : aW G Y R Z kc ks h pc ls (ab_i x :: st) := by
  intro p e s m args below meth c C H locs lsr hR hO hL hl
  exact lv_if_eq C.1 C.2.1 hd ht (fun c9 => kt ((ab_eqi hx ab_in0).mp c9) p e s m args below meth c C H locs lsr hR hO hL hl) (fun c9 => kf (fun e9 => c9 ((ab_eqi hx ab_in0).mpr e9)) p e s m args below meth c C H locs lsr hR hO hL hl)
theorem aw_if_ne {x off : Int} {tgt : Nat} (hd : decode Y.2.1 pc = .ok (.ifCond .ne off, 3)) (ht : (pc : Int) + off = (tgt : Int)) (hx : ab_In x) (kt : ¬ x = 0 → aW G Y R Z kc ks h tgt ls st) (kf : x = 0 → aW G Y R Z kc ks h (pc + 3) ls st) : aW G Y R Z kc ks h pc ls (ab_i x :: st) := by
  intro p e s m args below meth c C H locs lsr hR hO hL hl
  exact lv_if_ne C.1 C.2.1 hd ht (fun c9 => kt (fun e9 => c9 ((ab_eqi hx ab_in0).mpr e9)) p e s m args below meth c C H locs lsr hR hO hL hl) (fun c9 => kf ((ab_eqi hx ab_in0).mp c9) p e s m args below meth c C H locs lsr hR hO hL hl)
theorem aw_if_lt {x off : Int} {tgt : Nat} (hd : decode Y.2.1 pc = .ok (.ifCond .lt off, 3)) (ht : (pc : Int) + off = (tgt : Int)) (hx : ab_In x) (kt : x < 0 → aW G Y R Z kc ks h tgt ls st) (kf : ¬ x < 0 → aW G Y R Z kc ks h (pc + 3) ls st) : aW G Y R Z kc ks h pc ls (ab_i x :: st) := by
  intro p e s m args below meth c C H locs lsr hR hO hL hl
  exact lv_if_lt C.1 C.2.1 hd ht (fun c9 => kt ((ab_lti hx ab_in0).mp c9) p e s m args below meth c C H locs lsr hR hO hL hl) (fun c9 => kf (fun e9 => c9 ((ab_lti hx ab_in0).mpr e9)) p e s m args below meth c C H locs lsr hR hO hL hl)
theorem aw_if_ge {x off : Int} {tgt : Nat} (hd : decode Y.2.1 pc = .ok (.ifCond .ge off, 3)) (ht : (pc : Int) + off = (tgt : Int)) (hx : ab_In x) (kt : 0 ≤ x → aW G Y R Z kc ks h tgt ls st) (kf : ¬ 0 ≤ x → aW G Y R Z kc ks h (pc + 3) ls st) : aW G Y R Z kc ks h pc ls (ab_i x :: st) := by
  intro p e s m args below meth c C H locs lsr hR hO hL hl
  exact lv_if_ge C.1 C.2.1 hd ht (fun c9 => kt ((ab_lei ab_in0 hx).mp c9) p e s m args below meth c C H locs lsr hR hO hL hl) (fun c9 => kf (fun e9 => c9 ((ab_lei ab_in0 hx).mpr e9)) p e s m args below meth c C H locs lsr hR hO hL hl)
theorem aw_if_gt {x off : Int} {tgt : Nat} (hd : decode Y.2.1 pc = .ok (.ifCond .gt off, 3)) (ht : (pc : Int) + off = (tgt : Int)) (hx : ab_In x) (kt : 0 < x → aW G Y R Z kc ks h tgt ls st) (kf : ¬ 0 < x → aW G Y R Z kc ks h (pc + 3) ls st) : aW G Y R Z kc ks h pc ls (ab_i x :: st) := by
  intro p e s m args below meth c C H locs lsr hR hO hL hl
  exact lv_if_gt C.1 C.2.1 hd ht (fun c9 => kt ((ab_lti ab_in0 hx).mp c9) p e s m args below meth c C H locs lsr hR hO hL hl) (fun c9 => kf (fun e9 => c9 ((ab_lti ab_in0 hx).mpr e9)) p e s m args below meth c C H locs lsr hR hO hL hl)
theorem aw_if_le {x off : Int} {tgt : Nat} (hd : decode Y.2.1 pc = .ok (.ifCond .le off, 3)) (ht : (pc : Int) + off = (tgt : Int)) (hx : ab_In x) (kt : x ≤ 0 → aW G Y R Z kc ks h tgt ls st) (kf : ¬ x ≤ 0 → aW G Y R Z kc ks h (pc + 3) ls st) : aW G Y R Z kc ks h pc ls (ab_i x :: st) := by
  intro p e s m args below meth c C H locs lsr hR hO hL hl
  exact lv_if_le C.1 C.2.1 hd ht (fun c9 => kt ((ab_lei hx ab_in0).mp c9) p e s m args below meth c C H locs lsr hR hO hL hl) (fun c9 => kf (fun e9 => c9 ((ab_lei hx ab_in0).mpr e9)) p e s m args below meth c C H locs lsr hR hO hL hl)
theorem aw_icmp_eq {x y off : Int} {tgt : Nat} (hd : decode Y.2.1 pc = .ok (.if_icmp .eq off, 3)) (ht : (pc : Int) + off = (tgt : Int)) (hx : ab_In x) (hy : ab_In y) (kt : x = y → aW G Y R Z kc ks h tgt ls st) (kf : ¬ x = y → aW G Y R Z kc ks h (pc + 3) ls st) : aW G Y R Z kc ks h pc ls (ab_i y :: ab_i x :: st) := by
  intro p e s m args below meth c C H locs lsr hR hO hL hl
  exact lv_icmp_eq C.1 C.2.1 hd ht (fun c9 => kt ((ab_eqi hx hy).mp c9) p e s m args below meth c C H locs lsr hR hO hL hl) (fun c9 => kf (fun e9 => c9 ((ab_eqi hx hy).mpr e9)) p e s m args below meth c C H locs lsr hR hO hL hl)
theorem aw_icmp_ne {x y off : Int} {tgt : Nat} (hd : decode Y.2.1 pc = .ok (.if_icmp .ne off, 3)) (ht : (pc : Int) + off = (tgt : Int)) (hx : ab_In x) (hy : ab_In y) (kt : ¬ x = y → aW G Y R Z kc ks h tgt ls st) (kf : x = y → aW G Y R Z kc ks h (pc + 3) ls st) : aW G Y R Z kc ks h pc ls (ab_i y :: ab_i x :: st) := by
  intro p e s m args below meth c C H locs lsr hR hO hL hl
  exact lv_icmp_ne C.1 C.2.1 hd ht (fun c9 => kt (fun e9 => c9 ((ab_eqi hx hy).mpr e9)) p e s m args below meth c C H locs lsr hR hO hL hl) (fun c9 => kf ((ab_eqi hx hy).mp c9) p e s m args below meth c C H locs lsr hR hO hL hl)
theorem aw_icmp_lt {x y off : Int} {tgt : Nat} (hd : decode Y.2.1 pc = .ok (.if_icmp .lt off, 3)) (ht : (pc : Int) + off = (tgt : Int)) (hx : ab_In x) (hy : ab_In y) (kt : x < y → aW G Y R Z kc ks h tgt ls st) (kf : ¬ x < y → aW G Y R Z kc ks h (pc + 3) ls st) : aW G Y R Z kc ks h pc ls (ab_i y :: ab_i x :: st) := by
  intro p e s m args below meth c C H locs lsr hR hO hL hl
  exact lv_icmp_lt C.1 C.2.1 hd ht (fun c9 => kt ((ab_lti hx hy).mp c9) p e s m args below meth c C H locs lsr hR hO hL hl) (fun c9 => kf (fun e9 => c9 ((ab_lti hx hy).mpr e9)) p e s m args below meth c C H locs lsr hR hO hL hl)
theorem aw_icmp_ge {x y off : Int} {tgt : Nat} (hd : decode Y.2.1 pc = .ok (.if_icmp .ge off, 3)) (ht : (pc : Int) + off = (tgt : Int)) (hx : ab_In x) (hy : ab_In y) (kt : y ≤ x → aW G Y R Z kc ks h tgt ls st) (kf : ¬ y ≤ x → aW G Y R Z kc ks h (pc + 3) ls st) : aW G Y R Z kc ks h pc ls (ab_i y :: ab_i x :: st) := by
  intro p e s m args below meth c C H locs lsr hR hO hL hl
  exact lv_icmp_ge C.1 C.2.1 hd ht (fun c9 => kt ((ab_lei hy hx).mp c9) p e s m args below meth c C H locs lsr hR hO hL hl) (fun c9 => kf (fun e9 => c9 ((ab_lei hy hx).mpr e9)) p e s m args below meth c C H locs lsr hR hO hL hl)
theorem aw_icmp_gt {x y off : Int} {tgt : Nat} (hd : decode Y.2.1 pc = .ok (.if_icmp .gt off, 3)) (ht : (pc : Int) + off = (tgt : Int)) (hx : ab_In x) (hy : ab_In y) (kt : y < x → aW G Y R Z kc ks h tgt ls st) (kf : ¬ y < x → aW G Y R Z kc ks h (pc + 3) ls st) : aW G Y R Z kc ks h pc ls (ab_i y :: ab_i x :: st) := by
  intro p e s m args below meth c C H locs lsr hR hO hL hl
  exact lv_icmp_gt C.1 C.2.1 hd ht (fun c9 => kt ((ab_lti hy hx).mp c9) p e s m args below meth c C H locs lsr hR hO hL hl) (fun c9 => kf (fun e9 => c9 ((ab_lti hy hx).mpr e9)) p e s m args below meth c C H locs lsr hR hO hL hl)
theorem aw_icmp_le {x y off : Int} {tgt : Nat} (hd : decode Y.2.1 pc = .ok (.if_icmp .le off, 3)) (ht : (pc : Int) + off = (tgt : Int)) (hx : ab_In x) (hy : ab_In y) (kt : x ≤ y → aW G Y R Z kc ks h tgt ls st) (kf : ¬ x ≤ y → aW G Y R Z kc ks h (pc + 3) ls st) : aW G Y R Z kc ks h pc ls (ab_i y :: ab_i x :: st) := by
  intro p e s m args below meth c C H locs lsr hR hO hL hl
  exact lv_icmp_le C.1 C.2.1 hd ht (fun c9 => kt ((ab_lei hx hy).mp c9) p e s m args below meth c C H locs lsr hR hO hL hl) (fun c9 => kf (fun e9 => c9 ((ab_lei hx hy).mpr e9)) p e s m args below meth c C H locs lsr hR hO hL hl)
theorem aw_goto {off : Int} {tgt : Nat} (hd : decode Y.2.1 pc = .ok (.goto off, 3)) (ht : (pc : Int) + off = (tgt : Int)) (k : aW G Y R Z kc ks h tgt ls st) : aW G Y R Z kc ks h pc ls st := by
  intro p e s m args below meth c C H locs lsr hR hO hL hl
  exact lv_goto C.1 C.2.1 hd ht (k p e s m args below meth c C H locs lsr hR hO hL hl)
theorem aw_tabOut {dflt lo hi x : Int} {offs : Array Int} {len tgt : Nat} (hd : decode Y.2.1 pc = .ok (.tableswitch dflt lo hi offs, len)) (hx : ab_In x) (hq : x < lo ∨ hi < x) (ht : (pc : Int) + dflt = (tgt : Int)) (k : aW G Y R Z kc ks h tgt ls st) : aW G Y R Z kc ks h pc ls (ab_i x :: st) := by
  intro p e s m args below meth c C H locs lsr hR hO hL hl
  exact lv_tableOut C.1 C.2.1 hd (by rw [ab_to hx]; exact hq) ht (k p e s m args below meth c C H locs lsr hR hO hL hl)
theorem aw_tabIn {dflt lo hi x : Int} {offs : Array Int} {len tgt : Nat} {off : Int} (hd : decode Y.2.1 pc = .ok (.tableswitch dflt lo hi offs, len)) (hx : ab_In x) (h1 : ¬ x < lo) (h2 : ¬ hi < x) (ho : offs[(x - lo).toNat]? = some off) (ht : (pc : Int) + off = (tgt : Int)) (k : aW G Y R Z kc ks h tgt ls st) : aW G Y R Z kc ks h pc ls (ab_i x :: st) := by
  intro p e s m args below meth c C H locs lsr hR hO hL hl
  exact lv_tableIn C.1 C.2.1 hd (by rw [ab_to hx]; exact h1) (by rw [ab_to hx]; exact h2) (by rw [ab_to hx]; exact ho) ht (k p e s m args below meth c C H locs lsr hR hO hL hl)
theorem aw_look {dflt x : Int} {ps : Array (Int × Int)} {len tgt : Nat} {off : Int} (hd : decode Y.2.1 pc = .ok (.lookupswitch dflt ps, len)) (hp : (ps.toList.zip (ps.toList.drop 1)).all (fun (a, next) => a.1 < next.1) = true) (hx : ab_In x) (ho : Op.lookupswitch.offset ps.toList dflt x = off) (ht : (pc : Int) + off = (tgt : Int)) (k : aW G Y R Z kc ks h tgt ls st) : aW G Y R Z kc ks h pc ls (ab_i x :: st) := by
  intro p e s m args below meth c C H locs lsr hR hO hL hl
  exact lv_lookup C.1 C.2.1 hd hp (by rw [ab_to hx]; exact ho) ht (k p e s m args below meth c C H locs lsr hR hO hL hl)
theorem aw_le {ls' : List (Option ab_V)} (hle : ab_le ls' ls) (k : aW G Y R Z kc ks h pc ls' st) : aW G Y R Z kc ks h pc ls st := by
  intro p e s m args below meth c C H locs lsr hR hO hL hl
  exact k p e s m args below meth c C H locs lsr hR hO hL (ab_has_le hl hle)
theorem aw_widen {kc' ks' : Nat} (h1 : kc ≤ kc') (h2 : ks ≤ ks') (k : aW G Y R Z kc' ks' h pc ls st) : aW G Y R Z kc ks h pc ls st := by
  intro p e s m args below meth c C H locs lsr hR hO hL hl
  exact W.widen h1 h2 (k p e s m args below meth c C H locs lsr hR hO hL hl)
end AR
end
section
def ab_KC (k : Nat) (C : String) (T : u_T) (N : Nat) : Prop := k < 20 ∧ vwCl[k]? = some (C, T, N) ∧ (∀ j, j < N → parseFieldDescriptor (T j).2.2.1 = some (ab_ty k j)) ∧ (∀ a, a < N → ∀ b, b < N → a ≠ b → (T a).2.1 ≠ (T b).2.1) ∧ (∀ j, j < N → (T j).1 = C) ∧ ∀ w ∈ u_ws C T N, w ∈ lw_all
/-- the entry idx of the class own names field j of class k; fin: it is final -/
def ab_FL (own : String) (idx k j : Nat) (fin : Bool) : Prop := ∃ (C : String) (T : u_T) (N : Nat), ab_KC k C T N ∧ j < N ∧ (T j).2.2.2 = fin ∧ Cond.fieldLink own idx C (T j).2.1 (T j).2.2.1 ∈ lw_all
theorem ab_ad_lt {G : ab_G} {i : Nat} (h : i < 1000) : ab_ad G i = ab_B G + i := if_pos h
theorem ab_ad_ge {G : ab_G} {i : Nat} (h : 1000 ≤ i) : ab_ad G i = ab_ax G i := if_neg (by omega)
theorem ab_cell.kept {G : ab_G} {I I' : Nat → Nat → Int} {F F' : Nat → Nat → Nat} {i : Nat} {H H' : Heap} (h : ab_cell G I F i H) (hq : H'[ab_ad G i]? = H[ab_ad G i]?) (hI : ∀ j, I' i j = I i j) (hF : ∀ j, F' i j = F i j) : ab_cell G I' F' i H' := by
  unfold ab_cell at h ⊢
  split at h
  · rename_i hk
    rw [if_pos hk]
    obtain ⟨q, h1, h2⟩ := h
    exact ⟨q, h1, (h2.kept hq).to (fun j _ => by rw [hI, hF])⟩
  · rename_i hk
    rw [if_neg hk, hq, h]
    congr 2
    funext j
    rw [hI, hF]
theorem ab_Rep.put {G : ab_G} {n i : Nat} {I I' : Nat → Nat → Int} {F F' : Nat → Nat → Nat} {H H' : Heap} (h : ab_Rep G (n, I, F) H) (hi : 1 ≤ i ∧ i ≤ n) (hz : H'.size = H.size) (ho : ∀ q : Nat, q ≠ ab_ad G i → H'[q]? = H[q]?)
    (hI : ∀ a j, a ≠ i → I' a j = I a j) (hF : ∀ a j, a ≠ i → F' a j = F a j) (hc : ab_cell G I' F' i H') : ab_Rep G (n, I', F') H' := by
  obtain ⟨h1, h2, h3⟩ := h
  refine ⟨h1, hz.trans h2, fun a h4 h5 => ?_⟩
  by_cases hai : a = i
  · subst hai; exact hc
  · have h1' : n < 1000 := h1
    have h5' : a ≤ n := h5
    refine (h3 a h4 h5).kept (ho _ ?_) (fun j => hI a j hai) (fun j => hF a j hai)
    rw [ab_ad_lt (by omega), ab_ad_lt (by omega)]
    omega
theorem ab_cellO {G : ab_G} {n : Nat} {I : Nat → Nat → Int} {F : Nat → Nat → Nat} {H : Heap} {i k : Nat} {C : String} {T : u_T} {N : Nat} (hR : ab_Rep G (n, I, F) H) (hi : 1 ≤ i ∧ i ≤ n) (hk : (ab_sh i).1 = k) (hc : ab_KC k C T N) : t_OB (ab_ad G i) (G.2.1 k) N (G.2.2.1 k) H (fun j => ab_sv G (ab_tag (ab_ty k j)) (I i j) (F i j)) := by
  have h := hR.2.2 i hi.1 hi.2
  unfold ab_cell at h
  rw [if_pos (by rw [hk]; exact hc.1), hk] at h
  obtain ⟨q, h1, h2⟩ := h
  have hq : q = (C, T, N) := Option.some.inj (h1.symm.trans hc.2.1)
  subst hq
  exact h2
theorem ab_cellA {G : ab_G} {n : Nat} {I : Nat → Nat → Int} {F : Nat → Nat → Nat} {H : Heap} {i k l : Nat} (hR : ab_Rep G (n, I, F) H) (hi : 1 ≤ i ∧ i ≤ n) (hk : ab_sh i = (k, l)) (hk2 : 20 ≤ k) : H[ab_ad G i]? = some (arrV (ab_cT G k) l (fun j => ab_sv G (ab_tag (ab_et k)) (I i j) (F i j))) := by
  have h := hR.2.2 i hi.1 hi.2
  unfold ab_cell at h
  rw [if_neg (by rw [hk]; exact Nat.not_lt.mpr hk2), hk] at h
  exact h
theorem ab_u_s {I : Nat → Nat → Int} {i j : Nat} {v : Int} : ab_u I i j v i j = v := if_pos ⟨rfl, rfl⟩
theorem ab_u_i {I : Nat → Nat → Int} {i j a b : Nat} {v : Int} (h : a ≠ i) : ab_u I i j v a b = I a b := if_neg (fun e => h e.1)
theorem ab_u_j {I : Nat → Nat → Int} {i j a b : Nat} {v : Int} (h : b ≠ j) : ab_u I i j v a b = I a b := if_neg (fun e => h e.2)
theorem ab_w_s {I : Nat → Nat → Nat} {i j : Nat} {v : Nat} : ab_w I i j v i j = v := if_pos ⟨rfl, rfl⟩
theorem ab_w_i {I : Nat → Nat → Nat} {i j a b : Nat} {v : Nat} (h : a ≠ i) : ab_w I i j v a b = I a b := if_neg (fun e => h e.1)
theorem ab_w_j {I : Nat → Nat → Nat} {i j a b : Nat} {v : Nat} (h : b ≠ j) : ab_w I i j v a b = I a b := if_neg (fun e => h e.2)
theorem ab_ixn {j : Int} {l : Nat} (h0 : 0 ≤ j) (hl : j < l) (hl2 : l < 1000000) : (Int32.ofInt j).toNatClampNeg = j.toNat ∧ ¬ (Int32.ofInt j < 0 ∨ l ≤ (Int32.ofInt j).toNatClampNeg) := by
  have e1 : (Int32.ofInt j).toNatClampNeg = j.toNat := by
    show (Int32.ofInt j).toInt.toNat = _
    rw [ab_to ⟨by omega, by omega⟩]
  refine ⟨e1, fun h => ?_⟩
  rcases h with h | h
  · have := (ab_lti (x := j) (y := 0) ⟨by omega, by omega⟩ ab_in0).mp h
    omega
  · rw [e1] at h
    omega
section AH
variable {G : ab_G} {Y : ab_Y} {R : Room} {Z : ab_Zt} {kc ks : Nat} {n : Nat} {I : Nat → Nat → Int} {F : Nat → Nat → Nat} {pc : Nat} {ls : List (Option ab_V)} {st : List ab_V}
theorem aw_getc {idx k j i : Nat} {fin : Bool} {v : ab_V} (hd : decode Y.2.1 pc = .ok (.getfield idx, 3)) (hF : ab_FL Y.1.cls idx k j fin) (hi : 1 ≤ i ∧ i ≤ n) (hk : (ab_sh i).1 = k) (hv : ab_c G v = ab_sv G (ab_tag (ab_ty k j)) (I i j) (F i j))
    (kk : aW G Y R Z kc ks (n, I, F) (pc + 3) ls (v :: st)) : aW G Y R Z kc ks (n, I, F) pc ls (ab_r i :: st) := by
  intro p e s m args below meth c Cx H locs lsr hR hO hL hl
  have k9 := kk p e s m args below meth c Cx H locs lsr hR hO hL hl
  obtain ⟨C, T, N, hKC, hj, -, hln⟩ := hF
  obtain ⟨cell, q1, q2, q3, q4⟩ := ab_cellO hR hi hk hKC
  have hts := Cx.2.2.2.2.2.1
  obtain ⟨hS, hfc, kC, hkC, hkind⟩ := Cx.2.2.2.2.2.2.2.2.1.1 k _ hKC.2.1
  obtain ⟨cf, kf, fi, f, hfi, hsl⟩ := hS j hj
  rw [List.map_cons, aw_rv (by omega)]
  refine W.getf Cx.1 Cx.2.1 Cx.2.2.2.2.1 (hts _ hln) ((hKC.2.2.2.2.1 j hj) ▸ hfi) (u_facts hfc hkC (u_lays hts hKC.2.2.2.2.2 hj) hfi).1 q1 (by rw [q3]; exact fun h => by cases h) (v := ab_c G v) ?_ rfl rfl hd k9
  rw [hsl, q4 j hj, hv]
theorem aw_geti {idx k j i : Nat} {fin : Bool} (hd : decode Y.2.1 pc = .ok (.getfield idx, 3)) (hF : ab_FL Y.1.cls idx k j fin) (hi : 1 ≤ i ∧ i ≤ n) (hk : (ab_sh i).1 = k) (ht : ab_tag (ab_ty k j) = 0) (kk : aW G Y R Z kc ks (n, I, F) (pc + 3) ls (ab_i (I i j) :: st)) : aW G Y R Z kc ks (n, I, F) pc ls (ab_r i :: st) :=
  aw_getc hd hF hi hk (by rw [ht]; rfl) kk
theorem aw_getr {idx k j i : Nat} {fin : Bool} (hd : decode Y.2.1 pc = .ok (.getfield idx, 3)) (hF : ab_FL Y.1.cls idx k j fin) (hi : 1 ≤ i ∧ i ≤ n) (hk : (ab_sh i).1 = k) (ht : ab_tag (ab_ty k j) = 1) (kk : aW G Y R Z kc ks (n, I, F) (pc + 3) ls (ab_r (F i j) :: st)) : aW G Y R Z kc ks (n, I, F) pc ls (ab_r i :: st) :=
  aw_getc hd hF hi hk (by rw [ht]; rfl) kk
theorem aw_getl {idx k j i : Nat} {fin : Bool} (hd : decode Y.2.1 pc = .ok (.getfield idx, 3)) (hF : ab_FL Y.1.cls idx k j fin) (hi : 1 ≤ i ∧ i ≤ n) (hk : (ab_sh i).1 = k) (ht : ab_tag (ab_ty k j) = 2) (kk : aW G Y R Z kc ks (n, I, F) (pc + 3) ls (ab_l (I i j) :: st)) : aW G Y R Z kc ks (n, I, F) pc ls (ab_r i :: st) :=
  aw_getc hd hF hi hk (by rw [ht]; rfl) kk
theorem ab_fit {k j : Nat} (v : ab_V) (hv : ∃ x r, ab_c G v = ab_sv G (ab_tag (ab_ty k j)) x r) (hty : ab_ty k j = .int ∨ ab_ty k j = .long ∨ ab_tag (ab_ty k j) = 1) : narrow (ab_ty k j) (ab_c G v) = ab_c G v ∧ fits (ab_ty k j) (ab_c G v) = true := by
  obtain ⟨x, r, hv⟩ := hv
  rw [hv]
  rcases hty with h | h | h
  · rw [h]; exact ⟨rfl, rfl⟩
  · rw [h]; exact ⟨rfl, rfl⟩
  · rw [h]
    show narrow _ (ab_rv G r) = ab_rv G r ∧ fits _ (ab_rv G r) = true
    unfold ab_rv
    cases hq : ab_ty k j with
    | object C => split <;> exact ⟨rfl, rfl⟩
    | array t => split <;> exact ⟨rfl, rfl⟩
    | _ => rw [hq] at h; cases h
theorem aw_putc {idx k j i : Nat} {v : ab_V} {I' : Nat → Nat → Int} {F' : Nat → Nat → Nat} (fin : Bool) (hfin : fin = true → Y.1.name = "<init>" ∧ ∃ (T : u_T) (N : Nat), vwCl[k]? = some (Y.1.cls, T, N)) (hd : decode Y.2.1 pc = .ok (.putfield idx, 3)) (hF : ab_FL Y.1.cls idx k j fin) (hi : 1 ≤ i ∧ i ≤ n) (hk : (ab_sh i).1 = k) (hty : ab_ty k j = .int ∨ ab_ty k j = .long ∨ ab_tag (ab_ty k j) = 1)
    (hv : ab_c G v = ab_sv G (ab_tag (ab_ty k j)) (I' i j) (F' i j)) (hI : ∀ a b, ¬ (a = i ∧ b = j) → I' a b = I a b) (hF' : ∀ a b, ¬ (a = i ∧ b = j) → F' a b = F a b)
    (kk : aW G Y R Z kc ks (n, I', F') (pc + 3) ls st) : aW G Y R Z kc ks (n, I, F) pc ls (v :: ab_r i :: st) := by
  intro p e s m args below meth c Cx H locs lsr hR hO hL hl
  obtain ⟨C, T, N, hKC, hj, hfn, hln⟩ := hF
  obtain ⟨cell, q1, q2, q3, q4⟩ := ab_cellO hR hi hk hKC
  have hts := Cx.2.2.2.2.2.1
  have hK := Cx.2.2.2.2.2.2.2.2.1
  obtain ⟨hS, hfc, kC, hkC, hkind⟩ := hK.1 k _ hKC.2.1
  obtain ⟨cf, kf, fi, f, hfi, hsl⟩ := hS j hj
  have hap := va_apart (own := C) hts hKC.2.2.2.2.2 (ab_ty k) hKC.2.2.1 hKC.2.2.2.1 hK hKC.2.1
  have hi0 : i < 1000 := Nat.lt_of_le_of_lt hi.2 hR.1
  have hst := (u_facts hfc hkC (u_lays hts hKC.2.2.2.2.2 hj) hfi).1
  have hlay := hts _ (hKC.2.2.2.2.2 _ (u_in_lay hj))
  unfold u_lay at hlay
  obtain ⟨hn9, hf9⟩ := ab_fit (G := G) v ⟨_, _, hv⟩ hty
  have fi' : s.fieldFound? C (T j).2.1 (T j).2.2.1 = some (cf, kf, fi, f) := (hKC.2.2.2.2.1 j hj) ▸ hfi
  have fin9 : ∀ H' : Heap, H'[ab_ad G i]? = some (cell.setSlot f.slot (ab_c G v)) → H'.size = H.size → (∀ q, q ≠ ab_ad G i → H'[q]? = H[q]?) → W p G.1 e R s m args below meth c H' (locs ++ [⟨ab_ad G i, f.slot⟩]) kc ks (Z below args s) (F0 m (pc + 3) lsr (st.map (ab_c G))) := by
    intro H' e1 e2 e3
    have hB : ab_ad G i = ab_B G + i := ab_ad_lt hi0
    refine kk p e s m args below meth c Cx H' _ lsr (hR.put hi e2 e3 (fun a b h => hI a b (fun q => h q.1)) (fun a b h => hF' a b (fun q => h q.1)) ?_) (fun q hq => by rw [e3 q (by omega)]; exact hO q hq) (fun q hq => ?_) hl
    · unfold ab_cell
      rw [if_pos (by rw [hk]; exact hKC.1), hk]
      refine ⟨_, hKC.2.1, t_OB.to (V := updV (fun j => ab_sv G (ab_tag (ab_ty k j)) (I i j) (F i j)) j (ab_c G v)) ⟨_, e1, q2, q3, ?_⟩ (fun b hb => ?_)⟩
      · rw [hsl]
        exact t_set q4 hap hj _
      · unfold updV
        by_cases hbj : b = j
        · subst hbj
          rw [if_pos rfl, hv]
        · rw [if_neg hbj, hI i b (fun q => hbj q.2), hF' i b (fun q => hbj q.2)]
    · rcases List.mem_append.mp hq with h | h
      · exact hL q h
      · rw [List.mem_singleton.mp h]
        show ab_B G < ab_ad G i
        omega
  rw [List.map_cons, List.map_cons, aw_rv (by omega)]
  cases fin with
  | false =>
    rw [if_neg (by rw [hfn]; decide)] at hlay
    have h6 := u_store hfc hkC hkind hlay hfi (hKC.2.2.1 j hj) hn9 hf9
    exact W.putK Cx.1 Cx.2.1 (f := f) ⟨Cx.2.2.2.2.1, hts _ hln, ⟨_, _, _, fi'⟩, hst⟩ (by rw [q2]; exact h6) q1 q3 (by rw [hsl]; exact k2_hasslot (q4 j hj)) rfl rfl hd fin9
  | true =>
    rw [if_pos hfn] at hlay
    obtain ⟨hin, T2, N2, hown2⟩ := hfin rfl
    have hC : C = Y.1.cls := by
      have := hKC.2.1.symm.trans hown2
      exact congrArg Prod.fst (Option.some.inj this)
    have hcf : m.cls = cf := by
      obtain ⟨_, _, c', _, _, _, -, -, hf', -, -, -, hown3, -⟩ := Cond.laysFinal_spec hlay
      have e1 : c' = cf := by have := hfi.symm.trans hf'; simp at this; exact this.1.symm
      rw [hKC.2.2.2.2.1 j hj, hC] at hown3
      rw [← e1]; exact Option.some.inj (Cx.2.2.2.2.1.symm.trans hown3)
    have h6 := u_fits hfc hkC hkind (Or.inr hlay) hfi (hKC.2.2.1 j hj) hn9 hf9
    exact W.putFinK Cx.1 Cx.2.1 Cx.2.2.2.2.1 (hts _ hln) fi' hst hcf (Cx.2.2.2.2.2.2.2.1.trans hin) (by rw [q2]; exact h6) q1 q3 (by rw [hsl]; exact k2_hasslot (q4 j hj)) rfl rfl hd fin9
theorem aw_puti {idx k j i : Nat} {x : Int} (hd : decode Y.2.1 pc = .ok (.putfield idx, 3)) (hF : ab_FL Y.1.cls idx k j false) (hi : 1 ≤ i ∧ i ≤ n) (hk : (ab_sh i).1 = k) (ht : ab_ty k j = .int) (kk : aW G Y R Z kc ks (n, ab_u I i j x, F) (pc + 3) ls st) : aW G Y R Z kc ks (n, I, F) pc ls (ab_i x :: ab_r i :: st) :=
  aw_putc false (fun h => by cases h) hd hF hi hk (Or.inl ht) (by rw [ht, if_pos ⟨rfl, rfl⟩]; rfl) (fun a b h => if_neg h) (fun _ _ _ => rfl) kk
theorem aw_putl {idx k j i : Nat} {x : Int} (hd : decode Y.2.1 pc = .ok (.putfield idx, 3)) (hF : ab_FL Y.1.cls idx k j false) (hi : 1 ≤ i ∧ i ≤ n) (hk : (ab_sh i).1 = k) (ht : ab_ty k j = .long) (kk : aW G Y R Z kc ks (n, ab_u I i j x, F) (pc + 3) ls st) : aW G Y R Z kc ks (n, I, F) pc ls (ab_l x :: ab_r i :: st) :=
  aw_putc false (fun h => by cases h) hd hF hi hk (Or.inr (Or.inl ht)) (by rw [ht, if_pos ⟨rfl, rfl⟩]; rfl) (fun a b h => if_neg h) (fun _ _ _ => rfl) kk
theorem aw_putF {idx k j i r : Nat} (hd : decode Y.2.1 pc = .ok (.putfield idx, 3)) (hF : ab_FL Y.1.cls idx k j true) (hi : 1 ≤ i ∧ i ≤ n) (hk : (ab_sh i).1 = k) (ht : ab_tag (ab_ty k j) = 1) (hy : Y.1.name = "<init>") (hc : ∃ (T : u_T) (N : Nat), vwCl[k]? = some (Y.1.cls, T, N)) (kk : aW G Y R Z kc ks (n, I, ab_w F i j r) (pc + 3) ls st) : aW G Y R Z kc ks (n, I, F) pc ls (ab_r r :: ab_r i :: st) :=
  aw_putc true (fun _ => ⟨hy, hc⟩) hd hF hi hk (Or.inr (Or.inr ht)) (by rw [ht, if_pos ⟨rfl, rfl⟩]; rfl) (fun _ _ _ => rfl) (fun a b h => if_neg h) kk
-- arrays
theorem aw_iald {i l : Nat} {j : Int} (hd : decode Y.2.1 pc = .ok (.iaload, 1)) (hi : 1 ≤ i ∧ i ≤ n) (hk : ab_sh i = (20, l)) (h0 : 0 ≤ j) (hl9 : j < l) (hz : l < 1000000) (kk : aW G Y R Z kc ks (n, I, F) (pc + 1) ls (ab_i (I i j.toNat) :: st)) : aW G Y R Z kc ks (n, I, F) pc ls (ab_i j :: ab_r i :: st) := by
  intro p e s m args below meth c Cx H locs lsr hR hO hL hl
  have k9 := kk p e s m args below meth c Cx H locs lsr hR hO hL hl
  obtain ⟨e1, e2⟩ := ab_ixn h0 hl9 hz
  rw [List.map_cons, List.map_cons, aw_rv (by omega)]
  refine W.iald Cx.1 Cx.2.1 (ab_cellA hR hi hk (by omega)) ((Cx.2.2.2.2.2.2.2.2.1.2 0 (_, .int) rfl).1 l _) (fun h => by cases h) (by rw [arrV_size]; exact e2) (v := .int (Int32.ofInt (I i j.toNat))) ?_ rfl rfl hd k9
  rw [e1, arrV_read _ _ (by omega)]
  rfl
theorem aw_cald {i l : Nat} {j : Int} (hd : decode Y.2.1 pc = .ok (.caload, 1)) (hi : 1 ≤ i ∧ i ≤ n) (hk : ab_sh i = (21, l)) (h0 : 0 ≤ j) (hl9 : j < l) (hz : l < 1000000) (kk : aW G Y R Z kc ks (n, I, F) (pc + 1) ls (ab_i (I i j.toNat) :: st)) : aW G Y R Z kc ks (n, I, F) pc ls (ab_i j :: ab_r i :: st) := by
  intro p e s m args below meth c Cx H locs lsr hR hO hL hl
  have k9 := kk p e s m args below meth c Cx H locs lsr hR hO hL hl
  obtain ⟨e1, e2⟩ := ab_ixn h0 hl9 hz
  rw [List.map_cons, List.map_cons, aw_rv (by omega)]
  refine W.cald Cx.1 Cx.2.1 (ab_cellA hR hi hk (by omega)) ((Cx.2.2.2.2.2.2.2.2.1.2 1 (_, .char) rfl).1 l _) (fun h => by cases h) (by rw [arrV_size]; exact e2) (v := .int (Int32.ofInt (I i j.toNat))) ?_ rfl rfl hd k9
  rw [e1, arrV_read _ _ (by omega)]
  rfl
theorem aw_zald {i l : Nat} {j : Int} (hd : decode Y.2.1 pc = .ok (.baload, 1)) (hi : 1 ≤ i ∧ i ≤ n) (hk : ab_sh i = (22, l)) (h0 : 0 ≤ j) (hl9 : j < l) (hz : l < 1000000) (kk : aW G Y R Z kc ks (n, I, F) (pc + 1) ls (ab_i (I i j.toNat) :: st)) : aW G Y R Z kc ks (n, I, F) pc ls (ab_i j :: ab_r i :: st) := by
  intro p e s m args below meth c Cx H locs lsr hR hO hL hl
  have k9 := kk p e s m args below meth c Cx H locs lsr hR hO hL hl
  obtain ⟨e1, e2⟩ := ab_ixn h0 hl9 hz
  rw [List.map_cons, List.map_cons, aw_rv (by omega)]
  refine W.zald Cx.1 Cx.2.1 (ab_cellA hR hi hk (by omega)) ((Cx.2.2.2.2.2.2.2.2.1.2 2 (_, .boolean) rfl).1 l _) (fun h => by cases h) (by rw [arrV_size]; exact e2) (v := .int (Int32.ofInt (I i j.toNat))) ?_ rfl rfl hd k9
  rw [e1, arrV_read _ _ (by omega)]
  rfl
theorem aw_aald {i l k : Nat} {j : Int} (hd : decode Y.2.1 pc = .ok (.aaload, 1)) (hi : 1 ≤ i ∧ i ≤ n) (hk : ab_sh i = (k, l)) (hk2 : k = 23 ∨ k = 24) (h0 : 0 ≤ j) (hl9 : j < l) (hz : l < 1000000) (kk : aW G Y R Z kc ks (n, I, F) (pc + 1) ls (ab_r (F i j.toNat) :: st)) : aW G Y R Z kc ks (n, I, F) pc ls (ab_i j :: ab_r i :: st) := by
  intro p e s m args below meth c Cx H locs lsr hR hO hL hl
  have k9 := kk p e s m args below meth c Cx H locs lsr hR hO hL hl
  obtain ⟨e1, e2⟩ := ab_ixn h0 hl9 hz
  rw [List.map_cons, List.map_cons, aw_rv (by omega)]
  rcases hk2 with rfl | rfl
  · refine W.aald Cx.1 Cx.2.1 (ab_cellA hR hi hk (by omega)) ((Cx.2.2.2.2.2.2.2.2.1.2 3 (_, .array .int) rfl).1 l _) rfl (fun h => by cases h) (by rw [arrV_size]; exact e2) (v := ab_rv G (F i j.toNat)) ?_ rfl rfl hd k9
    rw [e1, arrV_read _ _ (by omega)]
    rfl
  · refine W.aald Cx.1 Cx.2.1 (ab_cellA hR hi hk (by omega)) ((Cx.2.2.2.2.2.2.2.2.1.2 4 (_, .object "ThreeOffers$Person") rfl).1 l _) rfl (fun h => by cases h) (by rw [arrV_size]; exact e2) (v := ab_rv G (F i j.toNat)) ?_ rfl rfl hd k9
    rw [e1, arrV_read _ _ (by omega)]
    rfl
theorem ab_put_arr {s : State} {H H' : Heap} {i k l j : Nat} {v : Value} {I' : Nat → Nat → Int} {F' : Nat → Nat → Nat} (hR : ab_Rep G (n, I, F) H) (hi : 1 ≤ i ∧ i ≤ n) (hk : ab_sh i = (k, l)) (hk2 : 20 ≤ k) (e1 : H'[ab_ad G i]? = some ((arrV (ab_cT G k) l (fun j => ab_sv G (ab_tag (ab_et k)) (I i j) (F i j))).setSlot j v)) (e2 : H'.size = H.size) (e3 : ∀ q : Nat, q ≠ ab_ad G i → H'[q]? = H[q]?)
    (hv : v = ab_sv G (ab_tag (ab_et k)) (I' i j) (F' i j)) (hI : ∀ a b, ¬ (a = i ∧ b = j) → I' a b = I a b) (hF' : ∀ a b, ¬ (a = i ∧ b = j) → F' a b = F a b) : ab_Rep G (n, I', F') H' := by
  refine hR.put hi e2 e3 (fun a b h => hI a b (fun q => h q.1)) (fun a b h => hF' a b (fun q => h q.1)) ?_
  unfold ab_cell
  rw [if_neg (by rw [hk]; exact Nat.not_lt.mpr hk2), hk, e1, arrV_store]
  congr 2
  funext b
  unfold updV
  by_cases hbj : b = j
  · subst hbj
    rw [if_pos rfl, hv]
  · rw [if_neg hbj, hI i b (fun q => hbj q.2), hF' i b (fun q => hbj q.2)]
theorem aw_iast {i l : Nat} {j x : Int} (hd : decode Y.2.1 pc = .ok (.iastore, 1)) (hi : 1 ≤ i ∧ i ≤ n) (hk : ab_sh i = (20, l)) (h0 : 0 ≤ j) (hl9 : j < l) (hz : l < 1000000) (kk : aW G Y R Z kc ks (n, ab_u I i j.toNat x, F) (pc + 1) ls st) : aW G Y R Z kc ks (n, I, F) pc ls (ab_i x :: ab_i j :: ab_r i :: st) := by
  intro p e s m args below meth c Cx H locs lsr hR hO hL hl
  obtain ⟨e1, e2⟩ := ab_ixn h0 hl9 hz
  have hB : ab_ad G i = ab_B G + i := ab_ad_lt (Nat.lt_of_le_of_lt hi.2 hR.1)
  rw [List.map_cons, List.map_cons, List.map_cons, aw_rv (by omega)]
  refine W.iast Cx.1 Cx.2.1 (ab_cellA hR hi hk (by omega)) ((Cx.2.2.2.2.2.2.2.2.1.2 0 (_, .int) rfl).1 l _) (fun h => by cases h) (by rw [arrV_size]; exact e2) rfl rfl hd (fun H' a1 a2 a3 => ?_)
  refine kk p e s m args below meth c Cx H' _ lsr (ab_put_arr (s := s) hR hi hk (by omega) (j := j.toNat) (by rw [a1, e1]) a2 a3 (by rw [ab_u_s]; rfl) (fun a b h => if_neg h) (fun _ _ _ => rfl)) (fun q hq => by rw [a3 q (by intro z; subst z; omega)]; exact hO q hq) (fun q hq => ?_) hl
  rcases List.mem_append.mp hq with h | h
  · exact hL q h
  · rw [List.mem_singleton.mp h]
    show ab_B G < ab_ad G i
    omega
theorem aw_cast {i l : Nat} {j x : Int} (hd : decode Y.2.1 pc = .ok (.castore, 1)) (hi : 1 ≤ i ∧ i ≤ n) (hk : ab_sh i = (21, l)) (h0 : 0 ≤ j) (hl9 : j < l) (hz : l < 1000000) (hx : (Int32.ofInt x).toUInt32.toUInt16.toUInt32.toInt32 = Int32.ofInt x) (kk : aW G Y R Z kc ks (n, ab_u I i j.toNat x, F) (pc + 1) ls st) : aW G Y R Z kc ks (n, I, F) pc ls (ab_i x :: ab_i j :: ab_r i :: st) := by
  intro p e s m args below meth c Cx H locs lsr hR hO hL hl
  obtain ⟨e1, e2⟩ := ab_ixn h0 hl9 hz
  have hB : ab_ad G i = ab_B G + i := ab_ad_lt (Nat.lt_of_le_of_lt hi.2 hR.1)
  rw [List.map_cons, List.map_cons, List.map_cons, aw_rv (by omega)]
  refine W.cast Cx.1 Cx.2.1 (ab_cellA hR hi hk (by omega)) ((Cx.2.2.2.2.2.2.2.2.1.2 1 (_, .char) rfl).1 l _) (fun h => by cases h) (by rw [arrV_size]; exact e2) rfl rfl hd (fun H' a1 a2 a3 => ?_)
  refine kk p e s m args below meth c Cx H' _ lsr (ab_put_arr (s := s) hR hi hk (by omega) (j := j.toNat) (by rw [a1, e1]) a2 a3 (by rw [ab_u_s]; first | exact congrArg Value.int hx | (simp only [narrow]; exact congrArg Value.int hx)) (fun a b h => if_neg h) (fun _ _ _ => rfl)) (fun q hq => by rw [a3 q (by intro z; subst z; omega)]; exact hO q hq) (fun q hq => ?_) hl
  rcases List.mem_append.mp hq with h | h
  · exact hL q h
  · rw [List.mem_singleton.mp h]
    show ab_B G < ab_ad G i
    omega
theorem aw_zast {i l : Nat} {j x : Int} (hd : decode Y.2.1 pc = .ok (.bastore, 1)) (hi : 1 ≤ i ∧ i ≤ n) (hk : ab_sh i = (22, l)) (h0 : 0 ≤ j) (hl9 : j < l) (hz : l < 1000000) (hx : x = 0 ∨ x = 1) (kk : aW G Y R Z kc ks (n, ab_u I i j.toNat x, F) (pc + 1) ls st) : aW G Y R Z kc ks (n, I, F) pc ls (ab_i x :: ab_i j :: ab_r i :: st) := by
  intro p e s m args below meth c Cx H locs lsr hR hO hL hl
  obtain ⟨e1, e2⟩ := ab_ixn h0 hl9 hz
  have hB : ab_ad G i = ab_B G + i := ab_ad_lt (Nat.lt_of_le_of_lt hi.2 hR.1)
  rw [List.map_cons, List.map_cons, List.map_cons, aw_rv (by omega)]
  refine W.zast Cx.1 Cx.2.1 (ab_cellA hR hi hk (by omega)) ((Cx.2.2.2.2.2.2.2.2.1.2 2 (_, .boolean) rfl).1 l _) (fun h => by cases h) (by rw [arrV_size]; exact e2) rfl rfl hd (fun H' a1 a2 a3 => ?_)
  refine kk p e s m args below meth c Cx H' _ lsr (ab_put_arr (s := s) hR hi hk (by omega) (j := j.toNat) (by rw [a1, e1]) a2 a3 (by rw [ab_u_s]; rcases hx with rfl | rfl <;> rfl) (fun a b h => if_neg h) (fun _ _ _ => rfl)) (fun q hq => by rw [a3 q (by intro z; subst z; omega)]; exact hO q hq) (fun q hq => ?_) hl
  rcases List.mem_append.mp hq with h | h
  · exact hL q h
  · rw [List.mem_singleton.mp h]
    show ab_B G < ab_ad G i
    omega
theorem aw_alen {i l k : Nat} (hd : decode Y.2.1 pc = .ok (.arraylength, 1)) (hi : 1 ≤ i ∧ i ≤ n) (hk : ab_sh i = (k, l)) (hk2 : k = 20) (kk : aW G Y R Z kc ks (n, I, F) (pc + 1) ls (ab_i (l : Int) :: st)) : aW G Y R Z kc ks (n, I, F) pc ls (ab_r i :: st) := by
  intro p e s m args below meth c Cx H locs lsr hR hO hL hl
  have k9 := kk p e s m args below meth c Cx H locs lsr hR hO hL hl
  subst hk2
  rw [List.map_cons, aw_rv (by omega)]
  refine W.alen Cx.1 Cx.2.1 (ab_cellA hR hi hk (by omega)) ((Cx.2.2.2.2.2.2.2.2.1.2 0 (_, .int) rfl).1 l _) (n := Int32.ofInt l) ?_ rfl rfl hd k9
  rw [arrV_size]
  exact Int32.ofInt_eq_ofNat.symm
end AH
end
section
def ab_Qc (G : ab_G) (Q : Option ab_V → ab_H → Prop) : Array Value → State → Outcome → State → Prop := fun _ st o t => ∃ (r : Option ab_V) (h' : ab_H), o = .returned (r.map (ab_c G)) ∧ Q r h' ∧ ab_Rep G h' t.heap ∧ ∀ q : Nat, q ≤ ab_B G → t.heap[q]? = st.heap[q]?
def ab_Pc (G : ab_G) (as : List ab_V) (h : ab_H) : Array Value → State → Prop := fun a U => a = (as.map (ab_c G)).toArray ∧ ab_Rep G h U.heap ∧ ab_Gl G U
abbrev ab_cw (Y : ab_Y) : Cond := Cond.code Y.1 Y.2.1 Y.2.2.1 Y.2.2.2
/-- THE CONTRACT: the method Y, called with the arguments as at the heap h, returns, and Q holds of its answer and of the heap then; d: how many frames it needs; mc, ms: cells and slots that it makes -/
def Ct (G : ab_G) (d mc ms : Nat) (Y : ab_Y) (as : List ab_V) (h : ab_H) (Q : Option ab_V → ab_H → Prop) : Prop :=
  Met G.1 Y.1 (ab_cw Y :: lw_all) (ab_rm d mc ms) (ab_Pc G as h) (ab_Qc G Q) mc ms (ab_A G)
def ab_Z (G : ab_G) (Q : Option ab_V → ab_H → Prop) (mc ms : Nat) : ab_Zt := fun below args s => MQ below (ab_Qc G Q) args s mc ms (ab_A G)
/-- what is known of a method by the tables: np parameters (the receiver not counted) -/
def ab_YK (Y : ab_Y) (np : Nat) : Prop := ab_cw Y ∈ lw_all ∧ Cond.initialized Y.1.cls ∈ lw_all ∧ (Y.1.cls ≠ "java/lang/invoke/MethodHandle" ∧ Y.1.cls ≠ "java/lang/invoke/VarHandle") ∧ (parseMethodDescriptor Y.1.desc).map (fun d => d.parameters.length) = some np ∧ plainName Y.1.cls = true
theorem ab_goods {Y : ab_Y} (h : ab_cw Y ∈ lw_all) : GoodIn lw_all (ab_cw Y :: lw_all) := fun w hw => by
  rcases List.mem_cons.mp hw with e | e
  · subst e; exact ⟨h, good_of_word (List.mem_filter.mp h).2⟩
  · exact ⟨e, good_of_word (List.mem_filter.mp e).2⟩
theorem ab_blind {G : ab_G} {as : List ab_V} {h : ab_H} : FrameBlind (ab_Pc G as h) := fun a U g mk q => ⟨q.1, q.2.1, q.2.2.same (s := U) (U := U.calling g mk a) rfl rfl⟩
theorem Ct.ofW {G : ab_G} {d mc ms np : Nat} {Y : ab_Y} {as : List ab_V} {h : ab_H} {Q : Option ab_V → ab_H → Prop} (hY : ab_YK Y np) {ls : List (Option ab_V)} (hn : (ab_en as).length ≤ Y.2.2.1) (hls : ab_en as ++ List.replicate (Y.2.2.1 - (ab_en as).length) none = ls) (body : aW G Y (ab_rm d mc ms) (ab_Z G Q mc ms) 0 0 h 0 ls []) : Ct G d mc ms Y as h Q := by
  refine Met.ofW (cc := Y.2.1) (maxL := Y.2.2.1) (ret := Y.2.2.2) hY.2.2.2.2 rfl ?_
  intro p e s m args below meth c s₁ B hml hv
  obtain ⟨rfl, hR, hG⟩ := hv
  have hts := atoms_spec (ws := ab_cw Y :: lw_all) B.pre
  have hl := lv_entry (as.map (ab_c G)) (n := Y.2.2.1) (by rw [ab_en_len]; exact hn)
  rw [lg_entry_eq]
  rw [ab_en_args G as 0] at hl
  subst hls
  exact body p e s m _ below meth c ⟨B.exec, B.bytes, B.returns, hml, findClass_of_methodNamed B.named, fun w hw => hts w (List.mem_cons_of_mem _ hw), B.notSynchronized, (name_of_methodNamed B.named B.method).1, hG⟩ s.heap [] _ hR (fun _ _ => rfl) (fun _ h => by cases h) (ab_lo_pad G _ _ hl)
/-- a contract with a weaker end, more room -/
theorem Ct.mono {G : ab_G} {d mc ms : Nat} {Y : ab_Y} {as : List ab_V} {h : ab_H} {Q Q' : Option ab_V → ab_H → Prop} (hC : Ct G d mc ms Y as h Q) (hQ : ∀ r h', Q r h' → Q' r h') : Ct G d mc ms Y as h Q' := by
  intro p e ha hc hk s m args below hf happ hP hK
  obtain ⟨k, o, h1, h2, h3, ⟨r, h', hq⟩, hL⟩ := hC p e ha hc hk s m args below hf happ hP hK
  exact ⟨k, o, h1, h2, h3, ⟨r, h', hq.1, hQ r h' hq.2.1, hq.2.2⟩, hL⟩
theorem ab_cats {G : ab_G} : ∀ (rest : List ab_V), (((rest.map (ab_c G)).map fun v => v.category)).sum ≤ 2 * rest.length
  | [] => by simp
  | v :: t => by
    have := ab_cats (G := G) t
    have hc : (ab_c G v).category ≤ 2 := by rw [ab_cat]; split <;> omega
    simp only [List.map_cons, List.sum_cons, List.length_cons]
    omega
theorem ab_callOK {G : ab_G} {Y' : ab_Y} {d' mc ms np idx : Nat} {R : Room} {s : State} {args : Array Value} {own : String} (hts : ∀ w ∈ lw_all, w.before args s = true) (hY : ab_YK Y' np) (hl : Cond.methodLink own idx Y'.1 ∈ lw_all) (h1 : d' + 1 ≤ R.frames) (h2 : 64 * d' + 19 + Y'.2.2.1 ≤ R.locals) : CallB R s args own idx Y'.1 Y'.2.1 Y'.2.2.1 Y'.2.2.2 (ab_cw Y' :: lw_all) (ab_rm d' mc ms) mc ms np := by
  refine ⟨rfl, rfl, h1, by show 8 + (Y'.2.2.1 + 11) + 64 * d' ≤ _; omega, pay_in hts (ab_goods hY.1), List.mem_cons_self, hts _ hY.1, hts _ hY.2.1, hY.2.2.1, fun sig h => ?_, hts _ hl⟩
  have h2 := hY.2.2.2.1
  rw [h] at h2
  exact (Option.some.inj h2).symm
section AC
variable {G : ab_G} {Y : ab_Y} {R : Room} {Z : ab_Zt} {kc ks : Nat} {h : ab_H} {pc : Nat} {ls : List (Option ab_V)} {st : List ab_V}
theorem ab_after {p : Program} {e : Env} {s : State} {m : MethodId} {args : Array Value} {below : List Frame} {meth : Method} {c : Code} {H : Heap} {locs : List Loc} {lsr : Array Slot} {mc ms : Nat} {rest : List ab_V} {a : Array Value} {Q' : Option ab_V → ab_H → Prop} {st0 : List Value}
    (Cx : ab_Cx G Y p s m args meth c) (hO : ∀ q : Nat, q ≤ ab_B G → H[q]? = s.heap[q]?) (hL : ∀ q ∈ locs, ab_B G < q.base) (hl : lv_has lsr Y.2.2.1 (ab_lo G 0 ls))
    (hr : va_Run p G.1 e R s m args below meth c H locs kc ks mc ms (F0 m pc lsr st0) (rest.map (ab_c G)) (ab_Qc G Q' a) (ab_A G))
    (kk : ∀ (r : Option ab_V) (h' : ab_H), Q' r h' → aW G Y R Z (kc + mc) (ks + ms) h' (pc + 3) ls (r.toList ++ rest)) : W p G.1 e R s m args below meth c H locs kc ks (Z below args s) (F0 m pc lsr st0) := by
  intro T hT X
  obtain ⟨v, st₀, t, T', L, h0, X', hLf, e1, e2, ⟨r, h', hv, hQ', hR', hO'⟩, hgo⟩ := hr T hT X
  have hv' : v = r.map (ab_c G) := Outcome.returned.inj hv
  subst hv'
  obtain ⟨t2, a1, b1⟩ := kk r h' hQ' p e s m args below meth c Cx T'.heap (locs ++ L) lsr (by rw [e1]; exact hR') (fun q hq => by rw [e1, hO' q hq, h0]; exact hO q hq) (fun q hq => by
    rcases List.mem_append.mp hq with h9 | h9
    · exact hL q h9
    · exact hLf q h9) hl T' rfl X'
  refine ⟨t2, hgo t2 ?_, b1⟩
  have e9 : (r.toList ++ rest).map (ab_c G) = (r.map (ab_c G)).toList ++ rest.map (ab_c G) := by
    rw [List.map_append]; cases r <;> rfl
  rw [e9] at a1
  exact a1
theorem aw_callS {d' mc ms idx : Nat} {Y' : ab_Y} {as rest : List ab_V} {Q' : Option ab_V → ab_H → Prop} (hd : decode Y.2.1 pc = .ok (.invokestatic idx, 3)) (hM : Ct G d' mc ms Y' as h Q') (hY : ab_YK Y' as.length) (hs : Cond.static Y'.1 ∈ lw_all) (hlk : Cond.methodLink Y.1.cls idx Y'.1 ∈ lw_all) (hst : st = as.reverse ++ rest) (hw : rest.length ≤ 4) (h1 : d' + 1 ≤ R.frames) (h2 : 64 * d' + 19 + Y'.2.2.1 ≤ R.locals) (h3 : kc + mc ≤ R.cells) (h4 : ks + ms ≤ R.slots)
    (kk : ∀ (r : Option ab_V) (h' : ab_H), Q' r h' → aW G Y R Z (kc + mc) (ks + ms) h' (pc + 3) ls (r.toList ++ rest)) : aW G Y R Z kc ks h pc ls st := by
  intro p e s m args below meth c Cx H locs lsr hR hO hL hl
  have hts := Cx.2.2.2.2.2.1
  subst hst
  have hb : ab_B G < H.size := by rw [hR.2.1]; omega
  refine ab_after Cx hO hL hl (va_runS (As := as.map (ab_c G)) (Ts := lw_all) ⟨Cx.1, Cx.2.1, Cx.2.2.2.1, Cx.2.2.2.2.1, hts⟩ hM ⟨ab_callOK (G := G) hts hY hlk h1 h2, hts _ hs⟩ ⟨ab_blind, fun U hU hW => ⟨rfl, by rw [hU]; exact hR, Cx.2.2.2.2.2.2.2.2.warm hW (fun q hq => by rw [hU]; exact hO q hq) (by rw [hU]; exact hb)⟩⟩ rfl (by rw [List.length_map]) hl.1 (by show (as.reverse ++ rest).map _ = _; rw [List.map_append, List.map_reverse]) (by have := ab_cats (G := G) rest; show 2 * 0 + _ ≤ 8; omega) hd ⟨h3, h4⟩) kk
theorem ab_rcv {n : Nat} {I : Nat → Nat → Int} {F : Nat → Nat → Nat} {s : State} {H : Heap} {i k : Nat} {C : String} {T : u_T} {N : Nat} (hG : ab_Gl G s) (hR : ab_Rep G (n, I, F) H) (hi : 1 ≤ i ∧ i ≤ n) (hk : (ab_sh i).1 = k) (hc : ab_KC k C T N) : ∃ cellB : Cell, H[ab_ad G i]? = some cellB ∧ cellB.vm.isStatics = false ∧ s.vm.findClass C = some cellB.cls := by
  obtain ⟨cell, q1, q2, q3, q4⟩ := ab_cellO hR hi hk hc
  obtain ⟨hS, hfc, -⟩ := hG.1.1 k _ hc.2.1
  exact ⟨cell, q1, by rw [q3]; rfl, by rw [q2]; exact hfc⟩
theorem aw_callV {d' mc ms idx b k : Nat} {C : String} {T : u_T} {N : Nat} {Y' : ab_Y} {as rest : List ab_V} {Q' : Option ab_V → ab_H → Prop} (hd : decode Y.2.1 pc = .ok (.invokevirtual idx, 3)) (hM : Ct G d' mc ms Y' (ab_r b :: as) h Q') (hi : 1 ≤ b ∧ b ≤ h.1) (hk : (ab_sh b).1 = k) (hc : ab_KC k C T N) (hC : Y'.1.cls = C) (hY : ab_YK Y' as.length) (hin : Cond.instanceMethod Y'.1 ∈ lw_all) (hse : Cond.selects Y'.1.cls Y'.1 Y'.1 ∈ lw_all) (hlk : Cond.methodLink Y.1.cls idx Y'.1 ∈ lw_all) (hst : st = as.reverse ++ ab_r b :: rest) (hw : rest.length ≤ 4) (h1 : d' + 1 ≤ R.frames) (h2 : 64 * d' + 19 + Y'.2.2.1 ≤ R.locals) (h3 : kc + mc ≤ R.cells) (h4 : ks + ms ≤ R.slots)
    (kk : ∀ (r : Option ab_V) (h' : ab_H), Q' r h' → aW G Y R Z (kc + mc) (ks + ms) h' (pc + 3) ls (r.toList ++ rest)) : aW G Y R Z kc ks h pc ls st := by
  intro p e s m args below meth c Cx H locs lsr hR hO hL hl
  have hts := Cx.2.2.2.2.2.1
  subst hst
  have hb : ab_B G < H.size := by rw [hR.2.1]; omega
  have hG := Cx.2.2.2.2.2.2.2.2
  have e0 : ab_c G (ab_r b) = .ref (ab_ad G b) := aw_rv (by omega)
  subst hC
  refine ab_after Cx hO hL hl (va_runV (C := Y'.1.cls) (b := ab_ad G b) (As := as.map (ab_c G)) (Ts := lw_all) ⟨Cx.1, Cx.2.1, Cx.2.2.2.1, Cx.2.2.2.2.1, hts⟩ hM ⟨ab_callOK (G := G) hts hY hlk h1 h2, hts _ hin, hts _ hse⟩ ⟨ab_blind, ab_rcv (n := h.1) (I := h.2.1) (F := h.2.2) hG hR hi hk hc, fun U hU hW => ⟨by rw [List.map_cons, e0], by rw [hU]; exact hR, hG.warm hW (fun q hq => by rw [hU]; exact hO q hq) (by rw [hU]; exact hb)⟩⟩ rfl (by rw [List.length_map]) hl.1 (by show (as.reverse ++ ab_r b :: rest).map _ = _; rw [List.map_append, List.map_reverse, List.map_cons, e0]) (by have := ab_cats (G := G) rest; show 2 * 0 + _ ≤ 8; omega) hd ⟨h3, h4⟩) kk
theorem aw_callI {d' mc ms idx b : Nat} {Y' : ab_Y} {as rest : List ab_V} {Q' : Option ab_V → ab_H → Prop} (hd : decode Y.2.1 pc = .ok (.invokespecial idx, 3)) (hM : Ct G d' mc ms Y' (ab_r b :: as) h Q') (hb0 : ¬ b = 0) (hnm : Y'.1.name = "<init>") (hret : Y'.2.2.2 = none) (hY : ab_YK Y' as.length) (hin : Cond.instanceMethod Y'.1 ∈ lw_all) (hlk : Cond.methodLink Y.1.cls idx Y'.1 ∈ lw_all) (hst : st = as.reverse ++ ab_r b :: rest) (hw : rest.length ≤ 4) (h1 : d' + 1 ≤ R.frames) (h2 : 64 * d' + 19 + Y'.2.2.1 ≤ R.locals) (h3 : kc + mc ≤ R.cells) (h4 : ks + ms ≤ R.slots)
    (kk : ∀ (r : Option ab_V) (h' : ab_H), Q' r h' → aW G Y R Z (kc + mc) (ks + ms) h' (pc + 3) ls (r.toList ++ rest)) : aW G Y R Z kc ks h pc ls st := by
  intro p e s m args below meth c Cx H locs lsr hR hO hL hl
  have hts := Cx.2.2.2.2.2.1
  subst hst
  have hb : ab_B G < H.size := by rw [hR.2.1]; omega
  have hG := Cx.2.2.2.2.2.2.2.2
  have e0 : ab_c G (ab_r b) = .ref (ab_ad G b) := aw_rv hb0
  have hcb := ab_callOK (G := G) (R := R) (args := args) (mc := mc) (ms := ms) (d' := d') hts hY hlk h1 h2
  rw [hret] at hcb
  refine ab_after Cx hO hL hl (va_runI (b := ab_ad G b) (As := as.map (ab_c G)) (Ts := lw_all) ⟨Cx.1, Cx.2.1, Cx.2.2.2.1, Cx.2.2.2.2.1, hts⟩ hM ⟨hcb, hnm, hts _ hin⟩ ⟨ab_blind, fun U hU hW => ⟨by rw [List.map_cons, e0], by rw [hU]; exact hR, hG.warm hW (fun q hq => by rw [hU]; exact hO q hq) (by rw [hU]; exact hb)⟩⟩ rfl (by rw [List.length_map]) hl.1 (by show (as.reverse ++ ab_r b :: rest).map _ = _; rw [List.map_append, List.map_reverse, List.map_cons, e0]) (by have := ab_cats (G := G) rest; show 2 * 0 + _ ≤ 8; omega) hd ⟨h3, h4⟩) kk
theorem aw_callIN {d' mc ms idx b : Nat} {host : String} {Y' : ab_Y} {as rest : List ab_V} {Q' : Option ab_V → ab_H → Prop} (hd : decode Y.2.1 pc = .ok (.invokespecial idx, 3)) (hM : Ct G d' mc ms Y' (ab_r b :: as) h Q') (hb0 : ¬ b = 0) (hnm : Y'.1.name = "<init>") (hret : Y'.2.2.2 = none) (hY : ab_YK Y' as.length) (hin : Cond.instanceMethod Y'.1 ∈ lw_all) (hlk : Cond.methodLinkNest Y.1.cls idx Y'.1 host ∈ lw_all) (hst : st = as.reverse ++ ab_r b :: rest) (hw : rest.length ≤ 4) (h1 : d' + 1 ≤ R.frames) (h2 : 64 * d' + 19 + Y'.2.2.1 ≤ R.locals) (h3 : kc + mc ≤ R.cells) (h4 : ks + ms ≤ R.slots)
    (kk : ∀ (r : Option ab_V) (h' : ab_H), Q' r h' → aW G Y R Z (kc + mc) (ks + ms) h' (pc + 3) ls (r.toList ++ rest)) : aW G Y R Z kc ks h pc ls st := by
  intro p e s m args below meth c Cx H locs lsr hR hO hL hl
  have hts := Cx.2.2.2.2.2.1
  subst hst
  have hb : ab_B G < H.size := by rw [hR.2.1]; omega
  have hG := Cx.2.2.2.2.2.2.2.2
  have e0 : ab_c G (ab_r b) = .ref (ab_ad G b) := aw_rv hb0
  have hcb : va_CN R s args Y.1.cls idx Y'.1 host Y'.2.1 Y'.2.2.1 Y'.2.2.2 (ab_cw Y' :: lw_all) (ab_rm d' mc ms) mc ms as.length := by
    refine ⟨⟨rfl, rfl, h1, by show 8 + (Y'.2.2.1 + 11) + 64 * d' ≤ _; omega, pay_in hts (ab_goods hY.1), List.mem_cons_self⟩, hts _ hY.1, hts _ hY.2.1, hY.2.2.1, fun sig h => ?_, hts _ hlk⟩
    have h2 := hY.2.2.2.1
    rw [h] at h2
    exact (Option.some.inj h2).symm
  rw [hret] at hcb
  refine ab_after Cx hO hL hl (va_runIN (b := ab_ad G b) (As := as.map (ab_c G)) (Ts := lw_all) ⟨Cx.1, Cx.2.1, Cx.2.2.2.1, Cx.2.2.2.2.1, hts⟩ hM ⟨hcb, hnm, hts _ hin⟩ ⟨ab_blind, fun U hU hW => ⟨by rw [List.map_cons, e0], by rw [hU]; exact hR, hG.warm hW (fun q hq => by rw [hU]; exact hO q hq) (by rw [hU]; exact hb)⟩⟩ rfl (by rw [List.length_map]) hl.1 (by show (as.reverse ++ ab_r b :: rest).map _ = _; rw [List.map_append, List.map_reverse, List.map_cons, e0]) (by have := ab_cats (G := G) rest; show 2 * 0 + _ ≤ 8; omega) hd ⟨h3, h4⟩) kk
-- returns
theorem ab_end {Q : Option ab_V → ab_H → Prop} {s t : State} {H : Heap} {args : Array Value} {r : Option ab_V} (hR : ab_Rep G h H) (hO : ∀ q : Nat, q ≤ ab_B G → H[q]? = s.heap[q]?) (hq : Q r h) (ht : t.heap = H) : ab_Qc G Q args s (.returned (r.map (ab_c G))) t :=
  ⟨r, h, rfl, hq, by rw [ht]; exact hR, fun q h9 => by rw [ht]; exact hO q h9⟩
theorem aw_ireturn {Q : Option ab_V → ab_H → Prop} {z : Int} (hd : decode Y.2.1 pc = .ok (.ireturn, 1)) (hr : Y.2.2.2 = some .int) (hq : Q (some (ab_i z)) h) : aW G Y R (ab_Z G Q kc ks) kc ks h pc ls [ab_i z] := by
  intro p e s m args below meth c Cx H locs lsr hR hO hL hl
  exact W.iret Cx.1 Cx.2.1 (Cx.2.2.1.trans hr) (fun t ht hW => ab_end (r := some (ab_i z)) hR hO hq ht) hL hd Cx.2.2.2.2.2.2.1
theorem aw_zreturn {Q : Option ab_V → ab_H → Prop} {z : Int} {ty : FieldType} (hd : decode Y.2.1 pc = .ok (.ireturn, 1)) (hr : Y.2.2.2 = some ty) (hn : narrow ty (.int (Int32.ofInt z)) = .int (Int32.ofInt z)) (hq : Q (some (ab_i z)) h) : aW G Y R (ab_Z G Q kc ks) kc ks h pc ls [ab_i z] := by
  intro p e s m args below meth c Cx H locs lsr hR hO hL hl
  exact W.zret Cx.1 Cx.2.1 (Cx.2.2.1.trans hr) hn (fun t ht hW => ab_end (r := some (ab_i z)) hR hO hq ht) hL hd Cx.2.2.2.2.2.2.1
theorem aw_breturn {Q : Option ab_V → ab_H → Prop} {z : Int} (hd : decode Y.2.1 pc = .ok (.ireturn, 1)) (hr : Y.2.2.2 = some .boolean) (hz : z = 0 ∨ z = 1) (hq : Q (some (ab_i z)) h) : aW G Y R (ab_Z G Q kc ks) kc ks h pc ls [ab_i z] :=
  aw_zreturn hd hr (by rcases hz with rfl | rfl <;> rfl) hq
theorem aw_lreturn {Q : Option ab_V → ab_H → Prop} {z : Int} (hd : decode Y.2.1 pc = .ok (.lreturn, 1)) (hr : Y.2.2.2 = some .long) (hq : Q (some (ab_l z)) h) : aW G Y R (ab_Z G Q kc ks) kc ks h pc ls [ab_l z] := by
  intro p e s m args below meth c Cx H locs lsr hR hO hL hl
  exact W.lret Cx.1 Cx.2.1 (Cx.2.2.1.trans hr) (fun t ht hW => ab_end (r := some (ab_l z)) hR hO hq ht) hL hd Cx.2.2.2.2.2.2.1
theorem aw_return {Q : Option ab_V → ab_H → Prop} (hd : decode Y.2.1 pc = .ok (.return_, 1)) (hr : Y.2.2.2 = none) (hq : Q none h) : aW G Y R (ab_Z G Q kc ks) kc ks h pc ls [] := by
  intro p e s m args below meth c Cx H locs lsr hR hO hL hl
  exact W.vret Cx.1 Cx.2.1 (Cx.2.2.1.trans hr) (fun t ht hW => ab_end (r := none) hR hO hq ht) hL hd Cx.2.2.2.2.2.2.1
-- statics, old arrays
theorem ab_vaS {s : State} {H : Heap} {locs : List Loc} (hR : ab_Rep G h H) (hG : ab_Gl G s) (hs : s.heap.size ≤ H.size) (hO : ∀ q : Nat, q ≤ ab_B G → H[q]? = s.heap[q]?) (hL : ∀ q ∈ locs, ab_B G < q.base) : va_S (ab_A G) s.heap H locs :=
  ⟨hs, fun q _ hq => hO q (Nat.not_lt.mp hq), hL⟩
end AC
end
section
theorem ab_px {k : Nat} (h : k = 24) : ab_et k = .object "ThreeOffers$Person" := by rw [h]; rfl
section AM
variable {G : ab_G} {Y : ab_Y} {R : Room} {Z : ab_Zt} {kc ks : Nat} {n : Nat} {I : Nat → Nat → Int} {F : Nat → Nat → Nat} {h : ab_H} {pc : Nat} {ls : List (Option ab_V)} {st : List ab_V}
theorem aw_aast {i l v : Nat} {j : Int} (hkc : ab_KC 4 RX4 TX4 5) (hd : decode Y.2.1 pc = .ok (.aastore, 1)) (hi : 1 ≤ i ∧ i ≤ n) (hk : ab_sh i = (24, l)) (h0 : 0 ≤ j) (hl9 : j < l) (hz : l < 1000000) (hv : 1 ≤ v ∧ v ≤ n) (hvk : (ab_sh v).1 = 4) (kk : aW G Y R Z kc ks (n, I, ab_w F i j.toNat v) (pc + 1) ls st) : aW G Y R Z kc ks (n, I, F) pc ls (ab_r v :: ab_i j :: ab_r i :: st) := by
  intro p e s m args below meth c Cx H locs lsr hR hO hL hl
  obtain ⟨e1, e2⟩ := ab_ixn h0 hl9 hz
  have hB : ab_ad G i = ab_B G + i := ab_ad_lt (Nat.lt_of_le_of_lt hi.2 hR.1)
  have hK := Cx.2.2.2.2.2.2.2.2.1
  rw [List.map_cons, List.map_cons, List.map_cons, aw_rv (by omega), aw_rv (by omega)]
  obtain ⟨cellV, g1, g2, g3, -⟩ := ab_cellO hR hv hvk hkc
  have hcls := (hK.1 4 _ hkc.2.1).2
  obtain ⟨kA, comp, k1, k2, k3, -⟩ := (hK.2 4 (_, .object "ThreeOffers$Person") rfl).2
  have hcomp : comp = G.2.1 4 := Option.some.inj (k3.symm.trans hcls.1)
  subst hcomp
  obtain ⟨kC, hkC, -⟩ := hcls.2
  have e3 : ¬ Int32.ofInt j < 0 := fun q => e2 (Or.inl q)
  have e4 : (Int32.ofInt j).toNatClampNeg < l := Nat.not_le.mp fun q => e2 (Or.inr q)
  refine W.aast Cx.1 Cx.2.1 (ab_cellA hR hi hk (by omega)) (fun q h => by cases h) (fun h => by cases h) k1 k2 rfl hkC ⟨e3, by rw [arrV_size]; exact e4⟩ g1 (fun q h => by rw [g3] at h; cases h) (by rw [g2]; exact hkC) (by rw [g2]; exact va_asg _ _) rfl rfl hd fun H' a1 a2 a3 => ?_
  refine kk p e s m args below meth c Cx H' _ lsr (ab_put_arr (s := s) hR hi hk (by omega) (j := j.toNat) (by rw [a1, e1]) a2 a3 (by rw [ab_w_s]; exact (aw_rv (by omega)).symm) (fun _ _ _ => rfl) (fun a b h => if_neg h)) (fun q hq => by rw [a3 q (by intro z; subst z; omega)]; exact hO q hq) (fun q hq => ?_) hl
  rcases List.mem_append.mp hq with h | h
  · exact hL q h
  · rw [List.mem_singleton.mp h]
    show ab_B G < ab_ad G i
    omega
theorem aw_gets {C nm ds : String} {idx : Nat} {w : ab_V} (hd : decode Y.2.1 pc = .ok (.getstatic idx, 3)) (hZ : ∀ s : State, ab_Gl G s → va_Z C nm ds (ab_c G w) (ab_A G) s s.heap) (hw : Cond.fieldLink Y.1.cls idx C nm ds ∈ lw_all) (k : aW G Y R Z kc ks h (pc + 3) ls (w :: st)) : aW G Y R Z kc ks h pc ls st := by
  intro p e s m args below meth c Cx H locs lsr hR hO hL hl
  obtain ⟨cf, kf, fi, f, a, cell, h1, h2, h3, h4, h5, h6, h7, h8⟩ := hZ s Cx.2.2.2.2.2.2.2.2
  exact W.gets Cx.1 Cx.2.1 Cx.2.2.2.2.1 (Cx.2.2.2.2.2.1 _ hw) h1 h2 h3 h4 (by rw [hO a (Nat.not_lt.mp h8)]; exact h5) (fun e => by rw [e] at h6; cases h6) h7 rfl hd (k p e s m args below meth c Cx H locs lsr hR hO hL hl)
theorem aw_getsN {C nm ds host : String} {idx : Nat} {w : ab_V} (hd : decode Y.2.1 pc = .ok (.getstatic idx, 3)) (hZ : ∀ s : State, ab_Gl G s → va_Z C nm ds (ab_c G w) (ab_A G) s s.heap) (hw : Cond.fieldLinkNest Y.1.cls idx C nm ds host ∈ lw_all) (k : aW G Y R Z kc ks h (pc + 3) ls (w :: st)) : aW G Y R Z kc ks h pc ls st := by
  intro p e s m args below meth c Cx H locs lsr hR hO hL hl
  obtain ⟨cf, kf, fi, f, a, cell, h1, h2, h3, h4, h5, h6, h7, h8⟩ := hZ s Cx.2.2.2.2.2.2.2.2
  exact va_WgetsN Cx.1 Cx.2.1 Cx.2.2.2.2.1 (Cx.2.2.2.2.2.1 _ hw) h1 h2 h3 h4 (by rw [hO a (Nat.not_lt.mp h8)]; exact h5) (fun e => by rw [e] at h6; cases h6) h7 rfl hd (k p e s m args below meth c Cx H locs lsr hR hO hL hl)
theorem ab_zfig (s : State) (hG : ab_Gl G s) : va_Z "ThreeOffers" "FIGURES" "[I" (ab_c G (ab_r 1000)) (ab_A G) s s.heap := by
  rw [aw_rv (by omega), ab_ad_ge (by omega)]; exact hG.2.1.1
theorem ab_zfac (s : State) (hG : ab_Gl G s) : va_Z "ThreeOffers" "FACTORIALS" "[I" (ab_c G (ab_r 1001)) (ab_A G) s s.heap := by
  rw [aw_rv (by omega), ab_ad_ge (by omega)]; exact hG.2.1.2.2.1
theorem aw_iald_o {i N : Nat} {j : Int} {f : Nat → Int} (hd : decode Y.2.1 pc = .ok (.iaload, 1)) (hi : 1000 ≤ i) (hT : ∀ s : State, ab_Gl G s → va_T .int (ab_ax G i) N (fun j => .int (Int32.ofInt (f j))) (ab_A G) s s.heap) (h0 : 0 ≤ j) (hl9 : j < N) (hz : N < 1000000) (kk : aW G Y R Z kc ks h (pc + 1) ls (ab_i (f j.toNat) :: st)) : aW G Y R Z kc ks h pc ls (ab_i j :: ab_r i :: st) := by
  intro p e s m args below meth c Cx H locs lsr hR hO hL hl
  have k9 := kk p e s m args below meth c Cx H locs lsr hR hO hL hl
  obtain ⟨e1, e2⟩ := ab_ixn h0 hl9 hz
  rw [List.map_cons, List.map_cons, aw_rv (by omega), ab_ad_ge hi]
  obtain ⟨cell, h1, h2, h3, h4, h5, h6, h7⟩ := hT s Cx.2.2.2.2.2.2.2.2
  refine W.iald Cx.1 Cx.2.1 (by rw [hO _ (Nat.not_lt.mp h7)]; exact h1) h2 h3 (fun q => e2 (q.imp id (fun q => Nat.le_trans h4 q))) (v := .int (Int32.ofInt (f j.toNat))) ?_ rfl rfl hd k9
  rw [e1]
  exact h6 _ (by omega)
theorem aw_ifig {j : Int} (hd : decode Y.2.1 pc = .ok (.iaload, 1)) (h0 : 0 ≤ j) (hl9 : j < 4) (kk : aW G Y R Z kc ks h (pc + 1) ls (ab_i (ab_fig j.toNat) :: st)) : aW G Y R Z kc ks h pc ls (ab_i j :: ab_r 1000 :: st) :=
  aw_iald_o (N := 4) hd (by omega) (fun s hG => hG.2.1.2.1) h0 hl9 (by omega) kk
theorem aw_ifac {j : Int} (hd : decode Y.2.1 pc = .ok (.iaload, 1)) (h0 : 0 ≤ j) (hl9 : j < 7) (kk : aW G Y R Z kc ks h (pc + 1) ls (ab_i (ab_fac j.toNat) :: st)) : aW G Y R Z kc ks h pc ls (ab_i j :: ab_r 1001 :: st) :=
  aw_iald_o (N := 7) hd (by omega) (fun s hG => hG.2.1.2.2.2.1) h0 hl9 (by omega) kk
-- the script
theorem aw_isc {j : Int} (hd : decode Y.2.1 pc = .ok (.iaload, 1)) (h0 : 0 ≤ j) (hl9 : j < ab_L G) (hz : ab_L G < 1000000) (kk : aW G Y R Z kc ks h (pc + 1) ls (ab_i ((ab_xs G j.toNat).toInt) :: st)) : aW G Y R Z kc ks h pc ls (ab_i j :: ab_r 1002 :: st) := by
  intro p e s m args below meth c Cx H locs lsr hR hO hL hl
  have k9 := kk p e s m args below meth c Cx H locs lsr hR hO hL hl
  obtain ⟨e1, e2⟩ := ab_ixn h0 hl9 hz
  rw [List.map_cons, List.map_cons, aw_rv (by omega), ab_ad_ge (by omega)]
  obtain ⟨⟨scr, h1, h2, h3, h4, h5⟩, h6⟩ := Cx.2.2.2.2.2.2.2.2.2.1.2.2.2.2.2.2
  refine W.iald Cx.1 Cx.2.1 (by rw [hO _ h6]; exact h1) h2 h3 (by rw [h4]; exact e2) (v := .int (Int32.ofInt (ab_xs G j.toNat).toInt)) ?_ rfl rfl hd k9
  rw [e1, Int32.ofInt_toInt]
  exact h5 _ (by omega)
theorem aw_lsc (hd : decode Y.2.1 pc = .ok (.arraylength, 1)) (kk : aW G Y R Z kc ks h (pc + 1) ls (ab_i (ab_L G : Int) :: st)) : aW G Y R Z kc ks h pc ls (ab_r 1002 :: st) := by
  intro p e s m args below meth c Cx H locs lsr hR hO hL hl
  have k9 := kk p e s m args below meth c Cx H locs lsr hR hO hL hl
  rw [List.map_cons, aw_rv (by omega), ab_ad_ge (by omega)]
  obtain ⟨⟨scr, h1, h2, h3, h4, h5⟩, h6⟩ := Cx.2.2.2.2.2.2.2.2.2.1.2.2.2.2.2.2
  refine W.alen Cx.1 Cx.2.1 (by rw [hO _ h6]; exact h1) h2 (n := Int32.ofInt (ab_L G)) ?_ rfl rfl hd k9
  rw [h4]
  exact Int32.ofInt_eq_ofNat.symm
end AM
end
section
theorem lw_t : lw_tbl = k2_sels lw_privs ++ (tables_1_1 ++ (tables_1_2 ++ (tables_1_3 ++ (tables_1_4 ++ tables_1_5)))) := rfl
theorem lw_in1 {w : Cond} {k : Nat} (h : tables_1_1[k]? = some w) (hg : goodWord w = true) : w ∈ lw_all := List.mem_filter.mpr ⟨by rw [lw_t]; exact List.mem_append_right _ (List.mem_append_left _ (List.mem_of_getElem? h)), hg⟩
theorem lw_in2 {w : Cond} {k : Nat} (h : tables_1_2[k]? = some w) (hg : goodWord w = true) : w ∈ lw_all := List.mem_filter.mpr ⟨by rw [lw_t]; exact List.mem_append_right _ (List.mem_append_right _ (List.mem_append_left _ (List.mem_of_getElem? h))), hg⟩
theorem lw_in3 {w : Cond} {k : Nat} (h : tables_1_3[k]? = some w) (hg : goodWord w = true) : w ∈ lw_all := List.mem_filter.mpr ⟨by rw [lw_t]; exact List.mem_append_right _ (List.mem_append_right _ (List.mem_append_right _ (List.mem_append_left _ (List.mem_of_getElem? h)))), hg⟩
theorem lw_in4 {w : Cond} {k : Nat} (h : tables_1_4[k]? = some w) (hg : goodWord w = true) : w ∈ lw_all := List.mem_filter.mpr ⟨by rw [lw_t]; exact List.mem_append_right _ (List.mem_append_right _ (List.mem_append_right _ (List.mem_append_right _ (List.mem_append_left _ (List.mem_of_getElem? h))))), hg⟩
theorem lw_in5 {w : Cond} {k : Nat} (h : tables_1_5[k]? = some w) (hg : goodWord w = true) : w ∈ lw_all := List.mem_filter.mpr ⟨by rw [lw_t]; exact List.mem_append_right _ (List.mem_append_right _ (List.mem_append_right _ (List.mem_append_right _ (List.mem_append_right _ (List.mem_of_getElem? h))))), hg⟩
theorem lw_in0 {q : MethodName × Nat} {k : Nat} (h : lw_privs[k]? = some q) : Cond.selects q.1.cls q.1 q.1 ∈ lw_all := List.mem_filter.mpr ⟨by rw [lw_t]; exact List.mem_append_left _ (List.mem_map.mpr ⟨q, List.mem_of_getElem? h, rfl⟩), rfl⟩
abbrev YX0_init : ab_Y := (yX0_init, cX0_init, 2, none)
theorem kX0_init : ab_YK YX0_init 1 := ⟨lw_in2 (k := 83) rfl rfl, lw_in1 (k := 13) rfl rfl, ⟨by decide, by decide⟩, by decide +kernel, by decide⟩
theorem iX0_init : Cond.instanceMethod YX0_init.1 ∈ lw_all := lw_in2 (k := 82) rfl rfl
abbrev YX0_find : ab_Y := (yX0_find, cX0_find, 2, none)
theorem kX0_find : ab_YK YX0_find 1 := ⟨lw_in4 (k := 54) rfl rfl, lw_in1 (k := 13) rfl rfl, ⟨by decide, by decide⟩, by decide +kernel, by decide⟩
theorem iX0_find : Cond.instanceMethod YX0_find.1 ∈ lw_all := lw_in4 (k := 52) rfl rfl
theorem eX0_find : Cond.selects YX0_find.1.cls YX0_find.1 YX0_find.1 ∈ lw_all := lw_in4 (k := 53) rfl rfl
abbrev YX0_goOn : ab_Y := (yX0_goOn, cX0_goOn, 5, none)
theorem kX0_goOn : ab_YK YX0_goOn 3 := ⟨lw_in4 (k := 58) rfl rfl, lw_in1 (k := 13) rfl rfl, ⟨by decide, by decide⟩, by decide +kernel, by decide⟩
theorem iX0_goOn : Cond.instanceMethod YX0_goOn.1 ∈ lw_all := lw_in4 (k := 57) rfl rfl
theorem eX0_goOn : Cond.selects YX0_goOn.1.cls YX0_goOn.1 YX0_goOn.1 ∈ lw_all := lw_in0 (k := 22) (q := (yX0_goOn, _)) rfl
abbrev YX1_init : ab_Y := (yX1_init, cX1_init, 3, none)
theorem kX1_init : ab_YK YX1_init 1 := ⟨lw_in1 (k := 163) rfl rfl, lw_in1 (k := 7) rfl rfl, ⟨by decide, by decide⟩, by decide +kernel, by decide⟩
theorem iX1_init : Cond.instanceMethod YX1_init.1 ∈ lw_all := lw_in1 (k := 162) rfl rfl
abbrev YX1_beginLike : ab_Y := (yX1_beginLike, cX1_beginLike, 3, none)
theorem kX1_beginLike : ab_YK YX1_beginLike 1 := ⟨lw_in3 (k := 151) rfl rfl, lw_in1 (k := 7) rfl rfl, ⟨by decide, by decide⟩, by decide +kernel, by decide⟩
theorem iX1_beginLike : Cond.instanceMethod YX1_beginLike.1 ∈ lw_all := lw_in3 (k := 149) rfl rfl
theorem eX1_beginLike : Cond.selects YX1_beginLike.1.cls YX1_beginLike.1 YX1_beginLike.1 ∈ lw_all := lw_in3 (k := 150) rfl rfl
abbrev YX1_isFull : ab_Y := (yX1_isFull, cX1_isFull, 1, (some .boolean))
theorem kX1_isFull : ab_YK YX1_isFull 0 := ⟨lw_in2 (k := 179) rfl rfl, lw_in1 (k := 7) rfl rfl, ⟨by decide, by decide⟩, by decide +kernel, by decide⟩
theorem iX1_isFull : Cond.instanceMethod YX1_isFull.1 ∈ lw_all := lw_in2 (k := 177) rfl rfl
theorem eX1_isFull : Cond.selects YX1_isFull.1.cls YX1_isFull.1 YX1_isFull.1 ∈ lw_all := lw_in2 (k := 178) rfl rfl
abbrev YX1_add : ab_Y := (yX1_add, cX1_add, 2, none)
theorem kX1_add : ab_YK YX1_add 1 := ⟨lw_in2 (k := 183) rfl rfl, lw_in1 (k := 7) rfl rfl, ⟨by decide, by decide⟩, by decide +kernel, by decide⟩
theorem iX1_add : Cond.instanceMethod YX1_add.1 ∈ lw_all := lw_in2 (k := 181) rfl rfl
theorem eX1_add : Cond.selects YX1_add.1.cls YX1_add.1 YX1_add.1 ∈ lw_all := lw_in2 (k := 182) rfl rfl
abbrev YX1_total : ab_Y := (yX1_total, cX1_total, 4, (some .int))
theorem kX1_total : ab_YK YX1_total 1 := ⟨lw_in3 (k := 160) rfl rfl, lw_in1 (k := 7) rfl rfl, ⟨by decide, by decide⟩, by decide +kernel, by decide⟩
theorem iX1_total : Cond.instanceMethod YX1_total.1 ∈ lw_all := lw_in3 (k := 158) rfl rfl
theorem eX1_total : Cond.selects YX1_total.1.cls YX1_total.1 YX1_total.1 ∈ lw_all := lw_in3 (k := 159) rfl rfl
abbrev YX1_gained : ab_Y := (yX1_gained, cX1_gained, 2, (some .int))
theorem kX1_gained : ab_YK YX1_gained 1 := ⟨lw_in3 (k := 169) rfl rfl, lw_in1 (k := 7) rfl rfl, ⟨by decide, by decide⟩, by decide +kernel, by decide⟩
theorem iX1_gained : Cond.instanceMethod YX1_gained.1 ∈ lw_all := lw_in3 (k := 167) rfl rfl
theorem eX1_gained : Cond.selects YX1_gained.1.cls YX1_gained.1 YX1_gained.1 ∈ lw_all := lw_in3 (k := 168) rfl rfl
abbrev YX1_pass : ab_Y := (yX1_pass, cX1_pass, 6, none)
theorem kX1_pass : ab_YK YX1_pass 2 := ⟨lw_in2 (k := 196) rfl rfl, lw_in1 (k := 7) rfl rfl, ⟨by decide, by decide⟩, by decide +kernel, by decide⟩
theorem iX1_pass : Cond.instanceMethod YX1_pass.1 ∈ lw_all := lw_in2 (k := 194) rfl rfl
theorem eX1_pass : Cond.selects YX1_pass.1.cls YX1_pass.1 YX1_pass.1 ∈ lw_all := lw_in2 (k := 195) rfl rfl
abbrev YX1_stand : ab_Y := (yX1_stand, cX1_stand, 5, none)
theorem kX1_stand : ab_YK YX1_stand 1 := ⟨lw_in2 (k := 208) rfl rfl, lw_in1 (k := 7) rfl rfl, ⟨by decide, by decide⟩, by decide +kernel, by decide⟩
theorem iX1_stand : Cond.instanceMethod YX1_stand.1 ∈ lw_all := lw_in2 (k := 206) rfl rfl
theorem eX1_stand : Cond.selects YX1_stand.1.cls YX1_stand.1 YX1_stand.1 ∈ lw_all := lw_in2 (k := 207) rfl rfl
abbrev YX1_isAhead : ab_Y := (yX1_isAhead, cX1_isAhead, 5, (some .boolean))
theorem kX1_isAhead : ab_YK YX1_isAhead 3 := ⟨lw_in2 (k := 212) rfl rfl, lw_in1 (k := 7) rfl rfl, ⟨by decide, by decide⟩, by decide +kernel, by decide⟩
theorem iX1_isAhead : Cond.instanceMethod YX1_isAhead.1 ∈ lw_all := lw_in2 (k := 211) rfl rfl
theorem eX1_isAhead : Cond.selects YX1_isAhead.1.cls YX1_isAhead.1 YX1_isAhead.1 ∈ lw_all := lw_in0 (k := 1) (q := (yX1_isAhead, _)) rfl
abbrev YX1_offer : ab_Y := (yX1_offer, cX1_offer, 8, none)
theorem kX1_offer : ab_YK YX1_offer 2 := ⟨lw_in2 (k := 204) rfl rfl, lw_in1 (k := 7) rfl rfl, ⟨by decide, by decide⟩, by decide +kernel, by decide⟩
theorem iX1_offer : Cond.instanceMethod YX1_offer.1 ∈ lw_all := lw_in2 (k := 203) rfl rfl
theorem eX1_offer : Cond.selects YX1_offer.1.cls YX1_offer.1 YX1_offer.1 ∈ lw_all := lw_in0 (k := 0) (q := (yX1_offer, _)) rfl
abbrev YX1_house : ab_Y := (yX1_house, cX1_house, 3, none)
theorem kX1_house : ab_YK YX1_house 2 := ⟨lw_in2 (k := 224) rfl rfl, lw_in1 (k := 7) rfl rfl, ⟨by decide, by decide⟩, by decide +kernel, by decide⟩
theorem iX1_house : Cond.instanceMethod YX1_house.1 ∈ lw_all := lw_in2 (k := 223) rfl rfl
theorem eX1_house : Cond.selects YX1_house.1.cls YX1_house.1 YX1_house.1 ∈ lw_all := lw_in0 (k := 3) (q := (yX1_house, _)) rfl
abbrev YX1_sayNo : ab_Y := (yX1_sayNo, cX1_sayNo, 3, (some .boolean))
theorem kX1_sayNo : ab_YK YX1_sayNo 2 := ⟨lw_in2 (k := 220) rfl rfl, lw_in1 (k := 7) rfl rfl, ⟨by decide, by decide⟩, by decide +kernel, by decide⟩
theorem iX1_sayNo : Cond.instanceMethod YX1_sayNo.1 ∈ lw_all := lw_in2 (k := 219) rfl rfl
theorem eX1_sayNo : Cond.selects YX1_sayNo.1.cls YX1_sayNo.1 YX1_sayNo.1 ∈ lw_all := lw_in0 (k := 2) (q := (yX1_sayNo, _)) rfl
abbrev YX1_arrive : ab_Y := (yX1_arrive, cX1_arrive, 2, none)
theorem kX1_arrive : ab_YK YX1_arrive 1 := ⟨lw_in2 (k := 228) rfl rfl, lw_in1 (k := 7) rfl rfl, ⟨by decide, by decide⟩, by decide +kernel, by decide⟩
theorem iX1_arrive : Cond.instanceMethod YX1_arrive.1 ∈ lw_all := lw_in2 (k := 227) rfl rfl
theorem eX1_arrive : Cond.selects YX1_arrive.1.cls YX1_arrive.1 YX1_arrive.1 ∈ lw_all := lw_in0 (k := 4) (q := (yX1_arrive, _)) rfl
abbrev YX1_growOlder : ab_Y := (yX1_growOlder, cX1_growOlder, 4, none)
theorem kX1_growOlder : ab_YK YX1_growOlder 1 := ⟨lw_in2 (k := 233) rfl rfl, lw_in1 (k := 7) rfl rfl, ⟨by decide, by decide⟩, by decide +kernel, by decide⟩
theorem iX1_growOlder : Cond.instanceMethod YX1_growOlder.1 ∈ lw_all := lw_in2 (k := 232) rfl rfl
theorem eX1_growOlder : Cond.selects YX1_growOlder.1.cls YX1_growOlder.1 YX1_growOlder.1 ∈ lw_all := lw_in0 (k := 5) (q := (yX1_growOlder, _)) rfl
abbrev YX2_init : ab_Y := (yX2_init, cX2_init, 2, none)
theorem kX2_init : ab_YK YX2_init 1 := ⟨lw_in2 (k := 41) rfl rfl, lw_in1 (k := 11) rfl rfl, ⟨by decide, by decide⟩, by decide +kernel, by decide⟩
theorem iX2_init : Cond.instanceMethod YX2_init.1 ∈ lw_all := lw_in2 (k := 40) rfl rfl
abbrev YX2_add : ab_Y := (yX2_add, cX2_add, 3, (some .int))
theorem kX2_add : ab_YK YX2_add 2 := ⟨lw_in4 (k := 18) rfl rfl, lw_in1 (k := 11) rfl rfl, ⟨by decide, by decide⟩, by decide +kernel, by decide⟩
theorem iX2_add : Cond.instanceMethod YX2_add.1 ∈ lw_all := lw_in4 (k := 16) rfl rfl
theorem eX2_add : Cond.selects YX2_add.1.cls YX2_add.1 YX2_add.1 ∈ lw_all := lw_in4 (k := 17) rfl rfl
abbrev YX2_likesMore : ab_Y := (yX2_likesMore, cX2_likesMore, 5, (some .boolean))
theorem kX2_likesMore : ab_YK YX2_likesMore 3 := ⟨lw_in4 (k := 42) rfl rfl, lw_in1 (k := 11) rfl rfl, ⟨by decide, by decide⟩, by decide +kernel, by decide⟩
theorem iX2_likesMore : Cond.instanceMethod YX2_likesMore.1 ∈ lw_all := lw_in4 (k := 40) rfl rfl
theorem eX2_likesMore : Cond.selects YX2_likesMore.1.cls YX2_likesMore.1 YX2_likesMore.1 ∈ lw_all := lw_in4 (k := 41) rfl rfl
abbrev YX3_init : ab_Y := (yX3_init, cX3_init, 2, none)
theorem kX3_init : ab_YK YX3_init 1 := ⟨lw_in2 (k := 22) rfl rfl, lw_in1 (k := 10) rfl rfl, ⟨by decide, by decide⟩, by decide +kernel, by decide⟩
theorem iX3_init : Cond.instanceMethod YX3_init.1 ∈ lw_all := lw_in2 (k := 21) rfl rfl
abbrev YX3_gather : ab_Y := (yX3_gather, cX3_gather, 4, none)
theorem kX3_gather : ab_YK YX3_gather 2 := ⟨lw_in3 (k := 223) rfl rfl, lw_in1 (k := 10) rfl rfl, ⟨by decide, by decide⟩, by decide +kernel, by decide⟩
theorem iX3_gather : Cond.instanceMethod YX3_gather.1 ∈ lw_all := lw_in3 (k := 221) rfl rfl
theorem eX3_gather : Cond.selects YX3_gather.1.cls YX3_gather.1 YX3_gather.1 ∈ lw_all := lw_in3 (k := 222) rfl rfl
abbrev YX3_lay : ab_Y := (yX3_lay, cX3_lay, 4, none)
theorem kX3_lay : ab_YK YX3_lay 2 := ⟨lw_in3 (k := 228) rfl rfl, lw_in1 (k := 10) rfl rfl, ⟨by decide, by decide⟩, by decide +kernel, by decide⟩
theorem iX3_lay : Cond.instanceMethod YX3_lay.1 ∈ lw_all := lw_in3 (k := 226) rfl rfl
theorem eX3_lay : Cond.selects YX3_lay.1.cls YX3_lay.1 YX3_lay.1 ∈ lw_all := lw_in3 (k := 227) rfl rfl
abbrev YX3_rowsFor : ab_Y := (yX3_rowsFor, cX3_rowsFor, 3, (some .int))
theorem kX3_rowsFor : ab_YK YX3_rowsFor 2 := ⟨lw_in3 (k := 233) rfl rfl, lw_in1 (k := 10) rfl rfl, ⟨by decide, by decide⟩, by decide +kernel, by decide⟩
theorem iX3_rowsFor : Cond.instanceMethod YX3_rowsFor.1 ∈ lw_all := lw_in3 (k := 231) rfl rfl
theorem eX3_rowsFor : Cond.selects YX3_rowsFor.1.cls YX3_rowsFor.1 YX3_rowsFor.1 ∈ lw_all := lw_in3 (k := 232) rfl rfl
abbrev YX3_rowsFrom : ab_Y := (yX3_rowsFrom, cX3_rowsFrom, 8, (some .int))
theorem kX3_rowsFrom : ab_YK YX3_rowsFrom 4 := ⟨lw_in3 (k := 237) rfl rfl, lw_in1 (k := 10) rfl rfl, ⟨by decide, by decide⟩, by decide +kernel, by decide⟩
theorem iX3_rowsFrom : Cond.instanceMethod YX3_rowsFrom.1 ∈ lw_all := lw_in3 (k := 236) rfl rfl
theorem eX3_rowsFrom : Cond.selects YX3_rowsFrom.1.cls YX3_rowsFrom.1 YX3_rowsFrom.1 ∈ lw_all := lw_in0 (k := 18) (q := (yX3_rowsFrom, _)) rfl
abbrev YX3_kindTaken : ab_Y := (yX3_kindTaken, cX3_kindTaken, 4, (some .int))
theorem kX3_kindTaken : ab_YK YX3_kindTaken 1 := ⟨lw_in4 (k := 1) rfl rfl, lw_in1 (k := 10) rfl rfl, ⟨by decide, by decide⟩, by decide +kernel, by decide⟩
theorem iX3_kindTaken : Cond.instanceMethod YX3_kindTaken.1 ∈ lw_all := lw_in4 (k := 0) rfl rfl
theorem eX3_kindTaken : Cond.selects YX3_kindTaken.1.cls YX3_kindTaken.1 YX3_kindTaken.1 ∈ lw_all := lw_in0 (k := 19) (q := (yX3_kindTaken, _)) rfl
abbrev YX4_init : ab_Y := (yX4_init, cX4_init, 1, none)
theorem kX4_init : ab_YK YX4_init 0 := ⟨lw_in1 (k := 171) rfl rfl, lw_in1 (k := 8) rfl rfl, ⟨by decide, by decide⟩, by decide +kernel, by decide⟩
theorem iX4_init : Cond.instanceMethod YX4_init.1 ∈ lw_all := lw_in1 (k := 170) rfl rfl
abbrev YX4_begin : ab_Y := (yX4_begin, cX4_begin, 3, none)
theorem kX4_begin : ab_YK YX4_begin 2 := ⟨lw_in2 (k := 188) rfl rfl, lw_in1 (k := 8) rfl rfl, ⟨by decide, by decide⟩, by decide +kernel, by decide⟩
theorem iX4_begin : Cond.instanceMethod YX4_begin.1 ∈ lw_all := lw_in2 (k := 186) rfl rfl
theorem eX4_begin : Cond.selects YX4_begin.1.cls YX4_begin.1 YX4_begin.1 ∈ lw_all := lw_in2 (k := 187) rfl rfl
abbrev YX4_copy : ab_Y := (yX4_copy, cX4_copy, 2, none)
theorem kX4_copy : ab_YK YX4_copy 1 := ⟨lw_in3 (k := 155) rfl rfl, lw_in1 (k := 8) rfl rfl, ⟨by decide, by decide⟩, by decide +kernel, by decide⟩
theorem iX4_copy : Cond.instanceMethod YX4_copy.1 ∈ lw_all := lw_in3 (k := 153) rfl rfl
theorem eX4_copy : Cond.selects YX4_copy.1.cls YX4_copy.1 YX4_copy.1 ∈ lw_all := lw_in3 (k := 154) rfl rfl
abbrev YX5_init : ab_Y := (yX5_init, cX5_init, 2, none)
theorem kX5_init : ab_YK YX5_init 1 := ⟨lw_in1 (k := 234) rfl rfl, lw_in1 (k := 9) rfl rfl, ⟨by decide, by decide⟩, by decide +kernel, by decide⟩
theorem iX5_init : Cond.instanceMethod YX5_init.1 ∈ lw_all := lw_in1 (k := 233) rfl rfl
abbrev YX5_forget : ab_Y := (yX5_forget, cX5_forget, 1, none)
theorem kX5_forget : ab_YK YX5_forget 0 := ⟨lw_in2 (k := 150) rfl rfl, lw_in1 (k := 9) rfl rfl, ⟨by decide, by decide⟩, by decide +kernel, by decide⟩
theorem iX5_forget : Cond.instanceMethod YX5_forget.1 ∈ lw_all := lw_in2 (k := 148) rfl rfl
theorem eX5_forget : Cond.selects YX5_forget.1.cls YX5_forget.1 YX5_forget.1 ∈ lw_all := lw_in2 (k := 149) rfl rfl
abbrev YX5_areKnownFor : ab_Y := (yX5_areKnownFor, cX5_areKnownFor, 2, (some .boolean))
theorem kX5_areKnownFor : ab_YK YX5_areKnownFor 1 := ⟨lw_in3 (k := 181) rfl rfl, lw_in1 (k := 9) rfl rfl, ⟨by decide, by decide⟩, by decide +kernel, by decide⟩
theorem iX5_areKnownFor : Cond.instanceMethod YX5_areKnownFor.1 ∈ lw_all := lw_in3 (k := 179) rfl rfl
theorem eX5_areKnownFor : Cond.selects YX5_areKnownFor.1.cls YX5_areKnownFor.1 YX5_areKnownFor.1 ∈ lw_all := lw_in3 (k := 180) rfl rfl
abbrev YX5_find : ab_Y := (yX5_find, cX5_find, 8, none)
theorem kX5_find : ab_YK YX5_find 4 := ⟨lw_in3 (k := 185) rfl rfl, lw_in1 (k := 9) rfl rfl, ⟨by decide, by decide⟩, by decide +kernel, by decide⟩
theorem iX5_find : Cond.instanceMethod YX5_find.1 ∈ lw_all := lw_in3 (k := 183) rfl rfl
theorem eX5_find : Cond.selects YX5_find.1.cls YX5_find.1 YX5_find.1 ∈ lw_all := lw_in3 (k := 184) rfl rfl
abbrev YX5_findLikeBars : ab_Y := (yX5_findLikeBars, cX5_findLikeBars, 4, none)
theorem kX5_findLikeBars : ab_YK YX5_findLikeBars 0 := ⟨lw_in3 (k := 189) rfl rfl, lw_in1 (k := 9) rfl rfl, ⟨by decide, by decide⟩, by decide +kernel, by decide⟩
theorem iX5_findLikeBars : Cond.instanceMethod YX5_findLikeBars.1 ∈ lw_all := lw_in3 (k := 188) rfl rfl
theorem eX5_findLikeBars : Cond.selects YX5_findLikeBars.1.cls YX5_findLikeBars.1 YX5_findLikeBars.1 ∈ lw_all := lw_in0 (k := 13) (q := (yX5_findLikeBars, _)) rfl
abbrev YX5_kindsTaken : ab_Y := (yX5_kindsTaken, cX5_kindsTaken, 5, (some .int))
theorem kX5_kindsTaken : ab_YK YX5_kindsTaken 2 := ⟨lw_in3 (k := 193) rfl rfl, lw_in1 (k := 9) rfl rfl, ⟨by decide, by decide⟩, by decide +kernel, by decide⟩
theorem iX5_kindsTaken : Cond.instanceMethod YX5_kindsTaken.1 ∈ lw_all := lw_in3 (k := 192) rfl rfl
theorem eX5_kindsTaken : Cond.selects YX5_kindsTaken.1.cls YX5_kindsTaken.1 YX5_kindsTaken.1 ∈ lw_all := lw_in0 (k := 14) (q := (yX5_kindsTaken, _)) rfl
abbrev YX5_likeSetting : ab_Y := (yX5_likeSetting, cX5_likeSetting, 4, (some .int))
theorem kX5_likeSetting : ab_YK YX5_likeSetting 1 := ⟨lw_in3 (k := 197) rfl rfl, lw_in1 (k := 9) rfl rfl, ⟨by decide, by decide⟩, by decide +kernel, by decide⟩
theorem iX5_likeSetting : Cond.instanceMethod YX5_likeSetting.1 ∈ lw_all := lw_in3 (k := 196) rfl rfl
theorem eX5_likeSetting : Cond.selects YX5_likeSetting.1.cls YX5_likeSetting.1 YX5_likeSetting.1 ∈ lw_all := lw_in0 (k := 15) (q := (yX5_likeSetting, _)) rfl
abbrev YX5_barOf : ab_Y := (yX5_barOf, cX5_barOf, 2, (some .int))
theorem kX5_barOf : ab_YK YX5_barOf 2 := ⟨lw_in3 (k := 200) rfl rfl, lw_in1 (k := 9) rfl rfl, ⟨by decide, by decide⟩, by decide +kernel, by decide⟩
theorem sX5_barOf : Cond.static YX5_barOf.1 ∈ lw_all := lw_in3 (k := 199) rfl rfl
abbrev YX5_setWays : ab_Y := (yX5_setWays, cX5_setWays, 5, none)
theorem kX5_setWays : ab_YK YX5_setWays 2 := ⟨lw_in3 (k := 206) rfl rfl, lw_in1 (k := 9) rfl rfl, ⟨by decide, by decide⟩, by decide +kernel, by decide⟩
theorem iX5_setWays : Cond.instanceMethod YX5_setWays.1 ∈ lw_all := lw_in3 (k := 205) rfl rfl
theorem eX5_setWays : Cond.selects YX5_setWays.1.cls YX5_setWays.1 YX5_setWays.1 ∈ lw_all := lw_in0 (k := 16) (q := (yX5_setWays, _)) rfl
abbrev YX5_isAtRest : ab_Y := (yX5_isAtRest, cX5_isAtRest, 6, (some .boolean))
theorem kX5_isAtRest : ab_YK YX5_isAtRest 1 := ⟨lw_in3 (k := 214) rfl rfl, lw_in1 (k := 9) rfl rfl, ⟨by decide, by decide⟩, by decide +kernel, by decide⟩
theorem iX5_isAtRest : Cond.instanceMethod YX5_isAtRest.1 ∈ lw_all := lw_in3 (k := 213) rfl rfl
theorem eX5_isAtRest : Cond.selects YX5_isAtRest.1.cls YX5_isAtRest.1 YX5_isAtRest.1 ∈ lw_all := lw_in0 (k := 17) (q := (yX5_isAtRest, _)) rfl
abbrev YX6_init : ab_Y := (yX6_init, cX6_init, 1, none)
theorem kX6_init : ab_YK YX6_init 0 := ⟨lw_in1 (k := 42) rfl rfl, lw_in1 (k := 3) rfl rfl, ⟨by decide, by decide⟩, by decide +kernel, by decide⟩
theorem iX6_init : Cond.instanceMethod YX6_init.1 ∈ lw_all := lw_in1 (k := 41) rfl rfl
abbrev YX6_isFull : ab_Y := (yX6_isFull, cX6_isFull, 1, (some .boolean))
theorem kX6_isFull : ab_YK YX6_isFull 0 := ⟨lw_in2 (k := 162) rfl rfl, lw_in1 (k := 3) rfl rfl, ⟨by decide, by decide⟩, by decide +kernel, by decide⟩
theorem iX6_isFull : Cond.instanceMethod YX6_isFull.1 ∈ lw_all := lw_in2 (k := 160) rfl rfl
theorem eX6_isFull : Cond.selects YX6_isFull.1.cls YX6_isFull.1 YX6_isFull.1 ∈ lw_all := lw_in2 (k := 161) rfl rfl
abbrev YX6_add : ab_Y := (yX6_add, cX6_add, 2, (some .int))
theorem kX6_add : ab_YK YX6_add 1 := ⟨lw_in2 (k := 166) rfl rfl, lw_in1 (k := 3) rfl rfl, ⟨by decide, by decide⟩, by decide +kernel, by decide⟩
theorem iX6_add : Cond.instanceMethod YX6_add.1 ∈ lw_all := lw_in2 (k := 164) rfl rfl
theorem eX6_add : Cond.selects YX6_add.1.cls YX6_add.1 YX6_add.1 ∈ lw_all := lw_in2 (k := 165) rfl rfl
abbrev YX6_inWeek : ab_Y := (yX6_inWeek, cX6_inWeek, 2, (some .int))
theorem kX6_inWeek : ab_YK YX6_inWeek 1 := ⟨lw_in2 (k := 200) rfl rfl, lw_in1 (k := 3) rfl rfl, ⟨by decide, by decide⟩, by decide +kernel, by decide⟩
theorem iX6_inWeek : Cond.instanceMethod YX6_inWeek.1 ∈ lw_all := lw_in2 (k := 198) rfl rfl
theorem eX6_inWeek : Cond.selects YX6_inWeek.1.cls YX6_inWeek.1 YX6_inWeek.1 ∈ lw_all := lw_in2 (k := 199) rfl rfl
abbrev YX7_init : ab_Y := (yX7_init, cX7_init, 1, none)
theorem kX7_init : ab_YK YX7_init 0 := ⟨lw_in1 (k := 84) rfl rfl, lw_in1 (k := 5) rfl rfl, ⟨by decide, by decide⟩, by decide +kernel, by decide⟩
theorem iX7_init : Cond.instanceMethod YX7_init.1 ∈ lw_all := lw_in1 (k := 83) rfl rfl
abbrev YX7_setAsAtFirst : ab_Y := (yX7_setAsAtFirst, cX7_setAsAtFirst, 2, none)
theorem kX7_setAsAtFirst : ab_YK YX7_setAsAtFirst 0 := ⟨lw_in1 (k := 89) rfl rfl, lw_in1 (k := 5) rfl rfl, ⟨by decide, by decide⟩, by decide +kernel, by decide⟩
theorem iX7_setAsAtFirst : Cond.instanceMethod YX7_setAsAtFirst.1 ∈ lw_all := lw_in1 (k := 87) rfl rfl
theorem eX7_setAsAtFirst : Cond.selects YX7_setAsAtFirst.1.cls YX7_setAsAtFirst.1 YX7_setAsAtFirst.1 ∈ lw_all := lw_in1 (k := 88) rfl rfl
abbrev YX7_copy : ab_Y := (yX7_copy, cX7_copy, 3, none)
theorem kX7_copy : ab_YK YX7_copy 1 := ⟨lw_in3 (k := 131) rfl rfl, lw_in1 (k := 5) rfl rfl, ⟨by decide, by decide⟩, by decide +kernel, by decide⟩
theorem iX7_copy : Cond.instanceMethod YX7_copy.1 ∈ lw_all := lw_in3 (k := 129) rfl rfl
theorem eX7_copy : Cond.selects YX7_copy.1.cls YX7_copy.1 YX7_copy.1 ∈ lw_all := lw_in3 (k := 130) rfl rfl
abbrev YX7_setWay : ab_Y := (yX7_setWay, cX7_setWay, 5, none)
theorem kX7_setWay : ab_YK YX7_setWay 4 := ⟨lw_in1 (k := 93) rfl rfl, lw_in1 (k := 5) rfl rfl, ⟨by decide, by decide⟩, by decide +kernel, by decide⟩
theorem iX7_setWay : Cond.instanceMethod YX7_setWay.1 ∈ lw_all := lw_in1 (k := 91) rfl rfl
theorem eX7_setWay : Cond.selects YX7_setWay.1.cls YX7_setWay.1 YX7_setWay.1 ∈ lw_all := lw_in1 (k := 92) rfl rfl
abbrev YX7_takes : ab_Y := (yX7_takes, cX7_takes, 4, (some .boolean))
theorem kX7_takes : ab_YK YX7_takes 3 := ⟨lw_in2 (k := 216) rfl rfl, lw_in1 (k := 5) rfl rfl, ⟨by decide, by decide⟩, by decide +kernel, by decide⟩
theorem iX7_takes : Cond.instanceMethod YX7_takes.1 ∈ lw_all := lw_in2 (k := 214) rfl rfl
theorem eX7_takes : Cond.selects YX7_takes.1.cls YX7_takes.1 YX7_takes.1 ∈ lw_all := lw_in2 (k := 215) rfl rfl
abbrev YX8_init : ab_Y := (yX8_init, cX8_init, 2, none)
theorem kX8_init : ab_YK YX8_init 1 := ⟨lw_in2 (k := 65) rfl rfl, lw_in1 (k := 12) rfl rfl, ⟨by decide, by decide⟩, by decide +kernel, by decide⟩
theorem iX8_init : Cond.instanceMethod YX8_init.1 ∈ lw_all := lw_in2 (k := 64) rfl rfl
abbrev YX8_settle : ab_Y := (yX8_settle, cX8_settle, 3, none)
theorem kX8_settle : ab_YK YX8_settle 0 := ⟨lw_in4 (k := 26) rfl rfl, lw_in1 (k := 12) rfl rfl, ⟨by decide, by decide⟩, by decide +kernel, by decide⟩
theorem iX8_settle : Cond.instanceMethod YX8_settle.1 ∈ lw_all := lw_in4 (k := 24) rfl rfl
theorem eX8_settle : Cond.selects YX8_settle.1.cls YX8_settle.1 YX8_settle.1 ∈ lw_all := lw_in4 (k := 25) rfl rfl
abbrev YX8_closeRing : ab_Y := (yX8_closeRing, cX8_closeRing, 5, (some .int))
theorem kX8_closeRing : ab_YK YX8_closeRing 1 := ⟨lw_in4 (k := 30) rfl rfl, lw_in1 (k := 12) rfl rfl, ⟨by decide, by decide⟩, by decide +kernel, by decide⟩
theorem iX8_closeRing : Cond.instanceMethod YX8_closeRing.1 ∈ lw_all := lw_in4 (k := 29) rfl rfl
theorem eX8_closeRing : Cond.selects YX8_closeRing.1.cls YX8_closeRing.1 YX8_closeRing.1 ∈ lw_all := lw_in0 (k := 20) (q := (yX8_closeRing, _)) rfl
abbrev YX8_pointedTo : ab_Y := (yX8_pointedTo, cX8_pointedTo, 5, (some .int))
theorem kX8_pointedTo : ab_YK YX8_pointedTo 2 := ⟨lw_in4 (k := 38) rfl rfl, lw_in1 (k := 12) rfl rfl, ⟨by decide, by decide⟩, by decide +kernel, by decide⟩
theorem iX8_pointedTo : Cond.instanceMethod YX8_pointedTo.1 ∈ lw_all := lw_in4 (k := 37) rfl rfl
theorem eX8_pointedTo : Cond.selects YX8_pointedTo.1.cls YX8_pointedTo.1 YX8_pointedTo.1 ∈ lw_all := lw_in0 (k := 21) (q := (yX8_pointedTo, _)) rfl
abbrev YX9_init : ab_Y := (yX9_init, cX9_init, 1, none)
theorem kX9_init : ab_YK YX9_init 0 := ⟨lw_in1 (k := 135) rfl rfl, lw_in1 (k := 6) rfl rfl, ⟨by decide, by decide⟩, by decide +kernel, by decide⟩
theorem iX9_init : Cond.instanceMethod YX9_init.1 ∈ lw_all := lw_in1 (k := 134) rfl rfl
abbrev YX9_add : ab_Y := (yX9_add, cX9_add, 2, none)
theorem kX9_add : ab_YK YX9_add 1 := ⟨lw_in3 (k := 18) rfl rfl, lw_in1 (k := 6) rfl rfl, ⟨by decide, by decide⟩, by decide +kernel, by decide⟩
theorem iX9_add : Cond.instanceMethod YX9_add.1 ∈ lw_all := lw_in3 (k := 16) rfl rfl
theorem eX9_add : Cond.selects YX9_add.1.cls YX9_add.1 YX9_add.1 ∈ lw_all := lw_in3 (k := 17) rfl rfl
abbrev YX9_readInto : ab_Y := (yX9_readInto, cX9_readInto, 3, (some .int))
theorem kX9_readInto : ab_YK YX9_readInto 1 := ⟨lw_in3 (k := 30) rfl rfl, lw_in1 (k := 6) rfl rfl, ⟨by decide, by decide⟩, by decide +kernel, by decide⟩
theorem iX9_readInto : Cond.instanceMethod YX9_readInto.1 ∈ lw_all := lw_in3 (k := 28) rfl rfl
theorem eX9_readInto : Cond.selects YX9_readInto.1.cls YX9_readInto.1 YX9_readInto.1 ∈ lw_all := lw_in3 (k := 29) rfl rfl
abbrev YX9_readLine : ab_Y := (yX9_readLine, cX9_readLine, 2, (some .boolean))
theorem kX9_readLine : ab_YK YX9_readLine 1 := ⟨lw_in3 (k := 42) rfl rfl, lw_in1 (k := 6) rfl rfl, ⟨by decide, by decide⟩, by decide +kernel, by decide⟩
theorem iX9_readLine : Cond.instanceMethod YX9_readLine.1 ∈ lw_all := lw_in3 (k := 41) rfl rfl
theorem eX9_readLine : Cond.selects YX9_readLine.1.cls YX9_readLine.1 YX9_readLine.1 ∈ lw_all := lw_in0 (k := 7) (q := (yX9_readLine, _)) rfl
abbrev YX9_readWay : ab_Y := (yX9_readWay, cX9_readWay, 6, (some .boolean))
theorem kX9_readWay : ab_YK YX9_readWay 1 := ⟨lw_in3 (k := 117) rfl rfl, lw_in1 (k := 6) rfl rfl, ⟨by decide, by decide⟩, by decide +kernel, by decide⟩
theorem iX9_readWay : Cond.instanceMethod YX9_readWay.1 ∈ lw_all := lw_in3 (k := 116) rfl rfl
theorem eX9_readWay : Cond.selects YX9_readWay.1.cls YX9_readWay.1 YX9_readWay.1 ∈ lw_all := lw_in0 (k := 11) (q := (yX9_readWay, _)) rfl
abbrev YX9_choose : ab_Y := (yX9_choose, cX9_choose, 4, (some .int))
theorem kX9_choose : ab_YK YX9_choose 3 := ⟨lw_in3 (k := 102) rfl rfl, lw_in1 (k := 6) rfl rfl, ⟨by decide, by decide⟩, by decide +kernel, by decide⟩
theorem iX9_choose : Cond.instanceMethod YX9_choose.1 ∈ lw_all := lw_in3 (k := 101) rfl rfl
theorem eX9_choose : Cond.selects YX9_choose.1.cls YX9_choose.1 YX9_choose.1 ∈ lw_all := lw_in0 (k := 9) (q := (yX9_choose, _)) rfl
abbrev YX9_number : ab_Y := (yX9_number, cX9_number, 4, (some .int))
theorem kX9_number : ab_YK YX9_number 1 := ⟨lw_in3 (k := 107) rfl rfl, lw_in1 (k := 6) rfl rfl, ⟨by decide, by decide⟩, by decide +kernel, by decide⟩
theorem iX9_number : Cond.instanceMethod YX9_number.1 ∈ lw_all := lw_in3 (k := 106) rfl rfl
theorem eX9_number : Cond.selects YX9_number.1.cls YX9_number.1 YX9_number.1 ∈ lw_all := lw_in0 (k := 10) (q := (yX9_number, _)) rfl
abbrev YX9_pass : ab_Y := (yX9_pass, cX9_pass, 3, (some .boolean))
theorem kX9_pass : ab_YK YX9_pass 1 := ⟨lw_in3 (k := 47) rfl rfl, lw_in1 (k := 6) rfl rfl, ⟨by decide, by decide⟩, by decide +kernel, by decide⟩
theorem iX9_pass : Cond.instanceMethod YX9_pass.1 ∈ lw_all := lw_in3 (k := 46) rfl rfl
theorem eX9_pass : Cond.selects YX9_pass.1.cls YX9_pass.1 YX9_pass.1 ∈ lw_all := lw_in0 (k := 8) (q := (yX9_pass, _)) rfl
abbrev YX9_goOn : ab_Y := (yX9_goOn, cX9_goOn, 1, none)
theorem kX9_goOn : ab_YK YX9_goOn 0 := ⟨lw_in3 (k := 35) rfl rfl, lw_in1 (k := 6) rfl rfl, ⟨by decide, by decide⟩, by decide +kernel, by decide⟩
theorem iX9_goOn : Cond.instanceMethod YX9_goOn.1 ∈ lw_all := lw_in3 (k := 34) rfl rfl
theorem eX9_goOn : Cond.selects YX9_goOn.1.cls YX9_goOn.1 YX9_goOn.1 ∈ lw_all := lw_in0 (k := 6) (q := (yX9_goOn, _)) rfl
abbrev YX9_lookOf : ab_Y := (yX9_lookOf, cX9_lookOf, 1, (some .int))
theorem kX9_lookOf : ab_YK YX9_lookOf 1 := ⟨lw_in3 (k := 38) rfl rfl, lw_in1 (k := 6) rfl rfl, ⟨by decide, by decide⟩, by decide +kernel, by decide⟩
theorem sX9_lookOf : Cond.static YX9_lookOf.1 ∈ lw_all := lw_in3 (k := 37) rfl rfl
abbrev YX10_init : ab_Y := (yX10_init, cX10_init, 1, none)
theorem kX10_init : ab_YK YX10_init 0 := ⟨lw_in1 (k := 34) rfl rfl, lw_in1 (k := 2) rfl rfl, ⟨by decide, by decide⟩, by decide +kernel, by decide⟩
theorem iX10_init : Cond.instanceMethod YX10_init.1 ∈ lw_all := lw_in1 (k := 33) rfl rfl
abbrev YX11_init : ab_Y := (yX11_init, cX11_init, 1, none)
theorem kX11_init : ab_YK YX11_init 0 := ⟨lw_in1 (k := 26) rfl rfl, lw_in1 (k := 1) rfl rfl, ⟨by decide, by decide⟩, by decide +kernel, by decide⟩
theorem iX11_init : Cond.instanceMethod YX11_init.1 ∈ lw_all := lw_in1 (k := 25) rfl rfl
abbrev YX11_worth : ab_Y := (yX11_worth, cX11_worth, 5, (some .int))
theorem kX11_worth : ab_YK YX11_worth 3 := ⟨lw_in2 (k := 137) rfl rfl, lw_in1 (k := 1) rfl rfl, ⟨by decide, by decide⟩, by decide +kernel, by decide⟩
theorem iX11_worth : Cond.instanceMethod YX11_worth.1 ∈ lw_all := lw_in2 (k := 135) rfl rfl
theorem eX11_worth : Cond.selects YX11_worth.1.cls YX11_worth.1 YX11_worth.1 ∈ lw_all := lw_in2 (k := 136) rfl rfl
abbrev YX11_need : ab_Y := (yX11_need, cX11_need, 4, (some .int))
theorem kX11_need : ab_YK YX11_need 2 := ⟨lw_in2 (k := 154) rfl rfl, lw_in1 (k := 1) rfl rfl, ⟨by decide, by decide⟩, by decide +kernel, by decide⟩
theorem iX11_need : Cond.instanceMethod YX11_need.1 ∈ lw_all := lw_in2 (k := 152) rfl rfl
theorem eX11_need : Cond.selects YX11_need.1.cls YX11_need.1 YX11_need.1 ∈ lw_all := lw_in2 (k := 153) rfl rfl
abbrev YX11_coming : ab_Y := (yX11_coming, cX11_coming, 2, (some .int))
theorem kX11_coming : ab_YK YX11_coming 1 := ⟨lw_in2 (k := 158) rfl rfl, lw_in1 (k := 1) rfl rfl, ⟨by decide, by decide⟩, by decide +kernel, by decide⟩
theorem iX11_coming : Cond.instanceMethod YX11_coming.1 ∈ lw_all := lw_in2 (k := 156) rfl rfl
theorem eX11_coming : Cond.selects YX11_coming.1.cls YX11_coming.1 YX11_coming.1 ∈ lw_all := lw_in2 (k := 157) rfl rfl
abbrev YX11_joining : ab_Y := (yX11_joining, cX11_joining, 2, (some .int))
theorem kX11_joining : ab_YK YX11_joining 1 := ⟨lw_in2 (k := 171) rfl rfl, lw_in1 (k := 1) rfl rfl, ⟨by decide, by decide⟩, by decide +kernel, by decide⟩
theorem iX11_joining : Cond.instanceMethod YX11_joining.1 ∈ lw_all := lw_in2 (k := 169) rfl rfl
theorem eX11_joining : Cond.selects YX11_joining.1.cls YX11_joining.1 YX11_joining.1 ∈ lw_all := lw_in2 (k := 170) rfl rfl
abbrev YX11_join : ab_Y := (yX11_join, cX11_join, 2, (some .int))
theorem kX11_join : ab_YK YX11_join 1 := ⟨lw_in2 (k := 175) rfl rfl, lw_in1 (k := 1) rfl rfl, ⟨by decide, by decide⟩, by decide +kernel, by decide⟩
theorem iX11_join : Cond.instanceMethod YX11_join.1 ∈ lw_all := lw_in2 (k := 173) rfl rfl
theorem eX11_join : Cond.selects YX11_join.1.cls YX11_join.1 YX11_join.1 ∈ lw_all := lw_in2 (k := 174) rfl rfl
abbrev YX11_run : ab_Y := (yX11_run, cX11_run, 2, (some .int))
theorem kX11_run : ab_YK YX11_run 1 := ⟨lw_in2 (k := 192) rfl rfl, lw_in1 (k := 1) rfl rfl, ⟨by decide, by decide⟩, by decide +kernel, by decide⟩
theorem iX11_run : Cond.instanceMethod YX11_run.1 ∈ lw_all := lw_in2 (k := 190) rfl rfl
theorem eX11_run : Cond.selects YX11_run.1.cls YX11_run.1 YX11_run.1 ∈ lw_all := lw_in2 (k := 191) rfl rfl
abbrev YX11_person : ab_Y := (yX11_person, cX11_person, 4, (some .int))
theorem kX11_person : ab_YK YX11_person 2 := ⟨lw_in3 (k := 0) rfl rfl, lw_in1 (k := 1) rfl rfl, ⟨by decide, by decide⟩, by decide +kernel, by decide⟩
theorem iX11_person : Cond.instanceMethod YX11_person.1 ∈ lw_all := lw_in2 (k := 238) rfl rfl
theorem eX11_person : Cond.selects YX11_person.1.cls YX11_person.1 YX11_person.1 ∈ lw_all := lw_in2 (k := 239) rfl rfl
abbrev YX11_of : ab_Y := (yX11_of, cX11_of, 3, (some .int))
theorem kX11_of : ab_YK YX11_of 2 := ⟨lw_in3 (k := 5) rfl rfl, lw_in1 (k := 1) rfl rfl, ⟨by decide, by decide⟩, by decide +kernel, by decide⟩
theorem iX11_of : Cond.instanceMethod YX11_of.1 ∈ lw_all := lw_in3 (k := 3) rfl rfl
theorem eX11_of : Cond.selects YX11_of.1.cls YX11_of.1 YX11_of.1 ∈ lw_all := lw_in3 (k := 4) rfl rfl
abbrev YX11_empty : ab_Y := (yX11_empty, cX11_empty, 1, (some .int))
theorem kX11_empty : ab_YK YX11_empty 0 := ⟨lw_in3 (k := 9) rfl rfl, lw_in1 (k := 1) rfl rfl, ⟨by decide, by decide⟩, by decide +kernel, by decide⟩
theorem iX11_empty : Cond.instanceMethod YX11_empty.1 ∈ lw_all := lw_in3 (k := 7) rfl rfl
theorem eX11_empty : Cond.selects YX11_empty.1.cls YX11_empty.1 YX11_empty.1 ∈ lw_all := lw_in3 (k := 8) rfl rfl
abbrev YX11_write : ab_Y := (yX11_write, cX11_write, 5, (some .int))
theorem kX11_write : ab_YK YX11_write 2 := ⟨lw_in3 (k := 13) rfl rfl, lw_in1 (k := 1) rfl rfl, ⟨by decide, by decide⟩, by decide +kernel, by decide⟩
theorem iX11_write : Cond.instanceMethod YX11_write.1 ∈ lw_all := lw_in3 (k := 11) rfl rfl
theorem eX11_write : Cond.selects YX11_write.1.cls YX11_write.1 YX11_write.1 ∈ lw_all := lw_in3 (k := 12) rfl rfl
abbrev YX11_erase : ab_Y := (yX11_erase, cX11_erase, 2, (some .int))
theorem kX11_erase : ab_YK YX11_erase 0 := ⟨lw_in3 (k := 22) rfl rfl, lw_in1 (k := 1) rfl rfl, ⟨by decide, by decide⟩, by decide +kernel, by decide⟩
theorem iX11_erase : Cond.instanceMethod YX11_erase.1 ∈ lw_all := lw_in3 (k := 20) rfl rfl
theorem eX11_erase : Cond.selects YX11_erase.1.cls YX11_erase.1 YX11_erase.1 ∈ lw_all := lw_in3 (k := 21) rfl rfl
abbrev YX11_fault : ab_Y := (yX11_fault, cX11_fault, 1, (some .int))
theorem kX11_fault : ab_YK YX11_fault 0 := ⟨lw_in3 (k := 26) rfl rfl, lw_in1 (k := 1) rfl rfl, ⟨by decide, by decide⟩, by decide +kernel, by decide⟩
theorem iX11_fault : Cond.instanceMethod YX11_fault.1 ∈ lw_all := lw_in3 (k := 24) rfl rfl
theorem eX11_fault : Cond.selects YX11_fault.1.cls YX11_fault.1 YX11_fault.1 ∈ lw_all := lw_in3 (k := 25) rfl rfl
abbrev YX11_rules : ab_Y := (yX11_rules, cX11_rules, 1, (some .int))
theorem kX11_rules : ab_YK YX11_rules 0 := ⟨lw_in3 (k := 127) rfl rfl, lw_in1 (k := 1) rfl rfl, ⟨by decide, by decide⟩, by decide +kernel, by decide⟩
theorem iX11_rules : Cond.instanceMethod YX11_rules.1 ∈ lw_all := lw_in3 (k := 125) rfl rfl
theorem eX11_rules : Cond.selects YX11_rules.1.cls YX11_rules.1 YX11_rules.1 ∈ lw_all := lw_in3 (k := 126) rfl rfl
abbrev YX11_rule : ab_Y := (yX11_rule, cX11_rule, 2, (some .int))
theorem kX11_rule : ab_YK YX11_rule 1 := ⟨lw_in3 (k := 135) rfl rfl, lw_in1 (k := 1) rfl rfl, ⟨by decide, by decide⟩, by decide +kernel, by decide⟩
theorem iX11_rule : Cond.instanceMethod YX11_rule.1 ∈ lw_all := lw_in3 (k := 133) rfl rfl
theorem eX11_rule : Cond.selects YX11_rule.1.cls YX11_rule.1 YX11_rule.1 ∈ lw_all := lw_in3 (k := 134) rfl rfl
abbrev YX11_way : ab_Y := (yX11_way, cX11_way, 3, (some .int))
theorem kX11_way : ab_YK YX11_way 2 := ⟨lw_in3 (k := 139) rfl rfl, lw_in1 (k := 1) rfl rfl, ⟨by decide, by decide⟩, by decide +kernel, by decide⟩
theorem iX11_way : Cond.instanceMethod YX11_way.1 ∈ lw_all := lw_in3 (k := 137) rfl rfl
theorem eX11_way : Cond.selects YX11_way.1.cls YX11_way.1 YX11_way.1 ∈ lw_all := lw_in3 (k := 138) rfl rfl
abbrev YX11_would : ab_Y := (yX11_would, cX11_would, 3, (some .int))
theorem kX11_would : ab_YK YX11_would 2 := ⟨lw_in3 (k := 143) rfl rfl, lw_in1 (k := 1) rfl rfl, ⟨by decide, by decide⟩, by decide +kernel, by decide⟩
theorem iX11_would : Cond.instanceMethod YX11_would.1 ∈ lw_all := lw_in3 (k := 141) rfl rfl
theorem eX11_would : Cond.selects YX11_would.1.cls YX11_would.1 YX11_would.1 ∈ lw_all := lw_in3 (k := 142) rfl rfl
abbrev YX11_gain : ab_Y := (yX11_gain, cX11_gain, 3, (some .int))
theorem kX11_gain : ab_YK YX11_gain 2 := ⟨lw_in3 (k := 164) rfl rfl, lw_in1 (k := 1) rfl rfl, ⟨by decide, by decide⟩, by decide +kernel, by decide⟩
theorem iX11_gain : Cond.instanceMethod YX11_gain.1 ∈ lw_all := lw_in3 (k := 162) rfl rfl
theorem eX11_gain : Cond.selects YX11_gain.1.cls YX11_gain.1 YX11_gain.1 ∈ lw_all := lw_in3 (k := 163) rfl rfl
abbrev YX11_best : ab_Y := (yX11_best, cX11_best, 7, (some .int))
theorem kX11_best : ab_YK YX11_best 2 := ⟨lw_in3 (k := 173) rfl rfl, lw_in1 (k := 1) rfl rfl, ⟨by decide, by decide⟩, by decide +kernel, by decide⟩
theorem iX11_best : Cond.instanceMethod YX11_best.1 ∈ lw_all := lw_in3 (k := 171) rfl rfl
theorem eX11_best : Cond.selects YX11_best.1.cls YX11_best.1 YX11_best.1 ∈ lw_all := lw_in3 (k := 172) rfl rfl
abbrev YX11_rest : ab_Y := (yX11_rest, cX11_rest, 3, (some .int))
theorem kX11_rest : ab_YK YX11_rest 2 := ⟨lw_in3 (k := 177) rfl rfl, lw_in1 (k := 1) rfl rfl, ⟨by decide, by decide⟩, by decide +kernel, by decide⟩
theorem iX11_rest : Cond.instanceMethod YX11_rest.1 ∈ lw_all := lw_in3 (k := 175) rfl rfl
theorem eX11_rest : Cond.selects YX11_rest.1.cls YX11_rest.1 YX11_rest.1 ∈ lw_all := lw_in3 (k := 176) rfl rfl
abbrev YX11_lot : ab_Y := (yX11_lot, cX11_lot, 7, (some .int))
theorem kX11_lot : ab_YK YX11_lot 5 := ⟨lw_in3 (k := 218) rfl rfl, lw_in1 (k := 1) rfl rfl, ⟨by decide, by decide⟩, by decide +kernel, by decide⟩
theorem iX11_lot : Cond.instanceMethod YX11_lot.1 ∈ lw_all := lw_in3 (k := 216) rfl rfl
theorem eX11_lot : Cond.selects YX11_lot.1.cls YX11_lot.1 YX11_lot.1 ∈ lw_all := lw_in3 (k := 217) rfl rfl
abbrev YX11_holder : ab_Y := (yX11_holder, cX11_holder, 3, (some .int))
theorem kX11_holder : ab_YK YX11_holder 2 := ⟨lw_in4 (k := 14) rfl rfl, lw_in1 (k := 1) rfl rfl, ⟨by decide, by decide⟩, by decide +kernel, by decide⟩
theorem iX11_holder : Cond.instanceMethod YX11_holder.1 ∈ lw_all := lw_in4 (k := 12) rfl rfl
theorem eX11_holder : Cond.selects YX11_holder.1.cls YX11_holder.1 YX11_holder.1 ∈ lw_all := lw_in4 (k := 13) rfl rfl
abbrev YX11_swaps : ab_Y := (yX11_swaps, cX11_swaps, 2, (some .int))
theorem kX11_swaps : ab_YK YX11_swaps 1 := ⟨lw_in4 (k := 22) rfl rfl, lw_in1 (k := 1) rfl rfl, ⟨by decide, by decide⟩, by decide +kernel, by decide⟩
theorem iX11_swaps : Cond.instanceMethod YX11_swaps.1 ∈ lw_all := lw_in4 (k := 20) rfl rfl
theorem eX11_swaps : Cond.selects YX11_swaps.1.cls YX11_swaps.1 YX11_swaps.1 ∈ lw_all := lw_in4 (k := 21) rfl rfl
abbrev YX11_rings : ab_Y := (yX11_rings, cX11_rings, 1, (some .int))
theorem kX11_rings : ab_YK YX11_rings 0 := ⟨lw_in4 (k := 46) rfl rfl, lw_in1 (k := 1) rfl rfl, ⟨by decide, by decide⟩, by decide +kernel, by decide⟩
theorem iX11_rings : Cond.instanceMethod YX11_rings.1 ∈ lw_all := lw_in4 (k := 44) rfl rfl
theorem eX11_rings : Cond.selects YX11_rings.1.cls YX11_rings.1 YX11_rings.1 ∈ lw_all := lw_in4 (k := 45) rfl rfl
abbrev YX11_chain : ab_Y := (yX11_chain, cX11_chain, 3, (some .int))
theorem kX11_chain : ab_YK YX11_chain 2 := ⟨lw_in4 (k := 50) rfl rfl, lw_in1 (k := 1) rfl rfl, ⟨by decide, by decide⟩, by decide +kernel, by decide⟩
theorem iX11_chain : Cond.instanceMethod YX11_chain.1 ∈ lw_all := lw_in4 (k := 48) rfl rfl
theorem eX11_chain : Cond.selects YX11_chain.1.cls YX11_chain.1 YX11_chain.1 ∈ lw_all := lw_in4 (k := 49) rfl rfl
abbrev YX11_mean : ab_Y := (yX11_mean, cX11_mean, 16, (some .long))
theorem kX11_mean : ab_YK YX11_mean 4 := ⟨lw_in4 (k := 66) rfl rfl, lw_in1 (k := 1) rfl rfl, ⟨by decide, by decide⟩, by decide +kernel, by decide⟩
theorem iX11_mean : Cond.instanceMethod YX11_mean.1 ∈ lw_all := lw_in4 (k := 64) rfl rfl
theorem eX11_mean : Cond.selects YX11_mean.1.cls YX11_mean.1 YX11_mean.1 ∈ lw_all := lw_in4 (k := 65) rfl rfl
abbrev YX11_count : ab_Y := (yX11_count, cX11_count, 2, (some .int))
theorem kX11_count : ab_YK YX11_count 1 := ⟨lw_in4 (k := 74) rfl rfl, lw_in1 (k := 1) rfl rfl, ⟨by decide, by decide⟩, by decide +kernel, by decide⟩
theorem iX11_count : Cond.instanceMethod YX11_count.1 ∈ lw_all := lw_in4 (k := 72) rfl rfl
theorem eX11_count : Cond.selects YX11_count.1.cls YX11_count.1 YX11_count.1 ∈ lw_all := lw_in4 (k := 73) rfl rfl
abbrev YX11_tryOut : ab_Y := (yX11_tryOut, cX11_tryOut, 3, none)
theorem kX11_tryOut : ab_YK YX11_tryOut 2 := ⟨lw_in3 (k := 147) rfl rfl, lw_in1 (k := 1) rfl rfl, ⟨by decide, by decide⟩, by decide +kernel, by decide⟩
theorem iX11_tryOut : Cond.instanceMethod YX11_tryOut.1 ∈ lw_all := lw_in3 (k := 146) rfl rfl
theorem eX11_tryOut : Cond.selects YX11_tryOut.1.cls YX11_tryOut.1 YX11_tryOut.1 ∈ lw_all := lw_in0 (k := 12) (q := (yX11_tryOut, _)) rfl
abbrev YX11_within : ab_Y := (yX11_within, cX11_within, 3, (some .boolean))
theorem kX11_within : ab_YK YX11_within 3 := ⟨lw_in2 (k := 143) rfl rfl, lw_in1 (k := 1) rfl rfl, ⟨by decide, by decide⟩, by decide +kernel, by decide⟩
theorem sX11_within : Cond.static YX11_within.1 ∈ lw_all := lw_in2 (k := 142) rfl rfl
abbrev YX11_isSort : ab_Y := (yX11_isSort, cX11_isSort, 1, (some .boolean))
theorem kX11_isSort : ab_YK YX11_isSort 1 := ⟨lw_in2 (k := 140) rfl rfl, lw_in1 (k := 1) rfl rfl, ⟨by decide, by decide⟩, by decide +kernel, by decide⟩
theorem sX11_isSort : Cond.static YX11_isSort.1 ∈ lw_all := lw_in2 (k := 139) rfl rfl
abbrev YX11_isKind : ab_Y := (yX11_isKind, cX11_isKind, 1, (some .boolean))
theorem kX11_isKind : ab_YK YX11_isKind 1 := ⟨lw_in2 (k := 146) rfl rfl, lw_in1 (k := 1) rfl rfl, ⟨by decide, by decide⟩, by decide +kernel, by decide⟩
theorem sX11_isKind : Cond.static YX11_isKind.1 ∈ lw_all := lw_in2 (k := 145) rfl rfl
abbrev YX11_power : ab_Y := (yX11_power, cX11_power, 6, (some .long))
theorem kX11_power : ab_YK YX11_power 2 := ⟨lw_in4 (k := 70) rfl rfl, lw_in1 (k := 1) rfl rfl, ⟨by decide, by decide⟩, by decide +kernel, by decide⟩
theorem sX11_power : Cond.static YX11_power.1 ∈ lw_all := lw_in4 (k := 69) rfl rfl
abbrev YX11_lowest : ab_Y := (yX11_lowest, cX11_lowest, 7, (some .long))
theorem kX11_lowest : ab_YK YX11_lowest 3 := ⟨lw_in4 (k := 7) rfl rfl, lw_in1 (k := 1) rfl rfl, ⟨by decide, by decide⟩, by decide +kernel, by decide⟩
theorem sX11_lowest : Cond.static YX11_lowest.1 ∈ lw_all := lw_in4 (k := 6) rfl rfl
abbrev YX11_commonDivisor : ab_Y := (yX11_commonDivisor, cX11_commonDivisor, 7, (some .long))
theorem kX11_commonDivisor : ab_YK YX11_commonDivisor 2 := ⟨lw_in4 (k := 10) rfl rfl, lw_in1 (k := 1) rfl rfl, ⟨by decide, by decide⟩, by decide +kernel, by decide⟩
theorem sX11_commonDivisor : Cond.static YX11_commonDivisor.1 ∈ lw_all := lw_in4 (k := 9) rfl rfl
abbrev YX12_init : ab_Y := (yX12_init, cX12_init, 2, none)
theorem kX12_init : ab_YK YX12_init 0 := ⟨lw_in4 (k := 79) rfl rfl, lw_in1 (k := 14) rfl rfl, ⟨by decide, by decide⟩, by decide +kernel, by decide⟩
theorem iX12_init : Cond.instanceMethod YX12_init.1 ∈ lw_all := lw_in4 (k := 78) rfl rfl
abbrev YX12_firstRules : ab_Y := (yX12_firstRules, cX12_firstRules, 2, none)
theorem kX12_firstRules : ab_YK YX12_firstRules 1 := ⟨lw_in4 (k := 83) rfl rfl, lw_in1 (k := 14) rfl rfl, ⟨by decide, by decide⟩, by decide +kernel, by decide⟩
theorem sX12_firstRules : Cond.static YX12_firstRules.1 ∈ lw_all := lw_in4 (k := 82) rfl rfl
abbrev YX12_in : ab_Y := (yX12_in, cX12_in, 3, (some .boolean))
theorem kX12_in : ab_YK YX12_in 3 := ⟨lw_in4 (k := 191) rfl rfl, lw_in1 (k := 14) rfl rfl, ⟨by decide, by decide⟩, by decide +kernel, by decide⟩
theorem sX12_in : Cond.static YX12_in.1 ∈ lw_all := lw_in4 (k := 190) rfl rfl
abbrev YX12_isFour : ab_Y := (yX12_isFour, cX12_isFour, 1, (some .boolean))
theorem kX12_isFour : ab_YK YX12_isFour 1 := ⟨lw_in4 (k := 188) rfl rfl, lw_in1 (k := 14) rfl rfl, ⟨by decide, by decide⟩, by decide +kernel, by decide⟩
theorem sX12_isFour : Cond.static YX12_isFour.1 ∈ lw_all := lw_in4 (k := 187) rfl rfl
abbrev YX12_worth : ab_Y := (yX12_worth, cX12_worth, 5, (some .int))
theorem kX12_worth : ab_YK YX12_worth 3 := ⟨lw_in4 (k := 185) rfl rfl, lw_in1 (k := 14) rfl rfl, ⟨by decide, by decide⟩, by decide +kernel, by decide⟩
theorem iX12_worth : Cond.instanceMethod YX12_worth.1 ∈ lw_all := lw_in4 (k := 183) rfl rfl
theorem eX12_worth : Cond.selects YX12_worth.1.cls YX12_worth.1 YX12_worth.1 ∈ lw_all := lw_in4 (k := 184) rfl rfl
abbrev YX12_need : ab_Y := (yX12_need, cX12_need, 4, (some .int))
theorem kX12_need : ab_YK YX12_need 2 := ⟨lw_in4 (k := 195) rfl rfl, lw_in1 (k := 14) rfl rfl, ⟨by decide, by decide⟩, by decide +kernel, by decide⟩
theorem iX12_need : Cond.instanceMethod YX12_need.1 ∈ lw_all := lw_in4 (k := 193) rfl rfl
theorem eX12_need : Cond.selects YX12_need.1.cls YX12_need.1 YX12_need.1 ∈ lw_all := lw_in4 (k := 194) rfl rfl
abbrev YX12_coming : ab_Y := (yX12_coming, cX12_coming, 2, (some .int))
theorem kX12_coming : ab_YK YX12_coming 1 := ⟨lw_in4 (k := 199) rfl rfl, lw_in1 (k := 14) rfl rfl, ⟨by decide, by decide⟩, by decide +kernel, by decide⟩
theorem iX12_coming : Cond.instanceMethod YX12_coming.1 ∈ lw_all := lw_in4 (k := 197) rfl rfl
theorem eX12_coming : Cond.selects YX12_coming.1.cls YX12_coming.1 YX12_coming.1 ∈ lw_all := lw_in4 (k := 198) rfl rfl
abbrev YX12_joining : ab_Y := (yX12_joining, cX12_joining, 2, (some .int))
theorem kX12_joining : ab_YK YX12_joining 1 := ⟨lw_in4 (k := 203) rfl rfl, lw_in1 (k := 14) rfl rfl, ⟨by decide, by decide⟩, by decide +kernel, by decide⟩
theorem iX12_joining : Cond.instanceMethod YX12_joining.1 ∈ lw_all := lw_in4 (k := 201) rfl rfl
theorem eX12_joining : Cond.selects YX12_joining.1.cls YX12_joining.1 YX12_joining.1 ∈ lw_all := lw_in4 (k := 202) rfl rfl
abbrev YX12_add : ab_Y := (yX12_add, cX12_add, 3, none)
theorem kX12_add : ab_YK YX12_add 1 := ⟨lw_in4 (k := 211) rfl rfl, lw_in1 (k := 14) rfl rfl, ⟨by decide, by decide⟩, by decide +kernel, by decide⟩
theorem iX12_add : Cond.instanceMethod YX12_add.1 ∈ lw_all := lw_in4 (k := 210) rfl rfl
theorem eX12_add : Cond.selects YX12_add.1.cls YX12_add.1 YX12_add.1 ∈ lw_all := lw_in0 (k := 23) (q := (yX12_add, _)) rfl
abbrev YX12_join : ab_Y := (yX12_join, cX12_join, 2, (some .int))
theorem kX12_join : ab_YK YX12_join 1 := ⟨lw_in4 (k := 207) rfl rfl, lw_in1 (k := 14) rfl rfl, ⟨by decide, by decide⟩, by decide +kernel, by decide⟩
theorem iX12_join : Cond.instanceMethod YX12_join.1 ∈ lw_all := lw_in4 (k := 205) rfl rfl
theorem eX12_join : Cond.selects YX12_join.1.cls YX12_join.1 YX12_join.1 ∈ lw_all := lw_in4 (k := 206) rfl rfl
abbrev YX12_isAhead : ab_Y := (yX12_isAhead, cX12_isAhead, 5, (some .boolean))
theorem kX12_isAhead : ab_YK YX12_isAhead 2 := ⟨lw_in4 (k := 231) rfl rfl, lw_in1 (k := 14) rfl rfl, ⟨by decide, by decide⟩, by decide +kernel, by decide⟩
theorem iX12_isAhead : Cond.instanceMethod YX12_isAhead.1 ∈ lw_all := lw_in4 (k := 230) rfl rfl
theorem eX12_isAhead : Cond.selects YX12_isAhead.1.cls YX12_isAhead.1 YX12_isAhead.1 ∈ lw_all := lw_in0 (k := 27) (q := (yX12_isAhead, _)) rfl
abbrev YX12_findOrder : ab_Y := (yX12_findOrder, cX12_findOrder, 4, none)
theorem kX12_findOrder : ab_YK YX12_findOrder 0 := ⟨lw_in4 (k := 227) rfl rfl, lw_in1 (k := 14) rfl rfl, ⟨by decide, by decide⟩, by decide +kernel, by decide⟩
theorem iX12_findOrder : Cond.instanceMethod YX12_findOrder.1 ∈ lw_all := lw_in4 (k := 226) rfl rfl
theorem eX12_findOrder : Cond.selects YX12_findOrder.1.cls YX12_findOrder.1 YX12_findOrder.1 ∈ lw_all := lw_in0 (k := 26) (q := (yX12_findOrder, _)) rfl
abbrev YX12_doesTake : ab_Y := (yX12_doesTake, cX12_doesTake, 6, (some .boolean))
theorem kX12_doesTake : ab_YK YX12_doesTake 2 := ⟨lw_in4 (k := 235) rfl rfl, lw_in1 (k := 14) rfl rfl, ⟨by decide, by decide⟩, by decide +kernel, by decide⟩
theorem iX12_doesTake : Cond.instanceMethod YX12_doesTake.1 ∈ lw_all := lw_in4 (k := 234) rfl rfl
theorem eX12_doesTake : Cond.selects YX12_doesTake.1.cls YX12_doesTake.1 YX12_doesTake.1 ∈ lw_all := lw_in0 (k := 28) (q := (yX12_doesTake, _)) rfl
abbrev YX12_offer : ab_Y := (yX12_offer, cX12_offer, 6, none)
theorem kX12_offer : ab_YK YX12_offer 1 := ⟨lw_in4 (k := 223) rfl rfl, lw_in1 (k := 14) rfl rfl, ⟨by decide, by decide⟩, by decide +kernel, by decide⟩
theorem iX12_offer : Cond.instanceMethod YX12_offer.1 ∈ lw_all := lw_in4 (k := 222) rfl rfl
theorem eX12_offer : Cond.selects YX12_offer.1.cls YX12_offer.1 YX12_offer.1 ∈ lw_all := lw_in0 (k := 25) (q := (yX12_offer, _)) rfl
abbrev YX12_goWeek : ab_Y := (yX12_goWeek, cX12_goWeek, 5, none)
theorem kX12_goWeek : ab_YK YX12_goWeek 0 := ⟨lw_in4 (k := 219) rfl rfl, lw_in1 (k := 14) rfl rfl, ⟨by decide, by decide⟩, by decide +kernel, by decide⟩
theorem iX12_goWeek : Cond.instanceMethod YX12_goWeek.1 ∈ lw_all := lw_in4 (k := 218) rfl rfl
theorem eX12_goWeek : Cond.selects YX12_goWeek.1.cls YX12_goWeek.1 YX12_goWeek.1 ∈ lw_all := lw_in0 (k := 24) (q := (yX12_goWeek, _)) rfl
abbrev YX12_run : ab_Y := (yX12_run, cX12_run, 3, (some .int))
theorem kX12_run : ab_YK YX12_run 1 := ⟨lw_in4 (k := 215) rfl rfl, lw_in1 (k := 14) rfl rfl, ⟨by decide, by decide⟩, by decide +kernel, by decide⟩
theorem iX12_run : Cond.instanceMethod YX12_run.1 ∈ lw_all := lw_in4 (k := 213) rfl rfl
theorem eX12_run : Cond.selects YX12_run.1.cls YX12_run.1 YX12_run.1 ∈ lw_all := lw_in4 (k := 214) rfl rfl
abbrev YX12_person : ab_Y := (yX12_person, cX12_person, 3, (some .int))
theorem kX12_person : ab_YK YX12_person 2 := ⟨lw_in4 (k := 239) rfl rfl, lw_in1 (k := 14) rfl rfl, ⟨by decide, by decide⟩, by decide +kernel, by decide⟩
theorem iX12_person : Cond.instanceMethod YX12_person.1 ∈ lw_all := lw_in4 (k := 237) rfl rfl
theorem eX12_person : Cond.selects YX12_person.1.cls YX12_person.1 YX12_person.1 ∈ lw_all := lw_in4 (k := 238) rfl rfl
abbrev YX12_of : ab_Y := (yX12_of, cX12_of, 3, (some .int))
theorem kX12_of : ab_YK YX12_of 2 := ⟨lw_in5 (k := 3) rfl rfl, lw_in1 (k := 14) rfl rfl, ⟨by decide, by decide⟩, by decide +kernel, by decide⟩
theorem iX12_of : Cond.instanceMethod YX12_of.1 ∈ lw_all := lw_in5 (k := 1) rfl rfl
theorem eX12_of : Cond.selects YX12_of.1.cls YX12_of.1 YX12_of.1 ∈ lw_all := lw_in5 (k := 2) rfl rfl
abbrev YX12_empty : ab_Y := (yX12_empty, cX12_empty, 1, (some .int))
theorem kX12_empty : ab_YK YX12_empty 0 := ⟨lw_in5 (k := 7) rfl rfl, lw_in1 (k := 14) rfl rfl, ⟨by decide, by decide⟩, by decide +kernel, by decide⟩
theorem iX12_empty : Cond.instanceMethod YX12_empty.1 ∈ lw_all := lw_in5 (k := 5) rfl rfl
theorem eX12_empty : Cond.selects YX12_empty.1.cls YX12_empty.1 YX12_empty.1 ∈ lw_all := lw_in5 (k := 6) rfl rfl
abbrev YX12_write : ab_Y := (yX12_write, cX12_write, 5, (some .int))
theorem kX12_write : ab_YK YX12_write 2 := ⟨lw_in5 (k := 11) rfl rfl, lw_in1 (k := 14) rfl rfl, ⟨by decide, by decide⟩, by decide +kernel, by decide⟩
theorem iX12_write : Cond.instanceMethod YX12_write.1 ∈ lw_all := lw_in5 (k := 9) rfl rfl
theorem eX12_write : Cond.selects YX12_write.1.cls YX12_write.1 YX12_write.1 ∈ lw_all := lw_in5 (k := 10) rfl rfl
abbrev YX12_erase : ab_Y := (yX12_erase, cX12_erase, 2, (some .int))
theorem kX12_erase : ab_YK YX12_erase 0 := ⟨lw_in5 (k := 16) rfl rfl, lw_in1 (k := 14) rfl rfl, ⟨by decide, by decide⟩, by decide +kernel, by decide⟩
theorem iX12_erase : Cond.instanceMethod YX12_erase.1 ∈ lw_all := lw_in5 (k := 14) rfl rfl
theorem eX12_erase : Cond.selects YX12_erase.1.cls YX12_erase.1 YX12_erase.1 ∈ lw_all := lw_in5 (k := 15) rfl rfl
abbrev YX12_nextToken : ab_Y := (yX12_nextToken, cX12_nextToken, 1, none)
theorem kX12_nextToken : ab_YK YX12_nextToken 0 := ⟨lw_in5 (k := 32) rfl rfl, lw_in1 (k := 14) rfl rfl, ⟨by decide, by decide⟩, by decide +kernel, by decide⟩
theorem iX12_nextToken : Cond.instanceMethod YX12_nextToken.1 ∈ lw_all := lw_in5 (k := 31) rfl rfl
theorem eX12_nextToken : Cond.selects YX12_nextToken.1.cls YX12_nextToken.1 YX12_nextToken.1 ∈ lw_all := lw_in0 (k := 31) (q := (yX12_nextToken, _)) rfl
abbrev YX12_fails : ab_Y := (yX12_fails, cX12_fails, 1, (some .boolean))
theorem kX12_fails : ab_YK YX12_fails 0 := ⟨lw_in5 (k := 50) rfl rfl, lw_in1 (k := 14) rfl rfl, ⟨by decide, by decide⟩, by decide +kernel, by decide⟩
theorem iX12_fails : Cond.instanceMethod YX12_fails.1 ∈ lw_all := lw_in5 (k := 49) rfl rfl
theorem eX12_fails : Cond.selects YX12_fails.1.cls YX12_fails.1 YX12_fails.1 ∈ lw_all := lw_in0 (k := 33) (q := (yX12_fails, _)) rfl
abbrev YX12_isNumber : ab_Y := (yX12_isNumber, cX12_isNumber, 3, (some .boolean))
theorem kX12_isNumber : ab_YK YX12_isNumber 2 := ⟨lw_in5 (k := 55) rfl rfl, lw_in1 (k := 14) rfl rfl, ⟨by decide, by decide⟩, by decide +kernel, by decide⟩
theorem iX12_isNumber : Cond.instanceMethod YX12_isNumber.1 ∈ lw_all := lw_in5 (k := 54) rfl rfl
theorem eX12_isNumber : Cond.selects YX12_isNumber.1.cls YX12_isNumber.1 YX12_isNumber.1 ∈ lw_all := lw_in0 (k := 34) (q := (yX12_isNumber, _)) rfl
abbrev YX12_isOf : ab_Y := (yX12_isOf, cX12_isOf, 8, (some .boolean))
theorem kX12_isOf : ab_YK YX12_isOf 4 := ⟨lw_in5 (k := 46) rfl rfl, lw_in1 (k := 14) rfl rfl, ⟨by decide, by decide⟩, by decide +kernel, by decide⟩
theorem iX12_isOf : Cond.instanceMethod YX12_isOf.1 ∈ lw_all := lw_in5 (k := 45) rfl rfl
theorem eX12_isOf : Cond.selects YX12_isOf.1.cls YX12_isOf.1 YX12_isOf.1 ∈ lw_all := lw_in0 (k := 32) (q := (yX12_isOf, _)) rfl
abbrev YX12_isWay : ab_Y := (yX12_isWay, cX12_isWay, 2, (some .boolean))
theorem kX12_isWay : ab_YK YX12_isWay 0 := ⟨lw_in5 (k := 65) rfl rfl, lw_in1 (k := 14) rfl rfl, ⟨by decide, by decide⟩, by decide +kernel, by decide⟩
theorem iX12_isWay : Cond.instanceMethod YX12_isWay.1 ∈ lw_all := lw_in5 (k := 64) rfl rfl
theorem eX12_isWay : Cond.selects YX12_isWay.1.cls YX12_isWay.1 YX12_isWay.1 ∈ lw_all := lw_in0 (k := 35) (q := (yX12_isWay, _)) rfl
abbrev YX12_isLine : ab_Y := (yX12_isLine, cX12_isLine, 1, (some .boolean))
theorem kX12_isLine : ab_YK YX12_isLine 0 := ⟨lw_in5 (k := 28) rfl rfl, lw_in1 (k := 14) rfl rfl, ⟨by decide, by decide⟩, by decide +kernel, by decide⟩
theorem iX12_isLine : Cond.instanceMethod YX12_isLine.1 ∈ lw_all := lw_in5 (k := 27) rfl rfl
theorem eX12_isLine : Cond.selects YX12_isLine.1.cls YX12_isLine.1 YX12_isLine.1 ∈ lw_all := lw_in0 (k := 30) (q := (yX12_isLine, _)) rfl
abbrev YX12_isRead : ab_Y := (yX12_isRead, cX12_isRead, 2, (some .boolean))
theorem kX12_isRead : ab_YK YX12_isRead 0 := ⟨lw_in5 (k := 24) rfl rfl, lw_in1 (k := 14) rfl rfl, ⟨by decide, by decide⟩, by decide +kernel, by decide⟩
theorem iX12_isRead : Cond.instanceMethod YX12_isRead.1 ∈ lw_all := lw_in5 (k := 23) rfl rfl
theorem eX12_isRead : Cond.selects YX12_isRead.1.cls YX12_isRead.1 YX12_isRead.1 ∈ lw_all := lw_in0 (k := 29) (q := (yX12_isRead, _)) rfl
abbrev YX12_fault : ab_Y := (yX12_fault, cX12_fault, 1, (some .int))
theorem kX12_fault : ab_YK YX12_fault 0 := ⟨lw_in5 (k := 20) rfl rfl, lw_in1 (k := 14) rfl rfl, ⟨by decide, by decide⟩, by decide +kernel, by decide⟩
theorem iX12_fault : Cond.instanceMethod YX12_fault.1 ∈ lw_all := lw_in5 (k := 18) rfl rfl
theorem eX12_fault : Cond.selects YX12_fault.1.cls YX12_fault.1 YX12_fault.1 ∈ lw_all := lw_in5 (k := 19) rfl rfl
abbrev YX12_rules : ab_Y := (yX12_rules, cX12_rules, 2, (some .int))
theorem kX12_rules : ab_YK YX12_rules 0 := ⟨lw_in5 (k := 72) rfl rfl, lw_in1 (k := 14) rfl rfl, ⟨by decide, by decide⟩, by decide +kernel, by decide⟩
theorem iX12_rules : Cond.instanceMethod YX12_rules.1 ∈ lw_all := lw_in5 (k := 70) rfl rfl
theorem eX12_rules : Cond.selects YX12_rules.1.cls YX12_rules.1 YX12_rules.1 ∈ lw_all := lw_in5 (k := 71) rfl rfl
abbrev YX12_rule : ab_Y := (yX12_rule, cX12_rule, 2, (some .int))
theorem kX12_rule : ab_YK YX12_rule 1 := ⟨lw_in5 (k := 76) rfl rfl, lw_in1 (k := 14) rfl rfl, ⟨by decide, by decide⟩, by decide +kernel, by decide⟩
theorem iX12_rule : Cond.instanceMethod YX12_rule.1 ∈ lw_all := lw_in5 (k := 74) rfl rfl
theorem eX12_rule : Cond.selects YX12_rule.1.cls YX12_rule.1 YX12_rule.1 ∈ lw_all := lw_in5 (k := 75) rfl rfl
abbrev YX12_way : ab_Y := (yX12_way, cX12_way, 3, (some .int))
theorem kX12_way : ab_YK YX12_way 2 := ⟨lw_in5 (k := 80) rfl rfl, lw_in1 (k := 14) rfl rfl, ⟨by decide, by decide⟩, by decide +kernel, by decide⟩
theorem iX12_way : Cond.instanceMethod YX12_way.1 ∈ lw_all := lw_in5 (k := 78) rfl rfl
theorem eX12_way : Cond.selects YX12_way.1.cls YX12_way.1 YX12_way.1 ∈ lw_all := lw_in5 (k := 79) rfl rfl
abbrev YX12_keepRules : ab_Y := (yX12_keepRules, cX12_keepRules, 2, none)
theorem kX12_keepRules : ab_YK YX12_keepRules 0 := ⟨lw_in5 (k := 113) rfl rfl, lw_in1 (k := 14) rfl rfl, ⟨by decide, by decide⟩, by decide +kernel, by decide⟩
theorem iX12_keepRules : Cond.instanceMethod YX12_keepRules.1 ∈ lw_all := lw_in5 (k := 112) rfl rfl
theorem eX12_keepRules : Cond.selects YX12_keepRules.1.cls YX12_keepRules.1 YX12_keepRules.1 ∈ lw_all := lw_in0 (k := 40) (q := (yX12_keepRules, _)) rfl
abbrev YX12_layBackRules : ab_Y := (yX12_layBackRules, cX12_layBackRules, 2, none)
theorem kX12_layBackRules : ab_YK YX12_layBackRules 0 := ⟨lw_in5 (k := 117) rfl rfl, lw_in1 (k := 14) rfl rfl, ⟨by decide, by decide⟩, by decide +kernel, by decide⟩
theorem iX12_layBackRules : Cond.instanceMethod YX12_layBackRules.1 ∈ lw_all := lw_in5 (k := 116) rfl rfl
theorem eX12_layBackRules : Cond.selects YX12_layBackRules.1.cls YX12_layBackRules.1 YX12_layBackRules.1 ∈ lw_all := lw_in0 (k := 41) (q := (yX12_layBackRules, _)) rfl
abbrev YX12_goOn : ab_Y := (yX12_goOn, cX12_goOn, 3, none)
theorem kX12_goOn : ab_YK YX12_goOn 1 := ⟨lw_in5 (k := 88) rfl rfl, lw_in1 (k := 14) rfl rfl, ⟨by decide, by decide⟩, by decide +kernel, by decide⟩
theorem iX12_goOn : Cond.instanceMethod YX12_goOn.1 ∈ lw_all := lw_in5 (k := 87) rfl rfl
theorem eX12_goOn : Cond.selects YX12_goOn.1.cls YX12_goOn.1 YX12_goOn.1 ∈ lw_all := lw_in0 (k := 36) (q := (yX12_goOn, _)) rfl
abbrev YX12_layBack : ab_Y := (yX12_layBack, cX12_layBack, 2, none)
theorem kX12_layBack : ab_YK YX12_layBack 0 := ⟨lw_in5 (k := 96) rfl rfl, lw_in1 (k := 14) rfl rfl, ⟨by decide, by decide⟩, by decide +kernel, by decide⟩
theorem iX12_layBack : Cond.instanceMethod YX12_layBack.1 ∈ lw_all := lw_in5 (k := 95) rfl rfl
theorem eX12_layBack : Cond.selects YX12_layBack.1.cls YX12_layBack.1 YX12_layBack.1 ∈ lw_all := lw_in0 (k := 38) (q := (yX12_layBack, _)) rfl
abbrev YX12_more : ab_Y := (yX12_more, cX12_more, 4, (some .int))
theorem kX12_more : ab_YK YX12_more 1 := ⟨lw_in5 (k := 92) rfl rfl, lw_in1 (k := 14) rfl rfl, ⟨by decide, by decide⟩, by decide +kernel, by decide⟩
theorem iX12_more : Cond.instanceMethod YX12_more.1 ∈ lw_all := lw_in5 (k := 91) rfl rfl
theorem eX12_more : Cond.selects YX12_more.1.cls YX12_more.1 YX12_more.1 ∈ lw_all := lw_in0 (k := 37) (q := (yX12_more, _)) rfl
abbrev YX12_would : ab_Y := (yX12_would, cX12_would, 4, (some .int))
theorem kX12_would : ab_YK YX12_would 2 := ⟨lw_in5 (k := 84) rfl rfl, lw_in1 (k := 14) rfl rfl, ⟨by decide, by decide⟩, by decide +kernel, by decide⟩
theorem iX12_would : Cond.instanceMethod YX12_would.1 ∈ lw_all := lw_in5 (k := 82) rfl rfl
theorem eX12_would : Cond.selects YX12_would.1.cls YX12_would.1 YX12_would.1 ∈ lw_all := lw_in5 (k := 83) rfl rfl
abbrev YX12_gainOf : ab_Y := (yX12_gainOf, cX12_gainOf, 2, (some .int))
theorem kX12_gainOf : ab_YK YX12_gainOf 1 := ⟨lw_in5 (k := 105) rfl rfl, lw_in1 (k := 14) rfl rfl, ⟨by decide, by decide⟩, by decide +kernel, by decide⟩
theorem iX12_gainOf : Cond.instanceMethod YX12_gainOf.1 ∈ lw_all := lw_in5 (k := 104) rfl rfl
theorem eX12_gainOf : Cond.selects YX12_gainOf.1.cls YX12_gainOf.1 YX12_gainOf.1 ∈ lw_all := lw_in0 (k := 39) (q := (yX12_gainOf, _)) rfl
abbrev YX12_gain : ab_Y := (yX12_gain, cX12_gain, 4, (some .int))
theorem kX12_gain : ab_YK YX12_gain 2 := ⟨lw_in5 (k := 100) rfl rfl, lw_in1 (k := 14) rfl rfl, ⟨by decide, by decide⟩, by decide +kernel, by decide⟩
theorem iX12_gain : Cond.instanceMethod YX12_gain.1 ∈ lw_all := lw_in5 (k := 98) rfl rfl
theorem eX12_gain : Cond.selects YX12_gain.1.cls YX12_gain.1 YX12_gain.1 ∈ lw_all := lw_in5 (k := 99) rfl rfl
abbrev YX12_best : ab_Y := (yX12_best, cX12_best, 7, (some .int))
theorem kX12_best : ab_YK YX12_best 2 := ⟨lw_in5 (k := 109) rfl rfl, lw_in1 (k := 14) rfl rfl, ⟨by decide, by decide⟩, by decide +kernel, by decide⟩
theorem iX12_best : Cond.instanceMethod YX12_best.1 ∈ lw_all := lw_in5 (k := 107) rfl rfl
theorem eX12_best : Cond.selects YX12_best.1.cls YX12_best.1 YX12_best.1 ∈ lw_all := lw_in5 (k := 108) rfl rfl
abbrev YX12_findGains : ab_Y := (yX12_findGains, cX12_findGains, 6, none)
theorem kX12_findGains : ab_YK YX12_findGains 1 := ⟨lw_in5 (k := 125) rfl rfl, lw_in1 (k := 14) rfl rfl, ⟨by decide, by decide⟩, by decide +kernel, by decide⟩
theorem iX12_findGains : Cond.instanceMethod YX12_findGains.1 ∈ lw_all := lw_in5 (k := 124) rfl rfl
theorem eX12_findGains : Cond.selects YX12_findGains.1.cls YX12_findGains.1 YX12_findGains.1 ∈ lw_all := lw_in0 (k := 42) (q := (yX12_findGains, _)) rfl
abbrev YX12_isAtRest : ab_Y := (yX12_isAtRest, cX12_isAtRest, 7, (some .boolean))
theorem kX12_isAtRest : ab_YK YX12_isAtRest 1 := ⟨lw_in5 (k := 129) rfl rfl, lw_in1 (k := 14) rfl rfl, ⟨by decide, by decide⟩, by decide +kernel, by decide⟩
theorem iX12_isAtRest : Cond.instanceMethod YX12_isAtRest.1 ∈ lw_all := lw_in5 (k := 128) rfl rfl
theorem eX12_isAtRest : Cond.selects YX12_isAtRest.1.cls YX12_isAtRest.1 YX12_isAtRest.1 ∈ lw_all := lw_in0 (k := 43) (q := (yX12_isAtRest, _)) rfl
abbrev YX12_rest : ab_Y := (yX12_rest, cX12_rest, 5, (some .int))
theorem kX12_rest : ab_YK YX12_rest 2 := ⟨lw_in5 (k := 121) rfl rfl, lw_in1 (k := 14) rfl rfl, ⟨by decide, by decide⟩, by decide +kernel, by decide⟩
theorem iX12_rest : Cond.instanceMethod YX12_rest.1 ∈ lw_all := lw_in5 (k := 119) rfl rfl
theorem eX12_rest : Cond.selects YX12_rest.1.cls YX12_rest.1 YX12_rest.1 ∈ lw_all := lw_in5 (k := 120) rfl rfl
abbrev YX12_divisor : ab_Y := (yX12_divisor, cX12_divisor, 10, (some .long))
theorem kX12_divisor : ab_YK YX12_divisor 2 := ⟨lw_in5 (k := 144) rfl rfl, lw_in1 (k := 14) rfl rfl, ⟨by decide, by decide⟩, by decide +kernel, by decide⟩
theorem sX12_divisor : Cond.static YX12_divisor.1 ∈ lw_all := lw_in5 (k := 143) rfl rfl
abbrev YX12_part : ab_Y := (yX12_part, cX12_part, 8, (some .int))
theorem kX12_part : ab_YK YX12_part 3 := ⟨lw_in5 (k := 141) rfl rfl, lw_in1 (k := 14) rfl rfl, ⟨by decide, by decide⟩, by decide +kernel, by decide⟩
theorem iX12_part : Cond.instanceMethod YX12_part.1 ∈ lw_all := lw_in5 (k := 140) rfl rfl
theorem eX12_part : Cond.selects YX12_part.1.cls YX12_part.1 YX12_part.1 ∈ lw_all := lw_in0 (k := 45) (q := (yX12_part, _)) rfl
abbrev YX12_lotOf : ab_Y := (yX12_lotOf, cX12_lotOf, 9, (some .int))
theorem kX12_lotOf : ab_YK YX12_lotOf 3 := ⟨lw_in5 (k := 137) rfl rfl, lw_in1 (k := 14) rfl rfl, ⟨by decide, by decide⟩, by decide +kernel, by decide⟩
theorem iX12_lotOf : Cond.instanceMethod YX12_lotOf.1 ∈ lw_all := lw_in5 (k := 136) rfl rfl
theorem eX12_lotOf : Cond.selects YX12_lotOf.1.cls YX12_lotOf.1 YX12_lotOf.1 ∈ lw_all := lw_in0 (k := 44) (q := (yX12_lotOf, _)) rfl
abbrev YX12_lot : ab_Y := (yX12_lot, cX12_lot, 14, (some .int))
theorem kX12_lot : ab_YK YX12_lot 5 := ⟨lw_in5 (k := 133) rfl rfl, lw_in1 (k := 14) rfl rfl, ⟨by decide, by decide⟩, by decide +kernel, by decide⟩
theorem iX12_lot : Cond.instanceMethod YX12_lot.1 ∈ lw_all := lw_in5 (k := 131) rfl rfl
theorem eX12_lot : Cond.selects YX12_lot.1.cls YX12_lot.1 YX12_lot.1 ∈ lw_all := lw_in5 (k := 132) rfl rfl
abbrev YX12_holder : ab_Y := (yX12_holder, cX12_holder, 3, (some .int))
theorem kX12_holder : ab_YK YX12_holder 2 := ⟨lw_in5 (k := 148) rfl rfl, lw_in1 (k := 14) rfl rfl, ⟨by decide, by decide⟩, by decide +kernel, by decide⟩
theorem iX12_holder : Cond.instanceMethod YX12_holder.1 ∈ lw_all := lw_in5 (k := 146) rfl rfl
theorem eX12_holder : Cond.selects YX12_holder.1.cls YX12_holder.1 YX12_holder.1 ∈ lw_all := lw_in5 (k := 147) rfl rfl
abbrev YX12_worthTo : ab_Y := (yX12_worthTo, cX12_worthTo, 3, (some .int))
theorem kX12_worthTo : ab_YK YX12_worthTo 2 := ⟨lw_in5 (k := 160) rfl rfl, lw_in1 (k := 14) rfl rfl, ⟨by decide, by decide⟩, by decide +kernel, by decide⟩
theorem iX12_worthTo : Cond.instanceMethod YX12_worthTo.1 ∈ lw_all := lw_in5 (k := 159) rfl rfl
theorem eX12_worthTo : Cond.selects YX12_worthTo.1.cls YX12_worthTo.1 YX12_worthTo.1 ∈ lw_all := lw_in0 (k := 47) (q := (yX12_worthTo, _)) rfl
abbrev YX12_swapAll : ab_Y := (yX12_swapAll, cX12_swapAll, 7, none)
theorem kX12_swapAll : ab_YK YX12_swapAll 0 := ⟨lw_in5 (k := 156) rfl rfl, lw_in1 (k := 14) rfl rfl, ⟨by decide, by decide⟩, by decide +kernel, by decide⟩
theorem iX12_swapAll : Cond.instanceMethod YX12_swapAll.1 ∈ lw_all := lw_in5 (k := 155) rfl rfl
theorem eX12_swapAll : Cond.selects YX12_swapAll.1.cls YX12_swapAll.1 YX12_swapAll.1 ∈ lw_all := lw_in0 (k := 46) (q := (yX12_swapAll, _)) rfl
abbrev YX12_swaps : ab_Y := (yX12_swaps, cX12_swaps, 2, (some .int))
theorem kX12_swaps : ab_YK YX12_swaps 1 := ⟨lw_in5 (k := 152) rfl rfl, lw_in1 (k := 14) rfl rfl, ⟨by decide, by decide⟩, by decide +kernel, by decide⟩
theorem iX12_swaps : Cond.instanceMethod YX12_swaps.1 ∈ lw_all := lw_in5 (k := 150) rfl rfl
theorem eX12_swaps : Cond.selects YX12_swaps.1.cls YX12_swaps.1 YX12_swaps.1 ∈ lw_all := lw_in5 (k := 151) rfl rfl
abbrev YX12_rings : ab_Y := (yX12_rings, cX12_rings, 1, (some .int))
theorem kX12_rings : ab_YK YX12_rings 0 := ⟨lw_in5 (k := 164) rfl rfl, lw_in1 (k := 14) rfl rfl, ⟨by decide, by decide⟩, by decide +kernel, by decide⟩
theorem iX12_rings : Cond.instanceMethod YX12_rings.1 ∈ lw_all := lw_in5 (k := 162) rfl rfl
theorem eX12_rings : Cond.selects YX12_rings.1.cls YX12_rings.1 YX12_rings.1 ∈ lw_all := lw_in5 (k := 163) rfl rfl
abbrev YX12_wouldGo : ab_Y := (yX12_wouldGo, cX12_wouldGo, 3, (some .boolean))
theorem kX12_wouldGo : ab_YK YX12_wouldGo 2 := ⟨lw_in5 (k := 172) rfl rfl, lw_in1 (k := 14) rfl rfl, ⟨by decide, by decide⟩, by decide +kernel, by decide⟩
theorem iX12_wouldGo : Cond.instanceMethod YX12_wouldGo.1 ∈ lw_all := lw_in5 (k := 171) rfl rfl
theorem eX12_wouldGo : Cond.selects YX12_wouldGo.1.cls YX12_wouldGo.1 YX12_wouldGo.1 ∈ lw_all := lw_in0 (k := 48) (q := (yX12_wouldGo, _)) rfl
abbrev YX12_chain : ab_Y := (yX12_chain, cX12_chain, 13, (some .int))
theorem kX12_chain : ab_YK YX12_chain 2 := ⟨lw_in5 (k := 168) rfl rfl, lw_in1 (k := 14) rfl rfl, ⟨by decide, by decide⟩, by decide +kernel, by decide⟩
theorem iX12_chain : Cond.instanceMethod YX12_chain.1 ∈ lw_all := lw_in5 (k := 166) rfl rfl
theorem eX12_chain : Cond.selects YX12_chain.1.cls YX12_chain.1 YX12_chain.1 ∈ lw_all := lw_in5 (k := 167) rfl rfl
abbrev YX12_mean : ab_Y := (yX12_mean, cX12_mean, 13, (some .long))
theorem kX12_mean : ab_YK YX12_mean 4 := ⟨lw_in5 (k := 176) rfl rfl, lw_in1 (k := 14) rfl rfl, ⟨by decide, by decide⟩, by decide +kernel, by decide⟩
theorem iX12_mean : Cond.instanceMethod YX12_mean.1 ∈ lw_all := lw_in5 (k := 174) rfl rfl
theorem eX12_mean : Cond.selects YX12_mean.1.cls YX12_mean.1 YX12_mean.1 ∈ lw_all := lw_in5 (k := 175) rfl rfl
abbrev YX12_count : ab_Y := (yX12_count, cX12_count, 2, (some .int))
theorem kX12_count : ab_YK YX12_count 1 := ⟨lw_in5 (k := 180) rfl rfl, lw_in1 (k := 14) rfl rfl, ⟨by decide, by decide⟩, by decide +kernel, by decide⟩
theorem iX12_count : Cond.instanceMethod YX12_count.1 ∈ lw_all := lw_in5 (k := 178) rfl rfl
theorem eX12_count : Cond.selects YX12_count.1.cls YX12_count.1 YX12_count.1 ∈ lw_all := lw_in5 (k := 179) rfl rfl
abbrev YJ6_numberOfTrailingZeros_0f7a4 : ab_Y := (yJ6_numberOfTrailingZeros_0f7a4, cJ6_numberOfTrailingZeros_0f7a4, 2, (some .int))
theorem kJ6_numberOfTrailingZeros_0f7a4 : ab_YK YJ6_numberOfTrailingZeros_0f7a4 1 := ⟨lw_in4 (k := 33) rfl rfl, lw_in1 (k := 20) rfl rfl, ⟨by decide, by decide⟩, by decide +kernel, by decide⟩
theorem sJ6_numberOfTrailingZeros_0f7a4 : Cond.static YJ6_numberOfTrailingZeros_0f7a4.1 ∈ lw_all := lw_in4 (k := 32) rfl rfl
abbrev YJ9_min_7cf53 : ab_Y := (yJ9_min_7cf53, cJ9_min_7cf53, 2, (some .int))
theorem cJmin : Cond.code Lib.Math.min.name Lib.Math.min.code 2 (some .int) ∈ lw_all := lw_in2 (k := 236) rfl rfl
theorem nJmin : Cond.initialized "java/lang/Math" ∈ lw_all := lw_in1 (k := 15) rfl rfl
theorem sJmin : Cond.static Lib.Math.min.name ∈ lw_all := lw_in2 (k := 235) rfl rfl
abbrev YJ0_length_8abf5 : ab_Y := (yJ0_length_8abf5, cJ0_length_8abf5, 1, (some .int))
theorem kJ0_length_8abf5 : ab_YK YJ0_length_8abf5 0 := ⟨lw_in3 (k := 51) rfl rfl, lw_in1 (k := 16) rfl rfl, ⟨by decide, by decide⟩, by decide +kernel, by decide⟩
theorem iJ0_length_8abf5 : Cond.instanceMethod YJ0_length_8abf5.1 ∈ lw_all := lw_in3 (k := 49) rfl rfl
theorem eJ0_length_8abf5 : Cond.selects YJ0_length_8abf5.1.cls YJ0_length_8abf5.1 YJ0_length_8abf5.1 ∈ lw_all := lw_in3 (k := 50) rfl rfl
abbrev YJ0_charAt_5068e : ab_Y := (yJ0_charAt_5068e, cJ0_charAt_5068e, 2, (some .char))
theorem kJ0_charAt_5068e : ab_YK YJ0_charAt_5068e 1 := ⟨lw_in3 (k := 61) rfl rfl, lw_in1 (k := 16) rfl rfl, ⟨by decide, by decide⟩, by decide +kernel, by decide⟩
theorem iJ0_charAt_5068e : Cond.instanceMethod YJ0_charAt_5068e.1 ∈ lw_all := lw_in3 (k := 59) rfl rfl
theorem eJ0_charAt_5068e : Cond.selects YJ0_charAt_5068e.1.cls YJ0_charAt_5068e.1 YJ0_charAt_5068e.1 ∈ lw_all := lw_in3 (k := 60) rfl rfl
abbrev YJ0_coder_7d493 : ab_Y := (yJ0_coder_7d493, cJ0_coder_7d493, 1, (some .byte))
theorem kJ0_coder_7d493 : ab_YK YJ0_coder_7d493 0 := ⟨lw_in3 (k := 55) rfl rfl, lw_in1 (k := 16) rfl rfl, ⟨by decide, by decide⟩, by decide +kernel, by decide⟩
theorem iJ0_coder_7d493 : Cond.instanceMethod YJ0_coder_7d493.1 ∈ lw_all := lw_in3 (k := 53) rfl rfl
theorem eJ0_coder_7d493 : Cond.selects YJ0_coder_7d493.1.cls YJ0_coder_7d493.1 YJ0_coder_7d493.1 ∈ lw_all := lw_in3 (k := 54) rfl rfl
abbrev YJ0_isLatin1_aae02 : ab_Y := (yJ0_isLatin1_aae02, cJ0_isLatin1_aae02, 1, (some .boolean))
theorem kJ0_isLatin1_aae02 : ab_YK YJ0_isLatin1_aae02 0 := ⟨lw_in3 (k := 65) rfl rfl, lw_in1 (k := 16) rfl rfl, ⟨by decide, by decide⟩, by decide +kernel, by decide⟩
theorem iJ0_isLatin1_aae02 : Cond.instanceMethod YJ0_isLatin1_aae02.1 ∈ lw_all := lw_in3 (k := 63) rfl rfl
theorem eJ0_isLatin1_aae02 : Cond.selects YJ0_isLatin1_aae02.1.cls YJ0_isLatin1_aae02.1 YJ0_isLatin1_aae02.1 ∈ lw_all := lw_in3 (k := 64) rfl rfl
abbrev YJ0_checkIndex_df160 : ab_Y := (yJ0_checkIndex_df160, cJ0_checkIndex_df160, 2, none)
theorem kJ0_checkIndex_df160 : ab_YK YJ0_checkIndex_df160 2 := ⟨lw_in3 (k := 71) rfl rfl, lw_in1 (k := 16) rfl rfl, ⟨by decide, by decide⟩, by decide +kernel, by decide⟩
theorem sJ0_checkIndex_df160 : Cond.static YJ0_checkIndex_df160.1 ∈ lw_all := lw_in3 (k := 70) rfl rfl
abbrev YJ1_charAt_3b067 : ab_Y := (yJ1_charAt_3b067, cJ1_charAt_3b067, 2, (some .char))
theorem kJ1_charAt_3b067 : ab_YK YJ1_charAt_3b067 2 := ⟨lw_in3 (k := 68) rfl rfl, lw_in1 (k := 17) rfl rfl, ⟨by decide, by decide⟩, by decide +kernel, by decide⟩
theorem sJ1_charAt_3b067 : Cond.static YJ1_charAt_3b067.1 ∈ lw_all := lw_in3 (k := 67) rfl rfl
abbrev YJ2_getChar_3b067 : ab_Y := (yJ2_getChar_3b067, cJ2_getChar_3b067, 2, (some .char))
theorem kJ2_getChar_3b067 : ab_YK YJ2_getChar_3b067 2 := ⟨lw_in3 (k := 89) rfl rfl, lw_in1 (k := 19) rfl rfl, ⟨by decide, by decide⟩, by decide +kernel, by decide⟩
theorem sJ2_getChar_3b067 : Cond.static YJ2_getChar_3b067.1 ∈ lw_all := lw_in3 (k := 88) rfl rfl
abbrev YJ2_length_9d52b : ab_Y := (yJ2_length_9d52b, cJ2_length_9d52b, 1, (some .int))
theorem kJ2_length_9d52b : ab_YK YJ2_length_9d52b 1 := ⟨lw_in3 (k := 85) rfl rfl, lw_in1 (k := 19) rfl rfl, ⟨by decide, by decide⟩, by decide +kernel, by decide⟩
theorem sJ2_length_9d52b : Cond.static YJ2_length_9d52b.1 ∈ lw_all := lw_in3 (k := 84) rfl rfl
abbrev YJ2_charAt_3b067 : ab_Y := (yJ2_charAt_3b067, cJ2_charAt_3b067, 2, (some .char))
theorem kJ2_charAt_3b067 : ab_YK YJ2_charAt_3b067 2 := ⟨lw_in3 (k := 79) rfl rfl, lw_in1 (k := 19) rfl rfl, ⟨by decide, by decide⟩, by decide +kernel, by decide⟩
theorem sJ2_charAt_3b067 : Cond.static YJ2_charAt_3b067.1 ∈ lw_all := lw_in3 (k := 78) rfl rfl
abbrev YJ2_checkIndex_2214a : ab_Y := (yJ2_checkIndex_2214a, cJ2_checkIndex_2214a, 2, none)
theorem kJ2_checkIndex_2214a : ab_YK YJ2_checkIndex_2214a 2 := ⟨lw_in3 (k := 82) rfl rfl, lw_in1 (k := 19) rfl rfl, ⟨by decide, by decide⟩, by decide +kernel, by decide⟩
theorem sJ2_checkIndex_2214a : Cond.static YJ2_checkIndex_2214a.1 ∈ lw_all := lw_in3 (k := 81) rfl rfl
abbrev YJ7_fill_53178 : ab_Y := (yJ7_fill_53178, cJ7_fill_53178, 4, none)
theorem kJ7_fill_53178 : ab_YK YJ7_fill_53178 2 := ⟨lw_in1 (k := 55) rfl rfl, lw_in1 (k := 4) rfl rfl, ⟨by decide, by decide⟩, by decide +kernel, by decide⟩
theorem sJ7_fill_53178 : Cond.static YJ7_fill_53178.1 ∈ lw_all := lw_in1 (k := 54) rfl rfl
abbrev YJ3_checkIndex_8e157 : ab_Y := (yJ3_checkIndex_8e157, cJ3_checkIndex_8e157, 3, (some .int))
theorem kJ3_checkIndex_8e157 : ab_YK YJ3_checkIndex_8e157 3 := ⟨lw_in3 (k := 76) rfl rfl, lw_in1 (k := 18) rfl rfl, ⟨by decide, by decide⟩, by decide +kernel, by decide⟩
theorem sJ3_checkIndex_8e157 : Cond.static YJ3_checkIndex_8e157.1 ∈ lw_all := lw_in3 (k := 75) rfl rfl
abbrev YL_law : ab_Y := (x, code, maxLocals, ret)
theorem kc0 : ab_KC 0 RX0 TX0 4 := ⟨by decide, rfl, tyX0_ok, nmX0, by decide +kernel, fun w hw => List.mem_filter.mpr ⟨(by decide +kernel : ∀ w ∈ u_ws RX0 TX0 4, w ∈ lw_tbl) w hw, (by decide +kernel : ∀ w ∈ u_ws RX0 TX0 4, goodWord w = true) w hw⟩⟩
theorem kc1 : ab_KC 1 RX1 TX1 7 := ⟨by decide, rfl, tyX1_ok, nmX1, by decide +kernel, fun w hw => List.mem_filter.mpr ⟨(by decide +kernel : ∀ w ∈ u_ws RX1 TX1 7, w ∈ lw_tbl) w hw, (by decide +kernel : ∀ w ∈ u_ws RX1 TX1 7, goodWord w = true) w hw⟩⟩
theorem kc2 : ab_KC 2 RX2 TX2 4 := ⟨by decide, rfl, tyX2_ok, nmX2, by decide +kernel, fun w hw => List.mem_filter.mpr ⟨(by decide +kernel : ∀ w ∈ u_ws RX2 TX2 4, w ∈ lw_tbl) w hw, (by decide +kernel : ∀ w ∈ u_ws RX2 TX2 4, goodWord w = true) w hw⟩⟩
theorem kc3 : ab_KC 3 RX3 TX3 4 := ⟨by decide, rfl, tyX3_ok, nmX3, by decide +kernel, fun w hw => List.mem_filter.mpr ⟨(by decide +kernel : ∀ w ∈ u_ws RX3 TX3 4, w ∈ lw_tbl) w hw, (by decide +kernel : ∀ w ∈ u_ws RX3 TX3 4, goodWord w = true) w hw⟩⟩
theorem kc4 : ab_KC 4 RX4 TX4 5 := ⟨by decide, rfl, tyX4_ok, nmX4, by decide +kernel, fun w hw => List.mem_filter.mpr ⟨(by decide +kernel : ∀ w ∈ u_ws RX4 TX4 5, w ∈ lw_tbl) w hw, (by decide +kernel : ∀ w ∈ u_ws RX4 TX4 5, goodWord w = true) w hw⟩⟩
theorem kc5 : ab_KC 5 RX5 TX5 6 := ⟨by decide, rfl, tyX5_ok, nmX5, by decide +kernel, fun w hw => List.mem_filter.mpr ⟨(by decide +kernel : ∀ w ∈ u_ws RX5 TX5 6, w ∈ lw_tbl) w hw, (by decide +kernel : ∀ w ∈ u_ws RX5 TX5 6, goodWord w = true) w hw⟩⟩
theorem kc6 : ab_KC 6 RX6 TX6 2 := ⟨by decide, rfl, tyX6_ok, nmX6, by decide +kernel, fun w hw => List.mem_filter.mpr ⟨(by decide +kernel : ∀ w ∈ u_ws RX6 TX6 2, w ∈ lw_tbl) w hw, (by decide +kernel : ∀ w ∈ u_ws RX6 TX6 2, goodWord w = true) w hw⟩⟩
theorem kc7 : ab_KC 7 RX7 TX7 7 := ⟨by decide, rfl, tyX7_ok, nmX7, by decide +kernel, fun w hw => List.mem_filter.mpr ⟨(by decide +kernel : ∀ w ∈ u_ws RX7 TX7 7, w ∈ lw_tbl) w hw, (by decide +kernel : ∀ w ∈ u_ws RX7 TX7 7, goodWord w = true) w hw⟩⟩
theorem kc8 : ab_KC 8 RX8 TX8 3 := ⟨by decide, rfl, tyX8_ok, nmX8, by decide +kernel, fun w hw => List.mem_filter.mpr ⟨(by decide +kernel : ∀ w ∈ u_ws RX8 TX8 3, w ∈ lw_tbl) w hw, (by decide +kernel : ∀ w ∈ u_ws RX8 TX8 3, goodWord w = true) w hw⟩⟩
theorem kc9 : ab_KC 9 RX9 TX9 6 := ⟨by decide, rfl, tyX9_ok, nmX9, by decide +kernel, fun w hw => List.mem_filter.mpr ⟨(by decide +kernel : ∀ w ∈ u_ws RX9 TX9 6, w ∈ lw_tbl) w hw, (by decide +kernel : ∀ w ∈ u_ws RX9 TX9 6, goodWord w = true) w hw⟩⟩
theorem kc10 : ab_KC 10 RX10 TX10 4 := ⟨by decide, rfl, tyX10_ok, nmX10, by decide +kernel, fun w hw => List.mem_filter.mpr ⟨(by decide +kernel : ∀ w ∈ u_ws RX10 TX10 4, w ∈ lw_tbl) w hw, (by decide +kernel : ∀ w ∈ u_ws RX10 TX10 4, goodWord w = true) w hw⟩⟩
theorem kc11 : ab_KC 11 RX11 TX11 11 := ⟨by decide, rfl, tyX11_ok, nmX11, by decide +kernel, fun w hw => List.mem_filter.mpr ⟨(by decide +kernel : ∀ w ∈ u_ws RX11 TX11 11, w ∈ lw_tbl) w hw, (by decide +kernel : ∀ w ∈ u_ws RX11 TX11 11, goodWord w = true) w hw⟩⟩
theorem kc12 : ab_KC 12 RX12 TX12 32 := ⟨by decide, rfl, tyX12_ok, nmX12, by decide +kernel, fun w hw => List.mem_filter.mpr ⟨(by decide +kernel : ∀ w ∈ u_ws RX12 TX12 32, w ∈ lw_tbl) w hw, (by decide +kernel : ∀ w ∈ u_ws RX12 TX12 32, goodWord w = true) w hw⟩⟩
theorem lL_9 : Cond.methodLink RL 9 YX11_init.1 ∈ lw_all := lw_in1 (k := 24) rfl rfl
theorem lX11_1 : Cond.methodLink RX11 1 objectInit ∈ lw_all := lw_in1 (k := 27) rfl rfl
theorem lX11_9 : Cond.methodLink RX11 9 YX10_init.1 ∈ lw_all := lw_in1 (k := 32) rfl rfl
theorem lX10_3 : Cond.methodLink RX10 3 objectInit ∈ lw_all := lw_in1 (k := 35) rfl rfl
theorem lX6_3 : Cond.methodLink RX6 3 objectInit ∈ lw_all := lw_in1 (k := 43) rfl rfl
theorem fX6_9 : ab_FL RX6 9 6 0 true := ⟨_, _, _, kc6, by decide, rfl, lw_in1 (k := 44) rfl rfl⟩
theorem fX6_15 : ab_FL RX6 15 6 1 false := ⟨_, _, _, kc6, by decide, rfl, lw_in1 (k := 45) rfl rfl⟩
theorem fX11_275 : ab_FL RX11 275 6 1 false := ⟨_, _, _, kc6, by decide, rfl, lw_in1 (k := 46) rfl rfl⟩
theorem lX10_30 : Cond.methodLink RX10 30 YJ7_fill_53178.1 ∈ lw_all := lw_in1 (k := 53) rfl rfl
theorem fX10_11 : ab_FL RX10 11 10 0 true := ⟨_, _, _, kc10, by decide, rfl, lw_in1 (k := 56) rfl rfl⟩
theorem fX11_93 : ab_FL RX11 93 10 0 true := ⟨_, _, _, kc10, by decide, rfl, lw_in1 (k := 57) rfl rfl⟩
theorem fX2_26 : ab_FL RX2 26 10 0 true := ⟨_, _, _, kc10, by decide, rfl, lw_in1 (k := 58) rfl rfl⟩
theorem fX5_66 : ab_FL RX5 66 10 0 true := ⟨_, _, _, kc10, by decide, rfl, lw_in1 (k := 59) rfl rfl⟩
theorem fX3_63 : ab_FL RX3 63 10 0 true := ⟨_, _, _, kc10, by decide, rfl, lw_in1 (k := 60) rfl rfl⟩
theorem fX1_112 : ab_FL RX1 112 10 0 true := ⟨_, _, _, kc10, by decide, rfl, lw_in1 (k := 61) rfl rfl⟩
theorem fX10_16 : ab_FL RX10 16 10 1 true := ⟨_, _, _, kc10, by decide, rfl, lw_in1 (k := 62) rfl rfl⟩
theorem fX11_100 : ab_FL RX11 100 10 1 true := ⟨_, _, _, kc10, by decide, rfl, lw_in1 (k := 63) rfl rfl⟩
theorem fX1_93 : ab_FL RX1 93 10 1 true := ⟨_, _, _, kc10, by decide, rfl, lw_in1 (k := 64) rfl rfl⟩
theorem fX10_23 : ab_FL RX10 23 10 2 true := ⟨_, _, _, kc10, by decide, rfl, lw_in1 (k := 65) rfl rfl⟩
theorem fX11_104 : ab_FL RX11 104 10 2 true := ⟨_, _, _, kc10, by decide, rfl, lw_in1 (k := 66) rfl rfl⟩
theorem fX1_58 : ab_FL RX1 58 10 2 true := ⟨_, _, _, kc10, by decide, rfl, lw_in1 (k := 67) rfl rfl⟩
theorem fX10_27 : ab_FL RX10 27 10 3 true := ⟨_, _, _, kc10, by decide, rfl, lw_in1 (k := 68) rfl rfl⟩
theorem fX11_118 : ab_FL RX11 118 10 3 true := ⟨_, _, _, kc10, by decide, rfl, lw_in1 (k := 69) rfl rfl⟩
theorem fX1_74 : ab_FL RX1 74 10 3 true := ⟨_, _, _, kc10, by decide, rfl, lw_in1 (k := 70) rfl rfl⟩
theorem lX11_18 : Cond.methodLink RX11 18 YX7_init.1 ∈ lw_all := lw_in1 (k := 82) rfl rfl
theorem lX7_3 : Cond.methodLink RX7 3 objectInit ∈ lw_all := lw_in1 (k := 85) rfl rfl
theorem lX7_21 : Cond.methodLink RX7 21 YX7_setAsAtFirst.1 ∈ lw_all := lw_in1 (k := 86) rfl rfl
theorem lX7_37 : Cond.methodLink RX7 37 YX7_setWay.1 ∈ lw_all := lw_in1 (k := 90) rfl rfl
theorem fX7_24 : ab_FL RX7 24 7 0 false := ⟨_, _, _, kc7, by decide, rfl, lw_in1 (k := 94) rfl rfl⟩
theorem fX9_58 : ab_FL RX9 58 7 0 false := ⟨_, _, _, kc7, by decide, rfl, lw_in1 (k := 95) rfl rfl⟩
theorem fX11_136 : ab_FL RX11 136 7 0 false := ⟨_, _, _, kc7, by decide, rfl, lw_in1 (k := 96) rfl rfl⟩
theorem fX1_106 : ab_FL RX1 106 7 0 false := ⟨_, _, _, kc7, by decide, rfl, lw_in1 (k := 97) rfl rfl⟩
theorem fX7_28 : ab_FL RX7 28 7 1 false := ⟨_, _, _, kc7, by decide, rfl, lw_in1 (k := 98) rfl rfl⟩
theorem fX9_66 : ab_FL RX9 66 7 1 false := ⟨_, _, _, kc7, by decide, rfl, lw_in1 (k := 99) rfl rfl⟩
theorem fX1_133 : ab_FL RX1 133 7 1 false := ⟨_, _, _, kc7, by decide, rfl, lw_in1 (k := 100) rfl rfl⟩
theorem fX11_188 : ab_FL RX11 188 7 1 false := ⟨_, _, _, kc7, by decide, rfl, lw_in1 (k := 101) rfl rfl⟩
theorem fX7_31 : ab_FL RX7 31 7 2 false := ⟨_, _, _, kc7, by decide, rfl, lw_in1 (k := 102) rfl rfl⟩
theorem fX9_75 : ab_FL RX9 75 7 2 false := ⟨_, _, _, kc7, by decide, rfl, lw_in1 (k := 103) rfl rfl⟩
theorem fX1_134 : ab_FL RX1 134 7 2 false := ⟨_, _, _, kc7, by decide, rfl, lw_in1 (k := 104) rfl rfl⟩
theorem fX11_189 : ab_FL RX11 189 7 2 false := ⟨_, _, _, kc7, by decide, rfl, lw_in1 (k := 105) rfl rfl⟩
theorem fX7_34 : ab_FL RX7 34 7 3 false := ⟨_, _, _, kc7, by decide, rfl, lw_in1 (k := 106) rfl rfl⟩
theorem fX9_79 : ab_FL RX9 79 7 3 false := ⟨_, _, _, kc7, by decide, rfl, lw_in1 (k := 107) rfl rfl⟩
theorem fX1_81 : ab_FL RX1 81 7 3 false := ⟨_, _, _, kc7, by decide, rfl, lw_in1 (k := 108) rfl rfl⟩
theorem fX11_192 : ab_FL RX11 192 7 3 false := ⟨_, _, _, kc7, by decide, rfl, lw_in1 (k := 109) rfl rfl⟩
theorem fX7_9 : ab_FL RX7 9 7 4 true := ⟨_, _, _, kc7, by decide, rfl, lw_in1 (k := 110) rfl rfl⟩
theorem fX11_195 : ab_FL RX11 195 7 4 true := ⟨_, _, _, kc7, by decide, rfl, lw_in1 (k := 111) rfl rfl⟩
theorem fX7_15 : ab_FL RX7 15 7 5 true := ⟨_, _, _, kc7, by decide, rfl, lw_in1 (k := 112) rfl rfl⟩
theorem fX11_198 : ab_FL RX11 198 7 5 true := ⟨_, _, _, kc7, by decide, rfl, lw_in1 (k := 113) rfl rfl⟩
theorem fX7_18 : ab_FL RX7 18 7 6 true := ⟨_, _, _, kc7, by decide, rfl, lw_in1 (k := 114) rfl rfl⟩
theorem fX11_201 : ab_FL RX11 201 7 6 true := ⟨_, _, _, kc7, by decide, rfl, lw_in1 (k := 115) rfl rfl⟩
theorem lX9_3 : Cond.methodLink RX9 3 objectInit ∈ lw_all := lw_in1 (k := 136) rfl rfl
theorem fX9_9 : ab_FL RX9 9 9 0 true := ⟨_, _, _, kc9, by decide, rfl, lw_in1 (k := 137) rfl rfl⟩
theorem fX9_15 : ab_FL RX9 15 9 1 false := ⟨_, _, _, kc9, by decide, rfl, lw_in1 (k := 138) rfl rfl⟩
theorem fX11_169 : ab_FL RX11 169 9 1 false := ⟨_, _, _, kc9, by decide, rfl, lw_in1 (k := 139) rfl rfl⟩
theorem fX9_19 : ab_FL RX9 19 9 2 false := ⟨_, _, _, kc9, by decide, rfl, lw_in1 (k := 140) rfl rfl⟩
theorem fX11_185 : ab_FL RX11 185 9 2 false := ⟨_, _, _, kc9, by decide, rfl, lw_in1 (k := 141) rfl rfl⟩
theorem fX9_37 : ab_FL RX9 37 9 3 false := ⟨_, _, _, kc9, by decide, rfl, lw_in1 (k := 142) rfl rfl⟩
theorem fX9_27 : ab_FL RX9 27 9 4 false := ⟨_, _, _, kc9, by decide, rfl, lw_in1 (k := 143) rfl rfl⟩
theorem fX9_96 : ab_FL RX9 96 9 5 false := ⟨_, _, _, kc9, by decide, rfl, lw_in1 (k := 144) rfl rfl⟩
theorem lX11_35 : Cond.methodLink RX11 35 YX1_init.1 ∈ lw_all := lw_in1 (k := 161) rfl rfl
theorem lX1_3 : Cond.methodLink RX1 3 objectInit ∈ lw_all := lw_in1 (k := 164) rfl rfl
theorem lX4_1 : Cond.methodLink RX4 1 objectInit ∈ lw_all := lw_in1 (k := 172) rfl rfl
theorem fX4_7 : ab_FL RX4 7 4 0 false := ⟨_, _, _, kc4, by decide, rfl, lw_in1 (k := 173) rfl rfl⟩
theorem fX3_41 : ab_FL RX3 41 4 0 false := ⟨_, _, _, kc4, by decide, rfl, lw_in1 (k := 174) rfl rfl⟩
theorem fX11_146 : ab_FL RX11 146 4 0 false := ⟨_, _, _, kc4, by decide, rfl, lw_in1 (k := 175) rfl rfl⟩
theorem fX1_97 : ab_FL RX1 97 4 0 false := ⟨_, _, _, kc4, by decide, rfl, lw_in1 (k := 176) rfl rfl⟩
theorem fX4_13 : ab_FL RX4 13 4 1 false := ⟨_, _, _, kc4, by decide, rfl, lw_in1 (k := 177) rfl rfl⟩
theorem fX11_151 : ab_FL RX11 151 4 1 false := ⟨_, _, _, kc4, by decide, rfl, lw_in1 (k := 178) rfl rfl⟩
theorem fX1_103 : ab_FL RX1 103 4 1 false := ⟨_, _, _, kc4, by decide, rfl, lw_in1 (k := 179) rfl rfl⟩
theorem fX4_16 : ab_FL RX4 16 4 2 false := ⟨_, _, _, kc4, by decide, rfl, lw_in1 (k := 180) rfl rfl⟩
theorem fX11_154 : ab_FL RX11 154 4 2 false := ⟨_, _, _, kc4, by decide, rfl, lw_in1 (k := 181) rfl rfl⟩
theorem fX1_100 : ab_FL RX1 100 4 2 false := ⟨_, _, _, kc4, by decide, rfl, lw_in1 (k := 182) rfl rfl⟩
theorem fX4_19 : ab_FL RX4 19 4 3 false := ⟨_, _, _, kc4, by decide, rfl, lw_in1 (k := 183) rfl rfl⟩
theorem fX11_157 : ab_FL RX11 157 4 3 false := ⟨_, _, _, kc4, by decide, rfl, lw_in1 (k := 184) rfl rfl⟩
theorem fX1_130 : ab_FL RX1 130 4 3 false := ⟨_, _, _, kc4, by decide, rfl, lw_in1 (k := 185) rfl rfl⟩
theorem fX4_22 : ab_FL RX4 22 4 4 false := ⟨_, _, _, kc4, by decide, rfl, lw_in1 (k := 186) rfl rfl⟩
theorem fX11_160 : ab_FL RX11 160 4 4 false := ⟨_, _, _, kc4, by decide, rfl, lw_in1 (k := 187) rfl rfl⟩
theorem fX1_115 : ab_FL RX1 115 4 4 false := ⟨_, _, _, kc4, by decide, rfl, lw_in1 (k := 188) rfl rfl⟩
theorem fX1_35 : ab_FL RX1 35 1 0 true := ⟨_, _, _, kc1, by decide, rfl, lw_in1 (k := 200) rfl rfl⟩
theorem fX1_11 : ab_FL RX1 11 1 1 true := ⟨_, _, _, kc1, by decide, rfl, lw_in1 (k := 201) rfl rfl⟩
theorem fX3_37 : ab_FL RX3 37 1 1 true := ⟨_, _, _, kc1, by decide, rfl, lw_in1 (k := 202) rfl rfl⟩
theorem fX11_142 : ab_FL RX11 142 1 1 true := ⟨_, _, _, kc1, by decide, rfl, lw_in1 (k := 203) rfl rfl⟩
theorem fX1_17 : ab_FL RX1 17 1 2 false := ⟨_, _, _, kc1, by decide, rfl, lw_in1 (k := 204) rfl rfl⟩
theorem fX3_26 : ab_FL RX3 26 1 2 false := ⟨_, _, _, kc1, by decide, rfl, lw_in1 (k := 205) rfl rfl⟩
theorem fX11_125 : ab_FL RX11 125 1 2 false := ⟨_, _, _, kc1, by decide, rfl, lw_in1 (k := 206) rfl rfl⟩
theorem fX1_21 : ab_FL RX1 21 1 3 false := ⟨_, _, _, kc1, by decide, rfl, lw_in1 (k := 207) rfl rfl⟩
theorem fX11_129 : ab_FL RX11 129 1 3 false := ⟨_, _, _, kc1, by decide, rfl, lw_in1 (k := 208) rfl rfl⟩
theorem fX1_24 : ab_FL RX1 24 1 4 false := ⟨_, _, _, kc1, by decide, rfl, lw_in1 (k := 209) rfl rfl⟩
theorem fX11_276 : ab_FL RX11 276 1 4 false := ⟨_, _, _, kc1, by decide, rfl, lw_in1 (k := 210) rfl rfl⟩
theorem fX1_27 : ab_FL RX1 27 1 5 false := ⟨_, _, _, kc1, by decide, rfl, lw_in1 (k := 211) rfl rfl⟩
theorem fX11_166 : ab_FL RX11 166 1 5 false := ⟨_, _, _, kc1, by decide, rfl, lw_in1 (k := 212) rfl rfl⟩
theorem fX1_32 : ab_FL RX1 32 1 6 true := ⟨_, _, _, kc1, by decide, rfl, lw_in1 (k := 213) rfl rfl⟩
theorem fX11_163 : ab_FL RX11 163 1 6 true := ⟨_, _, _, kc1, by decide, rfl, lw_in1 (k := 214) rfl rfl⟩
theorem lX11_47 : Cond.methodLink RX11 47 YX5_init.1 ∈ lw_all := lw_in1 (k := 232) rfl rfl
theorem lX5_3 : Cond.methodLink RX5 3 objectInit ∈ lw_all := lw_in1 (k := 235) rfl rfl
theorem fX5_30 : ab_FL RX5 30 5 0 true := ⟨_, _, _, kc5, by decide, rfl, lw_in1 (k := 237) rfl rfl⟩
theorem fX5_9 : ab_FL RX5 9 5 1 true := ⟨_, _, _, kc5, by decide, rfl, lw_in1 (k := 238) rfl rfl⟩
theorem fX5_17 : ab_FL RX5 17 5 2 true := ⟨_, _, _, kc5, by decide, rfl, lw_in1 (k := 239) rfl rfl⟩
theorem fX5_20 : ab_FL RX5 20 5 3 true := ⟨_, _, _, kc5, by decide, rfl, lw_in2 (k := 0) rfl rfl⟩
theorem fX11_224 : ab_FL RX11 224 5 3 true := ⟨_, _, _, kc5, by decide, rfl, lw_in2 (k := 1) rfl rfl⟩
theorem fX5_23 : ab_FL RX5 23 5 4 false := ⟨_, _, _, kc5, by decide, rfl, lw_in2 (k := 2) rfl rfl⟩
theorem fX11_221 : ab_FL RX11 221 5 4 false := ⟨_, _, _, kc5, by decide, rfl, lw_in2 (k := 3) rfl rfl⟩
theorem fX5_27 : ab_FL RX5 27 5 5 false := ⟨_, _, _, kc5, by decide, rfl, lw_in2 (k := 4) rfl rfl⟩
theorem lX11_54 : Cond.methodLink RX11 54 YX3_init.1 ∈ lw_all := lw_in2 (k := 20) rfl rfl
theorem lX3_3 : Cond.methodLink RX3 3 objectInit ∈ lw_all := lw_in2 (k := 23) rfl rfl
theorem fX3_22 : ab_FL RX3 22 3 0 true := ⟨_, _, _, kc3, by decide, rfl, lw_in2 (k := 24) rfl rfl⟩
theorem fX3_9 : ab_FL RX3 9 3 1 true := ⟨_, _, _, kc3, by decide, rfl, lw_in2 (k := 25) rfl rfl⟩
theorem fX3_15 : ab_FL RX3 15 3 2 false := ⟨_, _, _, kc3, by decide, rfl, lw_in2 (k := 26) rfl rfl⟩
theorem fX3_19 : ab_FL RX3 19 3 3 true := ⟨_, _, _, kc3, by decide, rfl, lw_in2 (k := 27) rfl rfl⟩
theorem lX11_61 : Cond.methodLink RX11 61 YX2_init.1 ∈ lw_all := lw_in2 (k := 39) rfl rfl
theorem lX2_3 : Cond.methodLink RX2 3 objectInit ∈ lw_all := lw_in2 (k := 42) rfl rfl
theorem fX2_22 : ab_FL RX2 22 2 0 true := ⟨_, _, _, kc2, by decide, rfl, lw_in2 (k := 43) rfl rfl⟩
theorem fX2_9 : ab_FL RX2 9 2 1 true := ⟨_, _, _, kc2, by decide, rfl, lw_in2 (k := 44) rfl rfl⟩
theorem fX2_15 : ab_FL RX2 15 2 2 true := ⟨_, _, _, kc2, by decide, rfl, lw_in2 (k := 45) rfl rfl⟩
theorem fX0_41 : ab_FL RX0 41 2 2 true := ⟨_, _, _, kc2, by decide, rfl, lw_in2 (k := 46) rfl rfl⟩
theorem fX8_41 : ab_FL RX8 41 2 2 true := ⟨_, _, _, kc2, by decide, rfl, lw_in2 (k := 47) rfl rfl⟩
theorem fX2_18 : ab_FL RX2 18 2 3 false := ⟨_, _, _, kc2, by decide, rfl, lw_in2 (k := 48) rfl rfl⟩
theorem fX8_23 : ab_FL RX8 23 2 3 false := ⟨_, _, _, kc2, by decide, rfl, lw_in2 (k := 49) rfl rfl⟩
theorem fX0_36 : ab_FL RX0 36 2 3 false := ⟨_, _, _, kc2, by decide, rfl, lw_in2 (k := 50) rfl rfl⟩
theorem fX11_251 : ab_FL RX11 251 2 3 false := ⟨_, _, _, kc2, by decide, rfl, lw_in2 (k := 51) rfl rfl⟩
theorem lX11_68 : Cond.methodLink RX11 68 YX8_init.1 ∈ lw_all := lw_in2 (k := 63) rfl rfl
theorem lX8_3 : Cond.methodLink RX8 3 objectInit ∈ lw_all := lw_in2 (k := 66) rfl rfl
theorem fX8_19 : ab_FL RX8 19 8 0 true := ⟨_, _, _, kc8, by decide, rfl, lw_in2 (k := 67) rfl rfl⟩
theorem fX8_9 : ab_FL RX8 9 8 1 true := ⟨_, _, _, kc8, by decide, rfl, lw_in2 (k := 68) rfl rfl⟩
theorem fX11_257 : ab_FL RX11 257 8 1 true := ⟨_, _, _, kc8, by decide, rfl, lw_in2 (k := 69) rfl rfl⟩
theorem fX8_15 : ab_FL RX8 15 8 2 false := ⟨_, _, _, kc8, by decide, rfl, lw_in2 (k := 70) rfl rfl⟩
theorem fX11_260 : ab_FL RX11 260 8 2 false := ⟨_, _, _, kc8, by decide, rfl, lw_in2 (k := 71) rfl rfl⟩
theorem lX11_77 : Cond.methodLink RX11 77 YX0_init.1 ∈ lw_all := lw_in2 (k := 81) rfl rfl
theorem lX0_3 : Cond.methodLink RX0 3 objectInit ∈ lw_all := lw_in2 (k := 84) rfl rfl
theorem fX0_22 : ab_FL RX0 22 0 0 true := ⟨_, _, _, kc0, by decide, rfl, lw_in2 (k := 85) rfl rfl⟩
theorem fX0_9 : ab_FL RX0 9 0 1 true := ⟨_, _, _, kc0, by decide, rfl, lw_in2 (k := 86) rfl rfl⟩
theorem fX0_15 : ab_FL RX0 15 0 2 true := ⟨_, _, _, kc0, by decide, rfl, lw_in2 (k := 87) rfl rfl⟩
theorem fX11_266 : ab_FL RX11 266 0 2 true := ⟨_, _, _, kc0, by decide, rfl, lw_in2 (k := 88) rfl rfl⟩
theorem fX0_18 : ab_FL RX0 18 0 3 false := ⟨_, _, _, kc0, by decide, rfl, lw_in2 (k := 89) rfl rfl⟩
theorem fX11_265 : ab_FL RX11 265 0 3 false := ⟨_, _, _, kc0, by decide, rfl, lw_in2 (k := 90) rfl rfl⟩
theorem fX11_10 : ab_FL RX11 10 11 0 true := ⟨_, _, _, kc11, by decide, rfl, lw_in2 (k := 100) rfl rfl⟩
theorem fX11_19 : ab_FL RX11 19 11 1 true := ⟨_, _, _, kc11, by decide, rfl, lw_in2 (k := 101) rfl rfl⟩
theorem fX11_23 : ab_FL RX11 23 11 2 true := ⟨_, _, _, kc11, by decide, rfl, lw_in2 (k := 102) rfl rfl⟩
theorem fX11_29 : ab_FL RX11 29 11 3 true := ⟨_, _, _, kc11, by decide, rfl, lw_in2 (k := 103) rfl rfl⟩
theorem fX11_38 : ab_FL RX11 38 11 4 true := ⟨_, _, _, kc11, by decide, rfl, lw_in2 (k := 104) rfl rfl⟩
theorem fX11_42 : ab_FL RX11 42 11 5 true := ⟨_, _, _, kc11, by decide, rfl, lw_in2 (k := 105) rfl rfl⟩
theorem fX11_48 : ab_FL RX11 48 11 6 true := ⟨_, _, _, kc11, by decide, rfl, lw_in2 (k := 106) rfl rfl⟩
theorem fX11_55 : ab_FL RX11 55 11 7 true := ⟨_, _, _, kc11, by decide, rfl, lw_in2 (k := 107) rfl rfl⟩
theorem fX11_62 : ab_FL RX11 62 11 8 true := ⟨_, _, _, kc11, by decide, rfl, lw_in2 (k := 108) rfl rfl⟩
theorem fX11_71 : ab_FL RX11 71 11 9 true := ⟨_, _, _, kc11, by decide, rfl, lw_in2 (k := 109) rfl rfl⟩
theorem fX11_78 : ab_FL RX11 78 11 10 true := ⟨_, _, _, kc11, by decide, rfl, lw_in2 (k := 110) rfl rfl⟩
theorem lL_13 : Cond.methodLink RL 13 YX11_worth.1 ∈ lw_all := lw_in2 (k := 134) rfl rfl
theorem lX11_82 : Cond.methodLink RX11 82 YX11_isSort.1 ∈ lw_all := lw_in2 (k := 138) rfl rfl
theorem lX11_89 : Cond.methodLink RX11 89 YX11_within.1 ∈ lw_all := lw_in2 (k := 141) rfl rfl
theorem lX11_86 : Cond.methodLink RX11 86 YX11_isKind.1 ∈ lw_all := lw_in2 (k := 144) rfl rfl
theorem lX11_97 : Cond.methodLink RX11 97 YX5_forget.1 ∈ lw_all := lw_in2 (k := 147) rfl rfl
theorem lL_18 : Cond.methodLink RL 18 YX11_need.1 ∈ lw_all := lw_in2 (k := 151) rfl rfl
theorem lL_23 : Cond.methodLink RL 23 YX11_coming.1 ∈ lw_all := lw_in2 (k := 155) rfl rfl
theorem lX11_108 : Cond.methodLink RX11 108 YX6_isFull.1 ∈ lw_all := lw_in2 (k := 159) rfl rfl
theorem lX11_114 : Cond.methodLink RX11 114 YX6_add.1 ∈ lw_all := lw_in2 (k := 163) rfl rfl
theorem lX6_19 : Cond.methodLink RX6 19 YX6_isFull.1 ∈ lw_all := lw_in2 (k := 167) rfl rfl
theorem lL_28 : Cond.methodLink RL 28 YX11_joining.1 ∈ lw_all := lw_in2 (k := 168) rfl rfl
theorem lL_32 : Cond.methodLink RL 32 YX11_join.1 ∈ lw_all := lw_in2 (k := 172) rfl rfl
theorem lX11_121 : Cond.methodLink RX11 121 YX1_isFull.1 ∈ lw_all := lw_in2 (k := 176) rfl rfl
theorem lX11_122 : Cond.methodLink RX11 122 YX1_add.1 ∈ lw_all := lw_in2 (k := 180) rfl rfl
theorem lX1_50 : Cond.methodLink RX1 50 YX1_isFull.1 ∈ lw_all := lw_in2 (k := 184) rfl rfl
theorem lX1_54 : Cond.methodLink RX1 54 YX4_begin.1 ∈ lw_all := lw_in2 (k := 185) rfl rfl
theorem lL_36 : Cond.methodLink RL 36 YX11_run.1 ∈ lw_all := lw_in2 (k := 189) rfl rfl
theorem lX11_132 : Cond.methodLink RX11 132 YX1_pass.1 ∈ lw_all := lw_in2 (k := 193) rfl rfl
theorem lX1_64 : Cond.methodLink RX1 64 YX6_inWeek.1 ∈ lw_all := lw_in2 (k := 197) rfl rfl
theorem lX1_70 : Cond.methodLink RX1 70 YX1_offer.1 ∈ lw_all := lw_in2 (k := 201) rfl rfl
theorem lX1_109 : Cond.methodLink RX1 109 YX1_stand.1 ∈ lw_all := lw_in2 (k := 205) rfl rfl
theorem lX1_89 : Cond.methodLink RX1 89 YX1_isAhead.1 ∈ lw_all := lw_in2 (k := 209) rfl rfl
theorem lX1_118 : Cond.methodLink RX1 118 YX7_takes.1 ∈ lw_all := lw_in2 (k := 213) rfl rfl
theorem lX1_122 : Cond.methodLink RX1 122 YX1_sayNo.1 ∈ lw_all := lw_in2 (k := 217) rfl rfl
theorem lX1_126 : Cond.methodLink RX1 126 YX1_house.1 ∈ lw_all := lw_in2 (k := 221) rfl rfl
theorem lX1_77 : Cond.methodLink RX1 77 YX1_arrive.1 ∈ lw_all := lw_in2 (k := 225) rfl rfl
theorem lX1_137 : Cond.methodLink RX1 137 YX1_add.1 ∈ lw_all := lw_in2 (k := 229) rfl rfl
theorem lX1_86 : Cond.methodLink RX1 86 YX1_growOlder.1 ∈ lw_all := lw_in2 (k := 230) rfl rfl
theorem lX1_140 : Cond.methodLink RX1 140 YJ9_min_7cf53.1 ∈ lw_all := lw_in2 (k := 234) rfl rfl
theorem lL_40 : Cond.methodLink RL 40 YX11_person.1 ∈ lw_all := lw_in2 (k := 237) rfl rfl
theorem lX11_139 : Cond.methodLink RX11 139 YX1_stand.1 ∈ lw_all := lw_in3 (k := 1) rfl rfl
theorem lL_44 : Cond.methodLink RL 44 YX11_of.1 ∈ lw_all := lw_in3 (k := 2) rfl rfl
theorem lL_48 : Cond.methodLink RL 48 YX11_empty.1 ∈ lw_all := lw_in3 (k := 6) rfl rfl
theorem lL_55 : Cond.methodLink RL 55 YX11_write.1 ∈ lw_all := lw_in3 (k := 10) rfl rfl
theorem nX11_172 : Cond.constantLong RX11 172 (Int64.ofInt (255)) ∈ lw_all := lw_in3 (k := 14) rfl rfl
theorem lX11_174 : Cond.methodLink RX11 174 YX9_add.1 ∈ lw_all := lw_in3 (k := 15) rfl rfl
theorem lL_60 : Cond.methodLink RL 60 YX11_erase.1 ∈ lw_all := lw_in3 (k := 19) rfl rfl
theorem lL_64 : Cond.methodLink RL 64 YX11_fault.1 ∈ lw_all := lw_in3 (k := 23) rfl rfl
theorem lX11_177 : Cond.methodLink RX11 177 YX9_readInto.1 ∈ lw_all := lw_in3 (k := 27) rfl rfl
theorem lX9_22 : Cond.methodLink RX9 22 YX7_setAsAtFirst.1 ∈ lw_all := lw_in3 (k := 31) rfl rfl
theorem lX9_30 : Cond.methodLink RX9 30 YX9_goOn.1 ∈ lw_all := lw_in3 (k := 32) rfl rfl
theorem lX9_108 : Cond.methodLink RX9 108 YX9_lookOf.1 ∈ lw_all := lw_in3 (k := 36) rfl rfl
theorem lX9_33 : Cond.methodLink RX9 33 YX9_readLine.1 ∈ lw_all := lw_in3 (k := 39) rfl rfl
theorem lX9_42 : Cond.methodLink RX9 42 YX9_pass.1 ∈ lw_all := lw_in3 (k := 44) rfl rfl
theorem lX9_99 : Cond.methodLink RX9 99 YJ0_length_8abf5.1 ∈ lw_all := lw_in3 (k := 48) rfl rfl
theorem lJ0_335 : Cond.methodLink RJ0 335 YJ0_coder_7d493.1 ∈ lw_all := lw_in3 (k := 52) rfl rfl
theorem gJ0_38 : Cond.fieldLink RJ0 38 "java/lang/String" "COMPACT_STRINGS" "Z" ∈ lw_all := lw_in3 (k := 56) rfl rfl
theorem lX9_104 : Cond.methodLink RX9 104 YJ0_charAt_5068e.1 ∈ lw_all := lw_in3 (k := 58) rfl rfl
theorem lJ0_492 : Cond.methodLink RJ0 492 YJ0_isLatin1_aae02.1 ∈ lw_all := lw_in3 (k := 62) rfl rfl
theorem lJ0_495 : Cond.methodLink RJ0 495 YJ1_charAt_3b067.1 ∈ lw_all := lw_in3 (k := 66) rfl rfl
theorem lJ1_9 : Cond.methodLink RJ1 9 YJ0_checkIndex_df160.1 ∈ lw_all := lw_in3 (k := 69) rfl rfl
theorem gJ0_1053 : Cond.fieldLink RJ0 1053 "jdk/internal/util/Preconditions" "SIOOBE_FORMATTER" "Ljava/util/function/BiFunction;" ∈ lw_all := lw_in3 (k := 72) rfl rfl
theorem lJ0_1059 : Cond.methodLink RJ0 1059 YJ3_checkIndex_8e157.1 ∈ lw_all := lw_in3 (k := 74) rfl rfl
theorem lJ0_498 : Cond.methodLink RJ0 498 YJ2_charAt_3b067.1 ∈ lw_all := lw_in3 (k := 77) rfl rfl
theorem lJ2_67 : Cond.methodLink RJ2 67 YJ2_checkIndex_2214a.1 ∈ lw_all := lw_in3 (k := 80) rfl rfl
theorem lJ2_48 : Cond.methodLink RJ2 48 YJ2_length_9d52b.1 ∈ lw_all := lw_in3 (k := 83) rfl rfl
theorem lJ2_414 : Cond.methodLink RJ2 414 YJ0_checkIndex_df160.1 ∈ lw_all := lw_in3 (k := 86) rfl rfl
theorem lJ2_71 : Cond.methodLink RJ2 71 YJ2_getChar_3b067.1 ∈ lw_all := lw_in3 (k := 87) rfl rfl
theorem gJ2_44 : Cond.fieldLink RJ2 44 "java/lang/StringUTF16" "$assertionsDisabled" "Z" ∈ lw_all := lw_in3 (k := 90) rfl rfl
theorem gJ2_59 : Cond.fieldLink RJ2 59 "java/lang/StringUTF16" "HI_BYTE_SHIFT" "I" ∈ lw_all := lw_in3 (k := 92) rfl rfl
theorem gJ2_63 : Cond.fieldLink RJ2 63 "java/lang/StringUTF16" "LO_BYTE_SHIFT" "I" ∈ lw_all := lw_in3 (k := 94) rfl rfl
theorem lX9_54 : Cond.methodLink RX9 54 YX9_choose.1 ∈ lw_all := lw_in3 (k := 99) rfl rfl
theorem lX9_62 : Cond.methodLink RX9 62 YX9_number.1 ∈ lw_all := lw_in3 (k := 104) rfl rfl
theorem lX9_83 : Cond.methodLink RX9 83 YX9_readWay.1 ∈ lw_all := lw_in3 (k := 114) rfl rfl
theorem lX9_92 : Cond.methodLink RX9 92 YX7_setWay.1 ∈ lw_all := lw_in3 (k := 121) rfl rfl
theorem lL_68 : Cond.methodLink RL 68 YX11_rules.1 ∈ lw_all := lw_in3 (k := 124) rfl rfl
theorem lX11_181 : Cond.methodLink RX11 181 YX7_copy.1 ∈ lw_all := lw_in3 (k := 128) rfl rfl
theorem lL_72 : Cond.methodLink RL 72 YX11_rule.1 ∈ lw_all := lw_in3 (k := 132) rfl rfl
theorem lL_76 : Cond.methodLink RL 76 YX11_way.1 ∈ lw_all := lw_in3 (k := 136) rfl rfl
theorem lL_80 : Cond.methodLink RL 80 YX11_would.1 ∈ lw_all := lw_in3 (k := 140) rfl rfl
theorem lX11_204 : Cond.methodLink RX11 204 YX11_tryOut.1 ∈ lw_all := lw_in3 (k := 144) rfl rfl
theorem lX11_279 : Cond.methodLink RX11 279 YX1_beginLike.1 ∈ lw_all := lw_in3 (k := 148) rfl rfl
theorem lX1_40 : Cond.methodLink RX1 40 YX4_copy.1 ∈ lw_all := lw_in3 (k := 152) rfl rfl
theorem lX1_44 : Cond.methodLink RX1 44 YJ7_fill_53178.1 ∈ lw_all := lw_in3 (k := 156) rfl rfl
theorem lX11_207 : Cond.methodLink RX11 207 YX1_total.1 ∈ lw_all := lw_in3 (k := 157) rfl rfl
theorem lL_84 : Cond.methodLink RL 84 YX11_gain.1 ∈ lw_all := lw_in3 (k := 161) rfl rfl
theorem nX11_210 : Cond.constant RX11 210 (Int32.ofInt (-2147483648)) ∈ lw_all := lw_in3 (k := 165) rfl rfl
theorem lX11_211 : Cond.methodLink RX11 211 YX1_gained.1 ∈ lw_all := lw_in3 (k := 166) rfl rfl
theorem lL_88 : Cond.methodLink RL 88 YX11_best.1 ∈ lw_all := lw_in3 (k := 170) rfl rfl
theorem lL_92 : Cond.methodLink RL 92 YX11_rest.1 ∈ lw_all := lw_in3 (k := 174) rfl rfl
theorem lX11_214 : Cond.methodLink RX11 214 YX5_areKnownFor.1 ∈ lw_all := lw_in3 (k := 178) rfl rfl
theorem lX11_217 : Cond.methodLink RX11 217 YX5_find.1 ∈ lw_all := lw_in3 (k := 182) rfl rfl
theorem lX5_34 : Cond.methodLink RX5 34 YX5_findLikeBars.1 ∈ lw_all := lw_in3 (k := 186) rfl rfl
theorem lX5_62 : Cond.methodLink RX5 62 YX5_kindsTaken.1 ∈ lw_all := lw_in3 (k := 190) rfl rfl
theorem lX5_37 : Cond.methodLink RX5 37 YX5_likeSetting.1 ∈ lw_all := lw_in3 (k := 194) rfl rfl
theorem lX5_71 : Cond.methodLink RX5 71 YX5_barOf.1 ∈ lw_all := lw_in3 (k := 198) rfl rfl
theorem lX5_41 : Cond.methodLink RX5 41 YX5_setWays.1 ∈ lw_all := lw_in3 (k := 203) rfl rfl
theorem lX5_77 : Cond.methodLink RX5 77 YX7_setWay.1 ∈ lw_all := lw_in3 (k := 207) rfl rfl
theorem lX5_45 : Cond.methodLink RX5 45 YX1_beginLike.1 ∈ lw_all := lw_in3 (k := 208) rfl rfl
theorem lX5_51 : Cond.methodLink RX5 51 YX1_pass.1 ∈ lw_all := lw_in3 (k := 209) rfl rfl
theorem lX5_55 : Cond.methodLink RX5 55 YX1_gained.1 ∈ lw_all := lw_in3 (k := 210) rfl rfl
theorem lX5_58 : Cond.methodLink RX5 58 YX5_isAtRest.1 ∈ lw_all := lw_in3 (k := 211) rfl rfl
theorem lL_96 : Cond.methodLink RL 96 YX11_lot.1 ∈ lw_all := lw_in3 (k := 215) rfl rfl
theorem lX11_227 : Cond.methodLink RX11 227 YJ9_min_7cf53.1 ∈ lw_all := lw_in3 (k := 219) rfl rfl
theorem lX11_233 : Cond.methodLink RX11 233 YX3_gather.1 ∈ lw_all := lw_in3 (k := 220) rfl rfl
theorem lX3_31 : Cond.methodLink RX3 31 YJ9_min_7cf53.1 ∈ lw_all := lw_in3 (k := 224) rfl rfl
theorem lX11_237 : Cond.methodLink RX11 237 YX3_lay.1 ∈ lw_all := lw_in3 (k := 225) rfl rfl
theorem lX3_46 : Cond.methodLink RX3 46 YJ7_fill_53178.1 ∈ lw_all := lw_in3 (k := 229) rfl rfl
theorem lX11_241 : Cond.methodLink RX11 241 YX3_rowsFor.1 ∈ lw_all := lw_in3 (k := 230) rfl rfl
theorem lX3_52 : Cond.methodLink RX3 52 YX3_rowsFrom.1 ∈ lw_all := lw_in3 (k := 234) rfl rfl
theorem lX3_56 : Cond.methodLink RX3 56 YX3_kindTaken.1 ∈ lw_all := lw_in3 (k := 238) rfl rfl
theorem gX11_244 : Cond.fieldLink RX11 244 "ThreeOffers" "FACTORIALS" "[I" ∈ lw_all := lw_in4 (k := 4) rfl rfl
theorem lX11_247 : Cond.methodLink RX11 247 YX11_lowest.1 ∈ lw_all := lw_in4 (k := 5) rfl rfl
theorem lX11_283 : Cond.methodLink RX11 283 YX11_commonDivisor.1 ∈ lw_all := lw_in4 (k := 8) rfl rfl
theorem lL_101 : Cond.methodLink RL 101 YX11_holder.1 ∈ lw_all := lw_in4 (k := 11) rfl rfl
theorem lX11_252 : Cond.methodLink RX11 252 YX2_add.1 ∈ lw_all := lw_in4 (k := 15) rfl rfl
theorem lL_105 : Cond.methodLink RL 105 YX11_swaps.1 ∈ lw_all := lw_in4 (k := 19) rfl rfl
theorem lX11_254 : Cond.methodLink RX11 254 YX8_settle.1 ∈ lw_all := lw_in4 (k := 23) rfl rfl
theorem lX8_28 : Cond.methodLink RX8 28 YX8_closeRing.1 ∈ lw_all := lw_in4 (k := 27) rfl rfl
theorem lX8_32 : Cond.methodLink RX8 32 YJ6_numberOfTrailingZeros_0f7a4.1 ∈ lw_all := lw_in4 (k := 31) rfl rfl
theorem nJ6_264 : Cond.constant RJ6 264 (Int32.ofInt (65536)) ∈ lw_all := lw_in4 (k := 34) rfl rfl
theorem lX8_37 : Cond.methodLink RX8 37 YX8_pointedTo.1 ∈ lw_all := lw_in4 (k := 35) rfl rfl
theorem lX8_44 : Cond.methodLink RX8 44 YX2_likesMore.1 ∈ lw_all := lw_in4 (k := 39) rfl rfl
theorem lL_109 : Cond.methodLink RL 109 YX11_rings.1 ∈ lw_all := lw_in4 (k := 43) rfl rfl
theorem lL_113 : Cond.methodLink RL 113 YX11_chain.1 ∈ lw_all := lw_in4 (k := 47) rfl rfl
theorem lX11_263 : Cond.methodLink RX11 263 YX0_find.1 ∈ lw_all := lw_in4 (k := 51) rfl rfl
theorem lX0_26 : Cond.methodLink RX0 26 YX0_goOn.1 ∈ lw_all := lw_in4 (k := 55) rfl rfl
theorem lX0_30 : Cond.methodLink RX0 30 arraycopyName ∈ lw_all := lw_in4 (k := 59) rfl rfl
theorem lX0_44 : Cond.methodLink RX0 44 YX2_likesMore.1 ∈ lw_all := lw_in4 (k := 62) rfl rfl
theorem lL_117 : Cond.methodLink RL 117 YX11_mean.1 ∈ lw_all := lw_in4 (k := 63) rfl rfl
theorem nX11_269 : Cond.constantLong RX11 269 (Int64.ofInt (-3)) ∈ lw_all := lw_in4 (k := 67) rfl rfl
theorem lX11_271 : Cond.methodLink RX11 271 YX11_power.1 ∈ lw_all := lw_in4 (k := 68) rfl rfl
theorem lL_122 : Cond.methodLink RL 122 YX11_count.1 ∈ lw_all := lw_in4 (k := 71) rfl rfl
theorem lL_12 : Cond.methodLink RL 12 YX12_init.1 ∈ lw_all := lw_in4 (k := 77) rfl rfl
theorem lX12_1 : Cond.methodLink RX12 1 objectInit ∈ lw_all := lw_in4 (k := 80) rfl rfl
theorem lX12_71 : Cond.methodLink RX12 71 YX12_firstRules.1 ∈ lw_all := lw_in4 (k := 81) rfl rfl
theorem fX12_7 : ab_FL RX12 7 12 0 true := ⟨_, _, _, kc12, by decide, rfl, lw_in4 (k := 84) rfl rfl⟩
theorem fX12_13 : ab_FL RX12 13 12 1 true := ⟨_, _, _, kc12, by decide, rfl, lw_in4 (k := 85) rfl rfl⟩
theorem fX12_83 : ab_FL RX12 83 12 2 false := ⟨_, _, _, kc12, by decide, rfl, lw_in4 (k := 86) rfl rfl⟩
theorem fX12_16 : ab_FL RX12 16 12 3 true := ⟨_, _, _, kc12, by decide, rfl, lw_in4 (k := 87) rfl rfl⟩
theorem fX12_87 : ab_FL RX12 87 12 4 false := ⟨_, _, _, kc12, by decide, rfl, lw_in4 (k := 88) rfl rfl⟩
theorem fX12_19 : ab_FL RX12 19 12 5 true := ⟨_, _, _, kc12, by decide, rfl, lw_in4 (k := 89) rfl rfl⟩
theorem fX12_22 : ab_FL RX12 22 12 6 true := ⟨_, _, _, kc12, by decide, rfl, lw_in4 (k := 90) rfl rfl⟩
theorem fX12_25 : ab_FL RX12 25 12 7 true := ⟨_, _, _, kc12, by decide, rfl, lw_in4 (k := 91) rfl rfl⟩
theorem fX12_28 : ab_FL RX12 28 12 8 true := ⟨_, _, _, kc12, by decide, rfl, lw_in4 (k := 92) rfl rfl⟩
theorem fX12_31 : ab_FL RX12 31 12 9 true := ⟨_, _, _, kc12, by decide, rfl, lw_in4 (k := 93) rfl rfl⟩
theorem fX12_110 : ab_FL RX12 110 12 10 false := ⟨_, _, _, kc12, by decide, rfl, lw_in4 (k := 94) rfl rfl⟩
theorem fX12_35 : ab_FL RX12 35 12 11 true := ⟨_, _, _, kc12, by decide, rfl, lw_in4 (k := 95) rfl rfl⟩
theorem fX12_115 : ab_FL RX12 115 12 12 false := ⟨_, _, _, kc12, by decide, rfl, lw_in4 (k := 96) rfl rfl⟩
theorem fX12_118 : ab_FL RX12 118 12 13 false := ⟨_, _, _, kc12, by decide, rfl, lw_in4 (k := 97) rfl rfl⟩
theorem fX12_129 : ab_FL RX12 129 12 14 false := ⟨_, _, _, kc12, by decide, rfl, lw_in4 (k := 98) rfl rfl⟩
theorem fX12_121 : ab_FL RX12 121 12 15 false := ⟨_, _, _, kc12, by decide, rfl, lw_in4 (k := 99) rfl rfl⟩
theorem fX12_124 : ab_FL RX12 124 12 16 false := ⟨_, _, _, kc12, by decide, rfl, lw_in4 (k := 100) rfl rfl⟩
theorem fX12_143 : ab_FL RX12 143 12 17 false := ⟨_, _, _, kc12, by decide, rfl, lw_in4 (k := 101) rfl rfl⟩
theorem fX12_191 : ab_FL RX12 191 12 18 false := ⟨_, _, _, kc12, by decide, rfl, lw_in4 (k := 102) rfl rfl⟩
theorem fX12_38 : ab_FL RX12 38 12 19 true := ⟨_, _, _, kc12, by decide, rfl, lw_in4 (k := 103) rfl rfl⟩
theorem fX12_41 : ab_FL RX12 41 12 20 true := ⟨_, _, _, kc12, by decide, rfl, lw_in4 (k := 104) rfl rfl⟩
theorem fX12_44 : ab_FL RX12 44 12 21 true := ⟨_, _, _, kc12, by decide, rfl, lw_in4 (k := 105) rfl rfl⟩
theorem fX12_47 : ab_FL RX12 47 12 22 true := ⟨_, _, _, kc12, by decide, rfl, lw_in4 (k := 106) rfl rfl⟩
theorem fX12_50 : ab_FL RX12 50 12 23 true := ⟨_, _, _, kc12, by decide, rfl, lw_in4 (k := 107) rfl rfl⟩
theorem fX12_53 : ab_FL RX12 53 12 24 true := ⟨_, _, _, kc12, by decide, rfl, lw_in4 (k := 108) rfl rfl⟩
theorem fX12_238 : ab_FL RX12 238 12 25 false := ⟨_, _, _, kc12, by decide, rfl, lw_in4 (k := 109) rfl rfl⟩
theorem fX12_56 : ab_FL RX12 56 12 26 true := ⟨_, _, _, kc12, by decide, rfl, lw_in4 (k := 110) rfl rfl⟩
theorem fX12_59 : ab_FL RX12 59 12 27 true := ⟨_, _, _, kc12, by decide, rfl, lw_in4 (k := 111) rfl rfl⟩
theorem fX12_62 : ab_FL RX12 62 12 28 true := ⟨_, _, _, kc12, by decide, rfl, lw_in4 (k := 112) rfl rfl⟩
theorem fX12_65 : ab_FL RX12 65 12 29 true := ⟨_, _, _, kc12, by decide, rfl, lw_in4 (k := 113) rfl rfl⟩
theorem fX12_241 : ab_FL RX12 241 12 30 false := ⟨_, _, _, kc12, by decide, rfl, lw_in4 (k := 114) rfl rfl⟩
theorem fX12_68 : ab_FL RX12 68 12 31 true := ⟨_, _, _, kc12, by decide, rfl, lw_in4 (k := 115) rfl rfl⟩
theorem lL_17 : Cond.methodLink RL 17 YX12_worth.1 ∈ lw_all := lw_in4 (k := 182) rfl rfl
theorem lX12_79 : Cond.methodLink RX12 79 YX12_isFour.1 ∈ lw_all := lw_in4 (k := 186) rfl rfl
theorem lX12_75 : Cond.methodLink RX12 75 YX12_in.1 ∈ lw_all := lw_in4 (k := 189) rfl rfl
theorem lL_22 : Cond.methodLink RL 22 YX12_need.1 ∈ lw_all := lw_in4 (k := 192) rfl rfl
theorem lL_27 : Cond.methodLink RL 27 YX12_coming.1 ∈ lw_all := lw_in4 (k := 196) rfl rfl
theorem lL_31 : Cond.methodLink RL 31 YX12_joining.1 ∈ lw_all := lw_in4 (k := 200) rfl rfl
theorem lL_35 : Cond.methodLink RL 35 YX12_join.1 ∈ lw_all := lw_in4 (k := 204) rfl rfl
theorem lX12_90 : Cond.methodLink RX12 90 YX12_add.1 ∈ lw_all := lw_in4 (k := 208) rfl rfl
theorem lL_39 : Cond.methodLink RL 39 YX12_run.1 ∈ lw_all := lw_in4 (k := 212) rfl rfl
theorem lX12_107 : Cond.methodLink RX12 107 YX12_goWeek.1 ∈ lw_all := lw_in4 (k := 216) rfl rfl
theorem lX12_104 : Cond.methodLink RX12 104 YX12_offer.1 ∈ lw_all := lw_in4 (k := 220) rfl rfl
theorem lX12_98 : Cond.methodLink RX12 98 YX12_findOrder.1 ∈ lw_all := lw_in4 (k := 224) rfl rfl
theorem lX12_94 : Cond.methodLink RX12 94 YX12_isAhead.1 ∈ lw_all := lw_in4 (k := 228) rfl rfl
theorem lX12_101 : Cond.methodLink RX12 101 YX12_doesTake.1 ∈ lw_all := lw_in4 (k := 232) rfl rfl
theorem lL_43 : Cond.methodLink RL 43 YX12_person.1 ∈ lw_all := lw_in4 (k := 236) rfl rfl
theorem lL_47 : Cond.methodLink RL 47 YX12_of.1 ∈ lw_all := lw_in5 (k := 0) rfl rfl
theorem lL_52 : Cond.methodLink RL 52 YX12_empty.1 ∈ lw_all := lw_in5 (k := 4) rfl rfl
theorem lL_59 : Cond.methodLink RL 59 YX12_write.1 ∈ lw_all := lw_in5 (k := 8) rfl rfl
theorem nX12_113 : Cond.constantLong RX12 113 (Int64.ofInt (255)) ∈ lw_all := lw_in5 (k := 12) rfl rfl
theorem lL_63 : Cond.methodLink RL 63 YX12_erase.1 ∈ lw_all := lw_in5 (k := 13) rfl rfl
theorem lL_67 : Cond.methodLink RL 67 YX12_fault.1 ∈ lw_all := lw_in5 (k := 17) rfl rfl
theorem lX12_197 : Cond.methodLink RX12 197 YX12_isRead.1 ∈ lw_all := lw_in5 (k := 21) rfl rfl
theorem lX12_194 : Cond.methodLink RX12 194 YX12_isLine.1 ∈ lw_all := lw_in5 (k := 25) rfl rfl
theorem lX12_146 : Cond.methodLink RX12 146 YX12_nextToken.1 ∈ lw_all := lw_in5 (k := 29) rfl rfl
theorem nX12_127 : Cond.constantLong RX12 127 (Int64.ofInt (-2)) ∈ lw_all := lw_in5 (k := 33) rfl rfl
theorem nX12_133 : Cond.constantLong RX12 133 (Int64.ofInt (27)) ∈ lw_all := lw_in5 (k := 34) rfl rfl
theorem nX12_135 : Cond.constantLong RX12 135 (Int64.ofInt (96)) ∈ lw_all := lw_in5 (k := 35) rfl rfl
theorem nX12_137 : Cond.constantLong RX12 137 (Int64.ofInt (-4)) ∈ lw_all := lw_in5 (k := 36) rfl rfl
theorem nX12_139 : Cond.constantLong RX12 139 (Int64.ofInt (-1)) ∈ lw_all := lw_in5 (k := 37) rfl rfl
theorem nX12_141 : Cond.constantLong RX12 141 (Int64.ofInt (-3)) ∈ lw_all := lw_in5 (k := 38) rfl rfl
theorem nX12_166 : Cond.constantLong RX12 166 (Int64.ofInt (8328978)) ∈ lw_all := lw_in5 (k := 39) rfl rfl
theorem nX12_168 : Cond.constantLong RX12 168 (Int64.ofInt (400577)) ∈ lw_all := lw_in5 (k := 40) rfl rfl
theorem nX12_170 : Cond.constantLong RX12 170 (Int64.ofInt (279346)) ∈ lw_all := lw_in5 (k := 41) rfl rfl
theorem nX12_172 : Cond.constantLong RX12 172 (Int64.ofInt (237742039)) ∈ lw_all := lw_in5 (k := 42) rfl rfl
theorem lX12_159 : Cond.methodLink RX12 159 YX12_isOf.1 ∈ lw_all := lw_in5 (k := 43) rfl rfl
theorem lX12_149 : Cond.methodLink RX12 149 YX12_fails.1 ∈ lw_all := lw_in5 (k := 47) rfl rfl
theorem nX12_174 : Cond.constantLong RX12 174 (Int64.ofInt (286651)) ∈ lw_all := lw_in5 (k := 51) rfl rfl
theorem lX12_163 : Cond.methodLink RX12 163 YX12_isNumber.1 ∈ lw_all := lw_in5 (k := 52) rfl rfl
theorem nX12_176 : Cond.constantLong RX12 176 (Int64.ofInt (399641)) ∈ lw_all := lw_in5 (k := 56) rfl rfl
theorem nX12_178 : Cond.constantLong RX12 178 (Int64.ofInt (4027)) ∈ lw_all := lw_in5 (k := 57) rfl rfl
theorem nX12_180 : Cond.constantLong RX12 180 (Int64.ofInt (40187)) ∈ lw_all := lw_in5 (k := 58) rfl rfl
theorem nX12_182 : Cond.constantLong RX12 182 (Int64.ofInt (388609)) ∈ lw_all := lw_in5 (k := 59) rfl rfl
theorem nX12_184 : Cond.constantLong RX12 184 (Int64.ofInt (151331)) ∈ lw_all := lw_in5 (k := 60) rfl rfl
theorem nX12_186 : Cond.constantLong RX12 186 (Int64.ofInt (16819)) ∈ lw_all := lw_in5 (k := 61) rfl rfl
theorem lX12_188 : Cond.methodLink RX12 188 YX12_isWay.1 ∈ lw_all := lw_in5 (k := 62) rfl rfl
theorem nX12_153 : Cond.constantLong RX12 153 (Int64.ofInt (1132)) ∈ lw_all := lw_in5 (k := 66) rfl rfl
theorem nX12_155 : Cond.constantLong RX12 155 (Int64.ofInt (1503)) ∈ lw_all := lw_in5 (k := 67) rfl rfl
theorem nX12_157 : Cond.constantLong RX12 157 (Int64.ofInt (119163)) ∈ lw_all := lw_in5 (k := 68) rfl rfl
theorem lL_71 : Cond.methodLink RL 71 YX12_rules.1 ∈ lw_all := lw_in5 (k := 69) rfl rfl
theorem lL_75 : Cond.methodLink RL 75 YX12_rule.1 ∈ lw_all := lw_in5 (k := 73) rfl rfl
theorem lL_79 : Cond.methodLink RL 79 YX12_way.1 ∈ lw_all := lw_in5 (k := 77) rfl rfl
theorem lL_83 : Cond.methodLink RL 83 YX12_would.1 ∈ lw_all := lw_in5 (k := 81) rfl rfl
theorem lX12_200 : Cond.methodLink RX12 200 YX12_goOn.1 ∈ lw_all := lw_in5 (k := 85) rfl rfl
theorem lX12_203 : Cond.methodLink RX12 203 YX12_more.1 ∈ lw_all := lw_in5 (k := 89) rfl rfl
theorem lX12_207 : Cond.methodLink RX12 207 YX12_layBack.1 ∈ lw_all := lw_in5 (k := 93) rfl rfl
theorem lL_87 : Cond.methodLink RL 87 YX12_gain.1 ∈ lw_all := lw_in5 (k := 97) rfl rfl
theorem nX12_210 : Cond.constant RX12 210 (Int32.ofInt (-2147483648)) ∈ lw_all := lw_in5 (k := 101) rfl rfl
theorem lX12_211 : Cond.methodLink RX12 211 YX12_gainOf.1 ∈ lw_all := lw_in5 (k := 102) rfl rfl
theorem lL_91 : Cond.methodLink RL 91 YX12_best.1 ∈ lw_all := lw_in5 (k := 106) rfl rfl
theorem lX12_214 : Cond.methodLink RX12 214 YX12_keepRules.1 ∈ lw_all := lw_in5 (k := 110) rfl rfl
theorem lX12_217 : Cond.methodLink RX12 217 YX12_layBackRules.1 ∈ lw_all := lw_in5 (k := 114) rfl rfl
theorem lL_95 : Cond.methodLink RL 95 YX12_rest.1 ∈ lw_all := lw_in5 (k := 118) rfl rfl
theorem lX12_220 : Cond.methodLink RX12 220 YX12_findGains.1 ∈ lw_all := lw_in5 (k := 122) rfl rfl
theorem lX12_223 : Cond.methodLink RX12 223 YX12_isAtRest.1 ∈ lw_all := lw_in5 (k := 126) rfl rfl
theorem lL_100 : Cond.methodLink RL 100 YX12_lot.1 ∈ lw_all := lw_in5 (k := 130) rfl rfl
theorem lX12_230 : Cond.methodLink RX12 230 YX12_lotOf.1 ∈ lw_all := lw_in5 (k := 134) rfl rfl
theorem lX12_234 : Cond.methodLink RX12 234 YX12_part.1 ∈ lw_all := lw_in5 (k := 138) rfl rfl
theorem lX12_226 : Cond.methodLink RX12 226 YX12_divisor.1 ∈ lw_all := lw_in5 (k := 142) rfl rfl
theorem lL_104 : Cond.methodLink RL 104 YX12_holder.1 ∈ lw_all := lw_in5 (k := 145) rfl rfl
theorem lL_108 : Cond.methodLink RL 108 YX12_swaps.1 ∈ lw_all := lw_in5 (k := 149) rfl rfl
theorem lX12_248 : Cond.methodLink RX12 248 YX12_swapAll.1 ∈ lw_all := lw_in5 (k := 153) rfl rfl
theorem lX12_244 : Cond.methodLink RX12 244 YX12_worthTo.1 ∈ lw_all := lw_in5 (k := 157) rfl rfl
theorem lL_112 : Cond.methodLink RL 112 YX12_rings.1 ∈ lw_all := lw_in5 (k := 161) rfl rfl
theorem lL_116 : Cond.methodLink RL 116 YX12_chain.1 ∈ lw_all := lw_in5 (k := 165) rfl rfl
theorem lX12_251 : Cond.methodLink RX12 251 YX12_wouldGo.1 ∈ lw_all := lw_in5 (k := 169) rfl rfl
theorem lL_121 : Cond.methodLink RL 121 YX12_mean.1 ∈ lw_all := lw_in5 (k := 173) rfl rfl
theorem lL_125 : Cond.methodLink RL 125 YX12_count.1 ∈ lw_all := lw_in5 (k := 177) rfl rfl
theorem nL_53 : Cond.constantLong RL 53 (Int64.ofInt (4294967295)) ∈ lw_all := lw_in5 (k := 181) rfl rfl
theorem gJ0_9 : Cond.fieldLink RJ0 9 "java/lang/String" "value" "[B" ∈ lw_all := lw_in5 (k := 182) rfl rfl
theorem gJ0_15 : Cond.fieldLink RJ0 15 "java/lang/String" "coder" "B" ∈ lw_all := lw_in5 (k := 183) rfl rfl
end
section
section AJ
variable {G : ab_G} {Y : ab_Y} {R : Room} {Z : ab_Zt} {kc ks : Nat} {h : ab_H} {pc : Nat} {ls : List (Option ab_V)} {st : List ab_V}
theorem aw_mmin {x y : Int} {idx : Nat} (hd : decode Y.2.1 pc = .ok (.invokestatic idx, 3)) (hlk : Cond.methodLink Y.1.cls idx Lib.Math.min.name ∈ lw_all) (hx : ab_In x) (hy : ab_In y) (hw : st.length ≤ 4) (h1 : 1 ≤ R.frames) (h2 : 21 ≤ R.locals) (h3 : kc ≤ R.cells) (h4 : ks ≤ R.slots) (k : aW G Y R Z kc ks h (pc + 3) ls (ab_i (if y < x then y else x) :: st)) : aW G Y R Z kc ks h pc ls (ab_i y :: ab_i x :: st) := by
  intro p e s m args below meth c C H locs lsr hR hO hL hl
  have k9 := k p e s m args below meth c C H locs lsr hR hO hL hl
  have hts := C.2.2.2.2.2.1
  refine va_mmin C.1 C.2.1 (C.2.2.2.1.trans hl.1.symm) C.2.2.2.2.1 (hts _ hlk) (hts _ sJmin) (hts _ nJmin) (hts _ cJmin) h1 (by have := ab_cats (G := G) st; omega) h3 h4 hd ?_
  have e9 : (if Int32.ofInt y < Int32.ofInt x then Int32.ofInt y else Int32.ofInt x) = Int32.ofInt (if y < x then y else x) := by
    by_cases hc : y < x
    · rw [if_pos hc, if_pos ((ab_lti hy hx).mpr hc)]
    · rw [if_neg hc, if_neg (fun q => hc ((ab_lti hy hx).mp q))]
  rw [e9]
  exact k9
end AJ
end
section
theorem dX0_init_0 : decode cX0_init 0 = .ok (.aload_n 0, 1) := by decide +kernel
theorem dX0_init_1 : decode cX0_init 1 = .ok (.invokespecial 3, 3) := by decide +kernel
theorem dX0_init_4 : decode cX0_init 4 = .ok (.aload_n 0, 1) := by decide +kernel
theorem dX0_init_5 : decode cX0_init 5 = .ok (.bipush 8, 2) := by decide +kernel
theorem dX0_init_7 : decode cX0_init 7 = .ok (.newarray .int, 2) := by decide +kernel
theorem dX0_init_9 : decode cX0_init 9 = .ok (.putfield 9, 3) := by decide +kernel
theorem dX0_init_12 : decode cX0_init 12 = .ok (.aload_n 0, 1) := by decide +kernel
theorem dX0_init_13 : decode cX0_init 13 = .ok (.bipush 8, 2) := by decide +kernel
theorem dX0_init_15 : decode cX0_init 15 = .ok (.newarray .int, 2) := by decide +kernel
theorem dX0_init_17 : decode cX0_init 17 = .ok (.putfield 15, 3) := by decide +kernel
theorem dX0_init_20 : decode cX0_init 20 = .ok (.aload_n 0, 1) := by decide +kernel
theorem dX0_init_21 : decode cX0_init 21 = .ok (.iconst 0, 1) := by decide +kernel
theorem dX0_init_22 : decode cX0_init 22 = .ok (.putfield 18, 3) := by decide +kernel
theorem dX0_init_25 : decode cX0_init 25 = .ok (.aload_n 0, 1) := by decide +kernel
theorem dX0_init_26 : decode cX0_init 26 = .ok (.aload_n 1, 1) := by decide +kernel
theorem dX0_init_27 : decode cX0_init 27 = .ok (.putfield 22, 3) := by decide +kernel
theorem dX0_init_30 : decode cX0_init 30 = .ok (.return_, 1) := by decide +kernel
theorem dX0_find_0 : decode cX0_find 0 = .ok (.aload_n 0, 1) := by decide +kernel
theorem dX0_find_1 : decode cX0_find 1 = .ok (.iconst 0, 1) := by decide +kernel
theorem dX0_find_2 : decode cX0_find 2 = .ok (.putfield 18, 3) := by decide +kernel
theorem dX0_find_5 : decode cX0_find 5 = .ok (.aload_n 0, 1) := by decide +kernel
theorem dX0_find_6 : decode cX0_find 6 = .ok (.iconst 0, 1) := by decide +kernel
theorem dX0_find_7 : decode cX0_find 7 = .ok (.iconst 0, 1) := by decide +kernel
theorem dX0_find_8 : decode cX0_find 8 = .ok (.iload_n 1, 1) := by decide +kernel
theorem dX0_find_9 : decode cX0_find 9 = .ok (.invokevirtual 26, 3) := by decide +kernel
theorem dX0_find_12 : decode cX0_find 12 = .ok (.return_, 1) := by decide +kernel
theorem dX0_goOn_0 : decode cX0_goOn 0 = .ok (.iload_n 1, 1) := by decide +kernel
theorem dX0_goOn_1 : decode cX0_goOn 1 = .ok (.aload_n 0, 1) := by decide +kernel
theorem dX0_goOn_2 : decode cX0_goOn 2 = .ok (.getfield 18, 3) := by decide +kernel
theorem dX0_goOn_5 : decode cX0_goOn 5 = .ok (.if_icmp .le 22, 3) := by decide +kernel
theorem dX0_goOn_8 : decode cX0_goOn 8 = .ok (.aload_n 0, 1) := by decide +kernel
theorem dX0_goOn_9 : decode cX0_goOn 9 = .ok (.iload_n 1, 1) := by decide +kernel
theorem dX0_goOn_10 : decode cX0_goOn 10 = .ok (.putfield 18, 3) := by decide +kernel
theorem dX0_goOn_13 : decode cX0_goOn 13 = .ok (.aload_n 0, 1) := by decide +kernel
theorem dX0_goOn_14 : decode cX0_goOn 14 = .ok (.getfield 9, 3) := by decide +kernel
theorem dX0_goOn_17 : decode cX0_goOn 17 = .ok (.iconst 0, 1) := by decide +kernel
theorem dX0_goOn_18 : decode cX0_goOn 18 = .ok (.aload_n 0, 1) := by decide +kernel
theorem dX0_goOn_19 : decode cX0_goOn 19 = .ok (.getfield 15, 3) := by decide +kernel
theorem dX0_goOn_22 : decode cX0_goOn 22 = .ok (.iconst 0, 1) := by decide +kernel
theorem dX0_goOn_23 : decode cX0_goOn 23 = .ok (.iload_n 1, 1) := by decide +kernel
theorem dX0_goOn_24 : decode cX0_goOn 24 = .ok (.invokestatic 30, 3) := by decide +kernel
theorem dX0_goOn_27 : decode cX0_goOn 27 = .ok (.iload_n 1, 1) := by decide +kernel
theorem dX0_goOn_28 : decode cX0_goOn 28 = .ok (.aload_n 0, 1) := by decide +kernel
theorem dX0_goOn_29 : decode cX0_goOn 29 = .ok (.getfield 22, 3) := by decide +kernel
theorem dX0_goOn_32 : decode cX0_goOn 32 = .ok (.getfield 36, 3) := by decide +kernel
theorem dX0_goOn_35 : decode cX0_goOn 35 = .ok (.if_icmp .lt 4, 3) := by decide +kernel
theorem dX0_goOn_38 : decode cX0_goOn 38 = .ok (.return_, 1) := by decide +kernel
theorem dX0_goOn_39 : decode cX0_goOn 39 = .ok (.iconst 0, 1) := by decide +kernel
theorem dX0_goOn_40 : decode cX0_goOn 40 = .ok (.istore 4, 2) := by decide +kernel
theorem dX0_goOn_42 : decode cX0_goOn 42 = .ok (.iload 4, 2) := by decide +kernel
theorem dX0_goOn_44 : decode cX0_goOn 44 = .ok (.aload_n 0, 1) := by decide +kernel
theorem dX0_goOn_45 : decode cX0_goOn 45 = .ok (.getfield 22, 3) := by decide +kernel
theorem dX0_goOn_48 : decode cX0_goOn 48 = .ok (.getfield 36, 3) := by decide +kernel
theorem dX0_goOn_51 : decode cX0_goOn 51 = .ok (.if_icmp .ge 92, 3) := by decide +kernel
theorem dX0_goOn_54 : decode cX0_goOn 54 = .ok (.aload_n 0, 1) := by decide +kernel
theorem dX0_goOn_55 : decode cX0_goOn 55 = .ok (.getfield 18, 3) := by decide +kernel
theorem dX0_goOn_58 : decode cX0_goOn 58 = .ok (.aload_n 0, 1) := by decide +kernel
theorem dX0_goOn_59 : decode cX0_goOn 59 = .ok (.getfield 22, 3) := by decide +kernel
theorem dX0_goOn_62 : decode cX0_goOn 62 = .ok (.getfield 36, 3) := by decide +kernel
theorem dX0_goOn_65 : decode cX0_goOn 65 = .ok (.if_icmp .ge 78, 3) := by decide +kernel
theorem dX0_goOn_68 : decode cX0_goOn 68 = .ok (.iload_n 2, 1) := by decide +kernel
theorem dX0_goOn_69 : decode cX0_goOn 69 = .ok (.iload 4, 2) := by decide +kernel
theorem dX0_goOn_71 : decode cX0_goOn 71 = .ok (.ishr, 1) := by decide +kernel
theorem dX0_goOn_72 : decode cX0_goOn 72 = .ok (.iconst 1, 1) := by decide +kernel
theorem dX0_goOn_73 : decode cX0_goOn 73 = .ok (.iand, 1) := by decide +kernel
theorem dX0_goOn_74 : decode cX0_goOn 74 = .ok (.ifCond .eq 6, 3) := by decide +kernel
theorem dX0_goOn_77 : decode cX0_goOn 77 = .ok (.goto 60, 3) := by decide +kernel
theorem dX0_goOn_80 : decode cX0_goOn 80 = .ok (.aload_n 0, 1) := by decide +kernel
theorem dX0_goOn_81 : decode cX0_goOn 81 = .ok (.getfield 22, 3) := by decide +kernel
theorem dX0_goOn_84 : decode cX0_goOn 84 = .ok (.iload 4, 2) := by decide +kernel
theorem dX0_goOn_86 : decode cX0_goOn 86 = .ok (.iload_n 3, 1) := by decide +kernel
theorem dX0_goOn_87 : decode cX0_goOn 87 = .ok (.aload_n 0, 1) := by decide +kernel
theorem dX0_goOn_88 : decode cX0_goOn 88 = .ok (.getfield 22, 3) := by decide +kernel
theorem dX0_goOn_91 : decode cX0_goOn 91 = .ok (.getfield 41, 3) := by decide +kernel
theorem dX0_goOn_94 : decode cX0_goOn 94 = .ok (.iload 4, 2) := by decide +kernel
theorem dX0_goOn_96 : decode cX0_goOn 96 = .ok (.iaload, 1) := by decide +kernel
theorem dX0_goOn_97 : decode cX0_goOn 97 = .ok (.invokevirtual 44, 3) := by decide +kernel
theorem dX0_goOn_100 : decode cX0_goOn 100 = .ok (.ifCond .ne 6, 3) := by decide +kernel
theorem dX0_goOn_103 : decode cX0_goOn 103 = .ok (.goto 34, 3) := by decide +kernel
theorem dX0_goOn_106 : decode cX0_goOn 106 = .ok (.aload_n 0, 1) := by decide +kernel
theorem dX0_goOn_107 : decode cX0_goOn 107 = .ok (.getfield 9, 3) := by decide +kernel
theorem dX0_goOn_110 : decode cX0_goOn 110 = .ok (.iload_n 1, 1) := by decide +kernel
theorem dX0_goOn_111 : decode cX0_goOn 111 = .ok (.iload 4, 2) := by decide +kernel
theorem dX0_goOn_113 : decode cX0_goOn 113 = .ok (.iastore, 1) := by decide +kernel
theorem dX0_goOn_114 : decode cX0_goOn 114 = .ok (.aload_n 0, 1) := by decide +kernel
theorem dX0_goOn_115 : decode cX0_goOn 115 = .ok (.iload_n 1, 1) := by decide +kernel
theorem dX0_goOn_116 : decode cX0_goOn 116 = .ok (.iconst 1, 1) := by decide +kernel
theorem dX0_goOn_117 : decode cX0_goOn 117 = .ok (.iadd, 1) := by decide +kernel
theorem dX0_goOn_118 : decode cX0_goOn 118 = .ok (.iload_n 2, 1) := by decide +kernel
theorem dX0_goOn_119 : decode cX0_goOn 119 = .ok (.iconst 1, 1) := by decide +kernel
theorem dX0_goOn_120 : decode cX0_goOn 120 = .ok (.iload 4, 2) := by decide +kernel
theorem dX0_goOn_122 : decode cX0_goOn 122 = .ok (.ishl, 1) := by decide +kernel
theorem dX0_goOn_123 : decode cX0_goOn 123 = .ok (.ior, 1) := by decide +kernel
theorem dX0_goOn_124 : decode cX0_goOn 124 = .ok (.aload_n 0, 1) := by decide +kernel
theorem dX0_goOn_125 : decode cX0_goOn 125 = .ok (.getfield 22, 3) := by decide +kernel
theorem dX0_goOn_128 : decode cX0_goOn 128 = .ok (.getfield 41, 3) := by decide +kernel
theorem dX0_goOn_131 : decode cX0_goOn 131 = .ok (.iload 4, 2) := by decide +kernel
theorem dX0_goOn_133 : decode cX0_goOn 133 = .ok (.iaload, 1) := by decide +kernel
theorem dX0_goOn_134 : decode cX0_goOn 134 = .ok (.invokevirtual 26, 3) := by decide +kernel
theorem dX0_goOn_137 : decode cX0_goOn 137 = .ok (.iinc 4 1, 3) := by decide +kernel
theorem dX0_goOn_140 : decode cX0_goOn 140 = .ok (.goto (-98), 3) := by decide +kernel
theorem dX0_goOn_143 : decode cX0_goOn 143 = .ok (.return_, 1) := by decide +kernel
theorem dX1_init_0 : decode cX1_init 0 = .ok (.aload_n 0, 1) := by decide +kernel
theorem dX1_init_1 : decode cX1_init 1 = .ok (.invokespecial 3, 3) := by decide +kernel
theorem dX1_init_4 : decode cX1_init 4 = .ok (.aload_n 0, 1) := by decide +kernel
theorem dX1_init_5 : decode cX1_init 5 = .ok (.bipush 12, 2) := by decide +kernel
theorem dX1_init_7 : decode cX1_init 7 = .ok (.anewarray 9, 3) := by decide +kernel
theorem dX1_init_10 : decode cX1_init 10 = .ok (.putfield 11, 3) := by decide +kernel
theorem dX1_init_13 : decode cX1_init 13 = .ok (.aload_n 0, 1) := by decide +kernel
theorem dX1_init_14 : decode cX1_init 14 = .ok (.iconst 0, 1) := by decide +kernel
theorem dX1_init_15 : decode cX1_init 15 = .ok (.putfield 17, 3) := by decide +kernel
theorem dX1_init_18 : decode cX1_init 18 = .ok (.aload_n 0, 1) := by decide +kernel
theorem dX1_init_19 : decode cX1_init 19 = .ok (.iconst 0, 1) := by decide +kernel
theorem dX1_init_20 : decode cX1_init 20 = .ok (.putfield 21, 3) := by decide +kernel
theorem dX1_init_23 : decode cX1_init 23 = .ok (.aload_n 0, 1) := by decide +kernel
theorem dX1_init_24 : decode cX1_init 24 = .ok (.iconst 0, 1) := by decide +kernel
theorem dX1_init_25 : decode cX1_init 25 = .ok (.putfield 24, 3) := by decide +kernel
theorem dX1_init_28 : decode cX1_init 28 = .ok (.aload_n 0, 1) := by decide +kernel
theorem dX1_init_29 : decode cX1_init 29 = .ok (.iconst 0, 1) := by decide +kernel
theorem dX1_init_30 : decode cX1_init 30 = .ok (.putfield 27, 3) := by decide +kernel
theorem dX1_init_33 : decode cX1_init 33 = .ok (.aload_n 0, 1) := by decide +kernel
theorem dX1_init_34 : decode cX1_init 34 = .ok (.bipush 6, 2) := by decide +kernel
theorem dX1_init_36 : decode cX1_init 36 = .ok (.iconst 4, 1) := by decide +kernel
theorem dX1_init_37 : decode cX1_init 37 = .ok (.multianewarray 30 2, 4) := by decide +kernel
theorem dX1_init_41 : decode cX1_init 41 = .ok (.putfield 32, 3) := by decide +kernel
theorem dX1_init_44 : decode cX1_init 44 = .ok (.aload_n 0, 1) := by decide +kernel
theorem dX1_init_45 : decode cX1_init 45 = .ok (.aload_n 1, 1) := by decide +kernel
theorem dX1_init_46 : decode cX1_init 46 = .ok (.putfield 35, 3) := by decide +kernel
theorem dX1_init_49 : decode cX1_init 49 = .ok (.iconst 0, 1) := by decide +kernel
theorem dX1_init_50 : decode cX1_init 50 = .ok (.istore_n 2, 1) := by decide +kernel
theorem dX1_init_51 : decode cX1_init 51 = .ok (.iload_n 2, 1) := by decide +kernel
theorem dX1_init_52 : decode cX1_init 52 = .ok (.bipush 12, 2) := by decide +kernel
theorem dX1_init_54 : decode cX1_init 54 = .ok (.if_icmp .ge 22, 3) := by decide +kernel
theorem dX1_init_57 : decode cX1_init 57 = .ok (.aload_n 0, 1) := by decide +kernel
theorem dX1_init_58 : decode cX1_init 58 = .ok (.getfield 11, 3) := by decide +kernel
theorem dX1_init_61 : decode cX1_init 61 = .ok (.iload_n 2, 1) := by decide +kernel
theorem dX1_init_62 : decode cX1_init 62 = .ok (.new 9, 3) := by decide +kernel
theorem dX1_init_65 : decode cX1_init 65 = .ok (.dup, 1) := by decide +kernel
theorem dX1_init_66 : decode cX1_init 66 = .ok (.invokespecial 39, 3) := by decide +kernel
theorem dX1_init_69 : decode cX1_init 69 = .ok (.aastore, 1) := by decide +kernel
theorem dX1_init_70 : decode cX1_init 70 = .ok (.iinc 2 1, 3) := by decide +kernel
theorem dX1_init_73 : decode cX1_init 73 = .ok (.goto (-22), 3) := by decide +kernel
theorem dX1_init_76 : decode cX1_init 76 = .ok (.return_, 1) := by decide +kernel
theorem dX1_beginLike_0 : decode cX1_beginLike 0 = .ok (.aload_n 0, 1) := by decide +kernel
theorem dX1_beginLike_1 : decode cX1_beginLike 1 = .ok (.aload_n 1, 1) := by decide +kernel
theorem dX1_beginLike_2 : decode cX1_beginLike 2 = .ok (.getfield 17, 3) := by decide +kernel
theorem dX1_beginLike_5 : decode cX1_beginLike 5 = .ok (.putfield 17, 3) := by decide +kernel
theorem dX1_beginLike_8 : decode cX1_beginLike 8 = .ok (.aload_n 0, 1) := by decide +kernel
theorem dX1_beginLike_9 : decode cX1_beginLike 9 = .ok (.aload_n 1, 1) := by decide +kernel
theorem dX1_beginLike_10 : decode cX1_beginLike 10 = .ok (.getfield 21, 3) := by decide +kernel
theorem dX1_beginLike_13 : decode cX1_beginLike 13 = .ok (.putfield 21, 3) := by decide +kernel
theorem dX1_beginLike_16 : decode cX1_beginLike 16 = .ok (.aload_n 0, 1) := by decide +kernel
theorem dX1_beginLike_17 : decode cX1_beginLike 17 = .ok (.aload_n 1, 1) := by decide +kernel
theorem dX1_beginLike_18 : decode cX1_beginLike 18 = .ok (.getfield 24, 3) := by decide +kernel
theorem dX1_beginLike_21 : decode cX1_beginLike 21 = .ok (.putfield 24, 3) := by decide +kernel
theorem dX1_beginLike_24 : decode cX1_beginLike 24 = .ok (.aload_n 0, 1) := by decide +kernel
theorem dX1_beginLike_25 : decode cX1_beginLike 25 = .ok (.iconst 0, 1) := by decide +kernel
theorem dX1_beginLike_26 : decode cX1_beginLike 26 = .ok (.putfield 27, 3) := by decide +kernel
theorem dX1_beginLike_29 : decode cX1_beginLike 29 = .ok (.iconst 0, 1) := by decide +kernel
theorem dX1_beginLike_30 : decode cX1_beginLike 30 = .ok (.istore_n 2, 1) := by decide +kernel
theorem dX1_beginLike_31 : decode cX1_beginLike 31 = .ok (.iload_n 2, 1) := by decide +kernel
theorem dX1_beginLike_32 : decode cX1_beginLike 32 = .ok (.aload_n 0, 1) := by decide +kernel
theorem dX1_beginLike_33 : decode cX1_beginLike 33 = .ok (.getfield 17, 3) := by decide +kernel
theorem dX1_beginLike_36 : decode cX1_beginLike 36 = .ok (.if_icmp .ge 24, 3) := by decide +kernel
theorem dX1_beginLike_39 : decode cX1_beginLike 39 = .ok (.aload_n 0, 1) := by decide +kernel
theorem dX1_beginLike_40 : decode cX1_beginLike 40 = .ok (.getfield 11, 3) := by decide +kernel
theorem dX1_beginLike_43 : decode cX1_beginLike 43 = .ok (.iload_n 2, 1) := by decide +kernel
theorem dX1_beginLike_44 : decode cX1_beginLike 44 = .ok (.aaload, 1) := by decide +kernel
theorem dX1_beginLike_45 : decode cX1_beginLike 45 = .ok (.aload_n 1, 1) := by decide +kernel
theorem dX1_beginLike_46 : decode cX1_beginLike 46 = .ok (.getfield 11, 3) := by decide +kernel
theorem dX1_beginLike_49 : decode cX1_beginLike 49 = .ok (.iload_n 2, 1) := by decide +kernel
theorem dX1_beginLike_50 : decode cX1_beginLike 50 = .ok (.aaload, 1) := by decide +kernel
theorem dX1_beginLike_51 : decode cX1_beginLike 51 = .ok (.invokevirtual 40, 3) := by decide +kernel
theorem dX1_beginLike_54 : decode cX1_beginLike 54 = .ok (.iinc 2 1, 3) := by decide +kernel
theorem dX1_beginLike_57 : decode cX1_beginLike 57 = .ok (.goto (-26), 3) := by decide +kernel
theorem dX1_beginLike_60 : decode cX1_beginLike 60 = .ok (.iconst 0, 1) := by decide +kernel
theorem dX1_beginLike_61 : decode cX1_beginLike 61 = .ok (.istore_n 2, 1) := by decide +kernel
theorem dX1_beginLike_62 : decode cX1_beginLike 62 = .ok (.iload_n 2, 1) := by decide +kernel
theorem dX1_beginLike_63 : decode cX1_beginLike 63 = .ok (.bipush 6, 2) := by decide +kernel
theorem dX1_beginLike_65 : decode cX1_beginLike 65 = .ok (.if_icmp .ge 19, 3) := by decide +kernel
theorem dX1_beginLike_68 : decode cX1_beginLike 68 = .ok (.aload_n 0, 1) := by decide +kernel
theorem dX1_beginLike_69 : decode cX1_beginLike 69 = .ok (.getfield 32, 3) := by decide +kernel
theorem dX1_beginLike_72 : decode cX1_beginLike 72 = .ok (.iload_n 2, 1) := by decide +kernel
theorem dX1_beginLike_73 : decode cX1_beginLike 73 = .ok (.aaload, 1) := by decide +kernel
theorem dX1_beginLike_74 : decode cX1_beginLike 74 = .ok (.iconst 0, 1) := by decide +kernel
theorem dX1_beginLike_75 : decode cX1_beginLike 75 = .ok (.invokestatic 44, 3) := by decide +kernel
theorem dX1_beginLike_78 : decode cX1_beginLike 78 = .ok (.iinc 2 1, 3) := by decide +kernel
theorem dX1_beginLike_81 : decode cX1_beginLike 81 = .ok (.goto (-19), 3) := by decide +kernel
theorem dX1_beginLike_84 : decode cX1_beginLike 84 = .ok (.return_, 1) := by decide +kernel
theorem dX1_isFull_0 : decode cX1_isFull 0 = .ok (.aload_n 0, 1) := by decide +kernel
theorem dX1_isFull_1 : decode cX1_isFull 1 = .ok (.getfield 17, 3) := by decide +kernel
theorem dX1_isFull_4 : decode cX1_isFull 4 = .ok (.bipush 12, 2) := by decide +kernel
theorem dX1_isFull_6 : decode cX1_isFull 6 = .ok (.if_icmp .lt 7, 3) := by decide +kernel
theorem dX1_isFull_9 : decode cX1_isFull 9 = .ok (.iconst 1, 1) := by decide +kernel
theorem dX1_isFull_10 : decode cX1_isFull 10 = .ok (.goto 4, 3) := by decide +kernel
theorem dX1_isFull_13 : decode cX1_isFull 13 = .ok (.iconst 0, 1) := by decide +kernel
theorem dX1_isFull_14 : decode cX1_isFull 14 = .ok (.ireturn, 1) := by decide +kernel
theorem dX1_add_0 : decode cX1_add 0 = .ok (.aload_n 0, 1) := by decide +kernel
theorem dX1_add_1 : decode cX1_add 1 = .ok (.invokevirtual 50, 3) := by decide +kernel
theorem dX1_add_4 : decode cX1_add 4 = .ok (.ifCond .eq 4, 3) := by decide +kernel
theorem dX1_add_7 : decode cX1_add 7 = .ok (.return_, 1) := by decide +kernel
theorem dX1_add_8 : decode cX1_add 8 = .ok (.aload_n 0, 1) := by decide +kernel
theorem dX1_add_9 : decode cX1_add 9 = .ok (.getfield 11, 3) := by decide +kernel
theorem dX1_add_12 : decode cX1_add 12 = .ok (.aload_n 0, 1) := by decide +kernel
theorem dX1_add_13 : decode cX1_add 13 = .ok (.getfield 17, 3) := by decide +kernel
theorem dX1_add_16 : decode cX1_add 16 = .ok (.aaload, 1) := by decide +kernel
theorem dX1_add_17 : decode cX1_add 17 = .ok (.iload_n 1, 1) := by decide +kernel
theorem dX1_add_18 : decode cX1_add 18 = .ok (.aload_n 0, 1) := by decide +kernel
theorem dX1_add_19 : decode cX1_add 19 = .ok (.getfield 24, 3) := by decide +kernel
theorem dX1_add_22 : decode cX1_add 22 = .ok (.invokevirtual 54, 3) := by decide +kernel
theorem dX1_add_25 : decode cX1_add 25 = .ok (.aload_n 0, 1) := by decide +kernel
theorem dX1_add_26 : decode cX1_add 26 = .ok (.dup, 1) := by decide +kernel
theorem dX1_add_27 : decode cX1_add 27 = .ok (.getfield 24, 3) := by decide +kernel
theorem dX1_add_30 : decode cX1_add 30 = .ok (.iconst 1, 1) := by decide +kernel
theorem dX1_add_31 : decode cX1_add 31 = .ok (.iadd, 1) := by decide +kernel
theorem dX1_add_32 : decode cX1_add 32 = .ok (.putfield 24, 3) := by decide +kernel
theorem dX1_add_35 : decode cX1_add 35 = .ok (.aload_n 0, 1) := by decide +kernel
theorem dX1_add_36 : decode cX1_add 36 = .ok (.dup, 1) := by decide +kernel
theorem dX1_add_37 : decode cX1_add 37 = .ok (.getfield 17, 3) := by decide +kernel
theorem dX1_add_40 : decode cX1_add 40 = .ok (.iconst 1, 1) := by decide +kernel
theorem dX1_add_41 : decode cX1_add 41 = .ok (.iadd, 1) := by decide +kernel
theorem dX1_add_42 : decode cX1_add 42 = .ok (.putfield 17, 3) := by decide +kernel
theorem dX1_add_45 : decode cX1_add 45 = .ok (.return_, 1) := by decide +kernel
theorem dX1_total_0 : decode cX1_total 0 = .ok (.iconst 0, 1) := by decide +kernel
theorem dX1_total_1 : decode cX1_total 1 = .ok (.istore_n 2, 1) := by decide +kernel
theorem dX1_total_2 : decode cX1_total 2 = .ok (.iconst 0, 1) := by decide +kernel
theorem dX1_total_3 : decode cX1_total 3 = .ok (.istore_n 3, 1) := by decide +kernel
theorem dX1_total_4 : decode cX1_total 4 = .ok (.iload_n 3, 1) := by decide +kernel
theorem dX1_total_5 : decode cX1_total 5 = .ok (.iconst 4, 1) := by decide +kernel
theorem dX1_total_6 : decode cX1_total 6 = .ok (.if_icmp .ge 20, 3) := by decide +kernel
theorem dX1_total_9 : decode cX1_total 9 = .ok (.iload_n 2, 1) := by decide +kernel
theorem dX1_total_10 : decode cX1_total 10 = .ok (.aload_n 0, 1) := by decide +kernel
theorem dX1_total_11 : decode cX1_total 11 = .ok (.getfield 32, 3) := by decide +kernel
theorem dX1_total_14 : decode cX1_total 14 = .ok (.iload_n 1, 1) := by decide +kernel
theorem dX1_total_15 : decode cX1_total 15 = .ok (.aaload, 1) := by decide +kernel
theorem dX1_total_16 : decode cX1_total 16 = .ok (.iload_n 3, 1) := by decide +kernel
theorem dX1_total_17 : decode cX1_total 17 = .ok (.iaload, 1) := by decide +kernel
theorem dX1_total_18 : decode cX1_total 18 = .ok (.iadd, 1) := by decide +kernel
theorem dX1_total_19 : decode cX1_total 19 = .ok (.istore_n 2, 1) := by decide +kernel
theorem dX1_total_20 : decode cX1_total 20 = .ok (.iinc 3 1, 3) := by decide +kernel
theorem dX1_total_23 : decode cX1_total 23 = .ok (.goto (-19), 3) := by decide +kernel
theorem dX1_total_26 : decode cX1_total 26 = .ok (.iload_n 2, 1) := by decide +kernel
theorem dX1_total_27 : decode cX1_total 27 = .ok (.ireturn, 1) := by decide +kernel
theorem dX1_gained_0 : decode cX1_gained 0 = .ok (.aload_n 0, 1) := by decide +kernel
theorem dX1_gained_1 : decode cX1_gained 1 = .ok (.getfield 32, 3) := by decide +kernel
theorem dX1_gained_4 : decode cX1_gained 4 = .ok (.iconst 2, 1) := by decide +kernel
theorem dX1_gained_5 : decode cX1_gained 5 = .ok (.aaload, 1) := by decide +kernel
theorem dX1_gained_6 : decode cX1_gained 6 = .ok (.iload_n 1, 1) := by decide +kernel
theorem dX1_gained_7 : decode cX1_gained 7 = .ok (.iaload, 1) := by decide +kernel
theorem dX1_gained_8 : decode cX1_gained 8 = .ok (.aload_n 0, 1) := by decide +kernel
theorem dX1_gained_9 : decode cX1_gained 9 = .ok (.getfield 32, 3) := by decide +kernel
theorem dX1_gained_12 : decode cX1_gained 12 = .ok (.iconst 5, 1) := by decide +kernel
theorem dX1_gained_13 : decode cX1_gained 13 = .ok (.aaload, 1) := by decide +kernel
theorem dX1_gained_14 : decode cX1_gained 14 = .ok (.iload_n 1, 1) := by decide +kernel
theorem dX1_gained_15 : decode cX1_gained 15 = .ok (.iaload, 1) := by decide +kernel
theorem dX1_gained_16 : decode cX1_gained 16 = .ok (.isub, 1) := by decide +kernel
theorem dX1_gained_17 : decode cX1_gained 17 = .ok (.ireturn, 1) := by decide +kernel
theorem dX1_pass_0 : decode cX1_pass 0 = .ok (.iconst 0, 1) := by decide +kernel
theorem dX1_pass_1 : decode cX1_pass 1 = .ok (.istore_n 3, 1) := by decide +kernel
theorem dX1_pass_2 : decode cX1_pass 2 = .ok (.iload_n 3, 1) := by decide +kernel
theorem dX1_pass_3 : decode cX1_pass 3 = .ok (.iload_n 1, 1) := by decide +kernel
theorem dX1_pass_4 : decode cX1_pass 4 = .ok (.if_icmp .ge 84, 3) := by decide +kernel
theorem dX1_pass_7 : decode cX1_pass 7 = .ok (.aload_n 0, 1) := by decide +kernel
theorem dX1_pass_8 : decode cX1_pass 8 = .ok (.getfield 35, 3) := by decide +kernel
theorem dX1_pass_11 : decode cX1_pass 11 = .ok (.getfield 58, 3) := by decide +kernel
theorem dX1_pass_14 : decode cX1_pass 14 = .ok (.aload_n 0, 1) := by decide +kernel
theorem dX1_pass_15 : decode cX1_pass 15 = .ok (.getfield 21, 3) := by decide +kernel
theorem dX1_pass_18 : decode cX1_pass 18 = .ok (.invokevirtual 64, 3) := by decide +kernel
theorem dX1_pass_21 : decode cX1_pass 21 = .ok (.istore 4, 2) := by decide +kernel
theorem dX1_pass_23 : decode cX1_pass 23 = .ok (.iload 4, 2) := by decide +kernel
theorem dX1_pass_25 : decode cX1_pass 25 = .ok (.iconst (-1), 1) := by decide +kernel
theorem dX1_pass_26 : decode cX1_pass 26 = .ok (.if_icmp .eq 10, 3) := by decide +kernel
theorem dX1_pass_29 : decode cX1_pass 29 = .ok (.aload_n 0, 1) := by decide +kernel
theorem dX1_pass_30 : decode cX1_pass 30 = .ok (.iload 4, 2) := by decide +kernel
theorem dX1_pass_32 : decode cX1_pass 32 = .ok (.aload_n 2, 1) := by decide +kernel
theorem dX1_pass_33 : decode cX1_pass 33 = .ok (.invokevirtual 70, 3) := by decide +kernel
theorem dX1_pass_36 : decode cX1_pass 36 = .ok (.aload_n 0, 1) := by decide +kernel
theorem dX1_pass_37 : decode cX1_pass 37 = .ok (.getfield 35, 3) := by decide +kernel
theorem dX1_pass_40 : decode cX1_pass 40 = .ok (.getfield 74, 3) := by decide +kernel
theorem dX1_pass_43 : decode cX1_pass 43 = .ok (.aload_n 0, 1) := by decide +kernel
theorem dX1_pass_44 : decode cX1_pass 44 = .ok (.getfield 21, 3) := by decide +kernel
theorem dX1_pass_47 : decode cX1_pass 47 = .ok (.invokevirtual 64, 3) := by decide +kernel
theorem dX1_pass_50 : decode cX1_pass 50 = .ok (.istore 5, 2) := by decide +kernel
theorem dX1_pass_52 : decode cX1_pass 52 = .ok (.iload 5, 2) := by decide +kernel
theorem dX1_pass_54 : decode cX1_pass 54 = .ok (.iconst (-1), 1) := by decide +kernel
theorem dX1_pass_55 : decode cX1_pass 55 = .ok (.if_icmp .eq 9, 3) := by decide +kernel
theorem dX1_pass_58 : decode cX1_pass 58 = .ok (.aload_n 0, 1) := by decide +kernel
theorem dX1_pass_59 : decode cX1_pass 59 = .ok (.iload 5, 2) := by decide +kernel
theorem dX1_pass_61 : decode cX1_pass 61 = .ok (.invokevirtual 77, 3) := by decide +kernel
theorem dX1_pass_64 : decode cX1_pass 64 = .ok (.aload_n 0, 1) := by decide +kernel
theorem dX1_pass_65 : decode cX1_pass 65 = .ok (.aload_n 2, 1) := by decide +kernel
theorem dX1_pass_66 : decode cX1_pass 66 = .ok (.getfield 81, 3) := by decide +kernel
theorem dX1_pass_69 : decode cX1_pass 69 = .ok (.invokevirtual 86, 3) := by decide +kernel
theorem dX1_pass_72 : decode cX1_pass 72 = .ok (.aload_n 0, 1) := by decide +kernel
theorem dX1_pass_73 : decode cX1_pass 73 = .ok (.dup, 1) := by decide +kernel
theorem dX1_pass_74 : decode cX1_pass 74 = .ok (.getfield 21, 3) := by decide +kernel
theorem dX1_pass_77 : decode cX1_pass 77 = .ok (.iconst 1, 1) := by decide +kernel
theorem dX1_pass_78 : decode cX1_pass 78 = .ok (.iadd, 1) := by decide +kernel
theorem dX1_pass_79 : decode cX1_pass 79 = .ok (.putfield 21, 3) := by decide +kernel
theorem dX1_pass_82 : decode cX1_pass 82 = .ok (.iinc 3 1, 3) := by decide +kernel
theorem dX1_pass_85 : decode cX1_pass 85 = .ok (.goto (-83), 3) := by decide +kernel
theorem dX1_pass_88 : decode cX1_pass 88 = .ok (.return_, 1) := by decide +kernel
theorem dX1_stand_0 : decode cX1_stand 0 = .ok (.iconst 1, 1) := by decide +kernel
theorem dX1_stand_1 : decode cX1_stand 1 = .ok (.istore_n 2, 1) := by decide +kernel
theorem dX1_stand_2 : decode cX1_stand 2 = .ok (.iload_n 2, 1) := by decide +kernel
theorem dX1_stand_3 : decode cX1_stand 3 = .ok (.aload_n 0, 1) := by decide +kernel
theorem dX1_stand_4 : decode cX1_stand 4 = .ok (.getfield 17, 3) := by decide +kernel
theorem dX1_stand_7 : decode cX1_stand 7 = .ok (.if_icmp .ge 72, 3) := by decide +kernel
theorem dX1_stand_10 : decode cX1_stand 10 = .ok (.aload_n 0, 1) := by decide +kernel
theorem dX1_stand_11 : decode cX1_stand 11 = .ok (.getfield 11, 3) := by decide +kernel
theorem dX1_stand_14 : decode cX1_stand 14 = .ok (.iload_n 2, 1) := by decide +kernel
theorem dX1_stand_15 : decode cX1_stand 15 = .ok (.aaload, 1) := by decide +kernel
theorem dX1_stand_16 : decode cX1_stand 16 = .ok (.astore_n 3, 1) := by decide +kernel
theorem dX1_stand_17 : decode cX1_stand 17 = .ok (.iload_n 2, 1) := by decide +kernel
theorem dX1_stand_18 : decode cX1_stand 18 = .ok (.istore 4, 2) := by decide +kernel
theorem dX1_stand_20 : decode cX1_stand 20 = .ok (.iload 4, 2) := by decide +kernel
theorem dX1_stand_22 : decode cX1_stand 22 = .ok (.ifCond .le 43, 3) := by decide +kernel
theorem dX1_stand_25 : decode cX1_stand 25 = .ok (.aload_n 0, 1) := by decide +kernel
theorem dX1_stand_26 : decode cX1_stand 26 = .ok (.aload_n 3, 1) := by decide +kernel
theorem dX1_stand_27 : decode cX1_stand 27 = .ok (.aload_n 0, 1) := by decide +kernel
theorem dX1_stand_28 : decode cX1_stand 28 = .ok (.getfield 11, 3) := by decide +kernel
theorem dX1_stand_31 : decode cX1_stand 31 = .ok (.iload 4, 2) := by decide +kernel
theorem dX1_stand_33 : decode cX1_stand 33 = .ok (.iconst 1, 1) := by decide +kernel
theorem dX1_stand_34 : decode cX1_stand 34 = .ok (.isub, 1) := by decide +kernel
theorem dX1_stand_35 : decode cX1_stand 35 = .ok (.aaload, 1) := by decide +kernel
theorem dX1_stand_36 : decode cX1_stand 36 = .ok (.iload_n 1, 1) := by decide +kernel
theorem dX1_stand_37 : decode cX1_stand 37 = .ok (.invokevirtual 89, 3) := by decide +kernel
theorem dX1_stand_40 : decode cX1_stand 40 = .ok (.ifCond .eq 25, 3) := by decide +kernel
theorem dX1_stand_43 : decode cX1_stand 43 = .ok (.aload_n 0, 1) := by decide +kernel
theorem dX1_stand_44 : decode cX1_stand 44 = .ok (.getfield 11, 3) := by decide +kernel
theorem dX1_stand_47 : decode cX1_stand 47 = .ok (.iload 4, 2) := by decide +kernel
theorem dX1_stand_49 : decode cX1_stand 49 = .ok (.aload_n 0, 1) := by decide +kernel
theorem dX1_stand_50 : decode cX1_stand 50 = .ok (.getfield 11, 3) := by decide +kernel
theorem dX1_stand_53 : decode cX1_stand 53 = .ok (.iload 4, 2) := by decide +kernel
theorem dX1_stand_55 : decode cX1_stand 55 = .ok (.iconst 1, 1) := by decide +kernel
theorem dX1_stand_56 : decode cX1_stand 56 = .ok (.isub, 1) := by decide +kernel
theorem dX1_stand_57 : decode cX1_stand 57 = .ok (.aaload, 1) := by decide +kernel
theorem dX1_stand_58 : decode cX1_stand 58 = .ok (.aastore, 1) := by decide +kernel
theorem dX1_stand_59 : decode cX1_stand 59 = .ok (.iinc 4 (-1), 3) := by decide +kernel
theorem dX1_stand_62 : decode cX1_stand 62 = .ok (.goto (-42), 3) := by decide +kernel
theorem dX1_stand_65 : decode cX1_stand 65 = .ok (.aload_n 0, 1) := by decide +kernel
theorem dX1_stand_66 : decode cX1_stand 66 = .ok (.getfield 11, 3) := by decide +kernel
theorem dX1_stand_69 : decode cX1_stand 69 = .ok (.iload 4, 2) := by decide +kernel
theorem dX1_stand_71 : decode cX1_stand 71 = .ok (.aload_n 3, 1) := by decide +kernel
theorem dX1_stand_72 : decode cX1_stand 72 = .ok (.aastore, 1) := by decide +kernel
theorem dX1_stand_73 : decode cX1_stand 73 = .ok (.iinc 2 1, 3) := by decide +kernel
theorem dX1_stand_76 : decode cX1_stand 76 = .ok (.goto (-74), 3) := by decide +kernel
theorem dX1_stand_79 : decode cX1_stand 79 = .ok (.return_, 1) := by decide +kernel
theorem dX1_isAhead_0 : decode cX1_isAhead 0 = .ok (.iconst 0, 1) := by decide +kernel
theorem dX1_isAhead_1 : decode cX1_isAhead 1 = .ok (.istore 4, 2) := by decide +kernel
theorem dX1_isAhead_3 : decode cX1_isAhead 3 = .ok (.iload_n 3, 1) := by decide +kernel
theorem dX1_isAhead_4 : decode cX1_isAhead 4 = .ok (.iconst 1, 1) := by decide +kernel
theorem dX1_isAhead_5 : decode cX1_isAhead 5 = .ok (.if_icmp .ne 30, 3) := by decide +kernel
theorem dX1_isAhead_8 : decode cX1_isAhead 8 = .ok (.aload_n 0, 1) := by decide +kernel
theorem dX1_isAhead_9 : decode cX1_isAhead 9 = .ok (.getfield 35, 3) := by decide +kernel
theorem dX1_isAhead_12 : decode cX1_isAhead 12 = .ok (.getfield 93, 3) := by decide +kernel
theorem dX1_isAhead_15 : decode cX1_isAhead 15 = .ok (.aload_n 1, 1) := by decide +kernel
theorem dX1_isAhead_16 : decode cX1_isAhead 16 = .ok (.getfield 97, 3) := by decide +kernel
theorem dX1_isAhead_19 : decode cX1_isAhead 19 = .ok (.iaload, 1) := by decide +kernel
theorem dX1_isAhead_20 : decode cX1_isAhead 20 = .ok (.aload_n 0, 1) := by decide +kernel
theorem dX1_isAhead_21 : decode cX1_isAhead 21 = .ok (.getfield 35, 3) := by decide +kernel
theorem dX1_isAhead_24 : decode cX1_isAhead 24 = .ok (.getfield 93, 3) := by decide +kernel
theorem dX1_isAhead_27 : decode cX1_isAhead 27 = .ok (.aload_n 2, 1) := by decide +kernel
theorem dX1_isAhead_28 : decode cX1_isAhead 28 = .ok (.getfield 97, 3) := by decide +kernel
theorem dX1_isAhead_31 : decode cX1_isAhead 31 = .ok (.iaload, 1) := by decide +kernel
theorem dX1_isAhead_32 : decode cX1_isAhead 32 = .ok (.isub, 1) := by decide +kernel
theorem dX1_isAhead_33 : decode cX1_isAhead 33 = .ok (.istore 4, 2) := by decide +kernel
theorem dX1_isAhead_35 : decode cX1_isAhead 35 = .ok (.iload_n 3, 1) := by decide +kernel
theorem dX1_isAhead_36 : decode cX1_isAhead 36 = .ok (.iconst 2, 1) := by decide +kernel
theorem dX1_isAhead_37 : decode cX1_isAhead 37 = .ok (.if_icmp .ne 14, 3) := by decide +kernel
theorem dX1_isAhead_40 : decode cX1_isAhead 40 = .ok (.aload_n 1, 1) := by decide +kernel
theorem dX1_isAhead_41 : decode cX1_isAhead 41 = .ok (.getfield 100, 3) := by decide +kernel
theorem dX1_isAhead_44 : decode cX1_isAhead 44 = .ok (.aload_n 2, 1) := by decide +kernel
theorem dX1_isAhead_45 : decode cX1_isAhead 45 = .ok (.getfield 100, 3) := by decide +kernel
theorem dX1_isAhead_48 : decode cX1_isAhead 48 = .ok (.isub, 1) := by decide +kernel
theorem dX1_isAhead_49 : decode cX1_isAhead 49 = .ok (.istore 4, 2) := by decide +kernel
theorem dX1_isAhead_51 : decode cX1_isAhead 51 = .ok (.iload 4, 2) := by decide +kernel
theorem dX1_isAhead_53 : decode cX1_isAhead 53 = .ok (.ifCond .gt 19, 3) := by decide +kernel
theorem dX1_isAhead_56 : decode cX1_isAhead 56 = .ok (.iload 4, 2) := by decide +kernel
theorem dX1_isAhead_58 : decode cX1_isAhead 58 = .ok (.ifCond .ne 18, 3) := by decide +kernel
theorem dX1_isAhead_61 : decode cX1_isAhead 61 = .ok (.aload_n 1, 1) := by decide +kernel
theorem dX1_isAhead_62 : decode cX1_isAhead 62 = .ok (.getfield 103, 3) := by decide +kernel
theorem dX1_isAhead_65 : decode cX1_isAhead 65 = .ok (.aload_n 2, 1) := by decide +kernel
theorem dX1_isAhead_66 : decode cX1_isAhead 66 = .ok (.getfield 103, 3) := by decide +kernel
theorem dX1_isAhead_69 : decode cX1_isAhead 69 = .ok (.if_icmp .ge 7, 3) := by decide +kernel
theorem dX1_isAhead_72 : decode cX1_isAhead 72 = .ok (.iconst 1, 1) := by decide +kernel
theorem dX1_isAhead_73 : decode cX1_isAhead 73 = .ok (.goto 4, 3) := by decide +kernel
theorem dX1_isAhead_76 : decode cX1_isAhead 76 = .ok (.iconst 0, 1) := by decide +kernel
theorem dX1_isAhead_77 : decode cX1_isAhead 77 = .ok (.ireturn, 1) := by decide +kernel
theorem dX1_offer_0 : decode cX1_offer 0 = .ok (.aload_n 0, 1) := by decide +kernel
theorem dX1_offer_1 : decode cX1_offer 1 = .ok (.aload_n 2, 1) := by decide +kernel
theorem dX1_offer_2 : decode cX1_offer 2 = .ok (.getfield 106, 3) := by decide +kernel
theorem dX1_offer_5 : decode cX1_offer 5 = .ok (.invokevirtual 109, 3) := by decide +kernel
theorem dX1_offer_8 : decode cX1_offer 8 = .ok (.iconst 0, 1) := by decide +kernel
theorem dX1_offer_9 : decode cX1_offer 9 = .ok (.istore_n 3, 1) := by decide +kernel
theorem dX1_offer_10 : decode cX1_offer 10 = .ok (.iconst 0, 1) := by decide +kernel
theorem dX1_offer_11 : decode cX1_offer 11 = .ok (.istore 4, 2) := by decide +kernel
theorem dX1_offer_13 : decode cX1_offer 13 = .ok (.iconst 0, 1) := by decide +kernel
theorem dX1_offer_14 : decode cX1_offer 14 = .ok (.istore 5, 2) := by decide +kernel
theorem dX1_offer_16 : decode cX1_offer 16 = .ok (.iload 5, 2) := by decide +kernel
theorem dX1_offer_18 : decode cX1_offer 18 = .ok (.aload_n 0, 1) := by decide +kernel
theorem dX1_offer_19 : decode cX1_offer 19 = .ok (.getfield 17, 3) := by decide +kernel
theorem dX1_offer_22 : decode cX1_offer 22 = .ok (.if_icmp .ge 118, 3) := by decide +kernel
theorem dX1_offer_25 : decode cX1_offer 25 = .ok (.aload_n 0, 1) := by decide +kernel
theorem dX1_offer_26 : decode cX1_offer 26 = .ok (.getfield 11, 3) := by decide +kernel
theorem dX1_offer_29 : decode cX1_offer 29 = .ok (.iload 5, 2) := by decide +kernel
theorem dX1_offer_31 : decode cX1_offer 31 = .ok (.aaload, 1) := by decide +kernel
theorem dX1_offer_32 : decode cX1_offer 32 = .ok (.astore 6, 2) := by decide +kernel
theorem dX1_offer_34 : decode cX1_offer 34 = .ok (.iconst 0, 1) := by decide +kernel
theorem dX1_offer_35 : decode cX1_offer 35 = .ok (.istore 7, 2) := by decide +kernel
theorem dX1_offer_37 : decode cX1_offer 37 = .ok (.iload_n 3, 1) := by decide +kernel
theorem dX1_offer_38 : decode cX1_offer 38 = .ok (.ifCond .ne 65, 3) := by decide +kernel
theorem dX1_offer_41 : decode cX1_offer 41 = .ok (.aload_n 2, 1) := by decide +kernel
theorem dX1_offer_42 : decode cX1_offer 42 = .ok (.aload 6, 2) := by decide +kernel
theorem dX1_offer_44 : decode cX1_offer 44 = .ok (.getfield 97, 3) := by decide +kernel
theorem dX1_offer_47 : decode cX1_offer 47 = .ok (.aload_n 0, 1) := by decide +kernel
theorem dX1_offer_48 : decode cX1_offer 48 = .ok (.getfield 35, 3) := by decide +kernel
theorem dX1_offer_51 : decode cX1_offer 51 = .ok (.getfield 112, 3) := by decide +kernel
theorem dX1_offer_54 : decode cX1_offer 54 = .ok (.aload 6, 2) := by decide +kernel
theorem dX1_offer_56 : decode cX1_offer 56 = .ok (.getfield 97, 3) := by decide +kernel
theorem dX1_offer_59 : decode cX1_offer 59 = .ok (.aaload, 1) := by decide +kernel
theorem dX1_offer_60 : decode cX1_offer 60 = .ok (.iload_n 1, 1) := by decide +kernel
theorem dX1_offer_61 : decode cX1_offer 61 = .ok (.iaload, 1) := by decide +kernel
theorem dX1_offer_62 : decode cX1_offer 62 = .ok (.aload 6, 2) := by decide +kernel
theorem dX1_offer_64 : decode cX1_offer 64 = .ok (.getfield 115, 3) := by decide +kernel
theorem dX1_offer_67 : decode cX1_offer 67 = .ok (.invokevirtual 118, 3) := by decide +kernel
theorem dX1_offer_70 : decode cX1_offer 70 = .ok (.istore_n 3, 1) := by decide +kernel
theorem dX1_offer_71 : decode cX1_offer 71 = .ok (.iload_n 3, 1) := by decide +kernel
theorem dX1_offer_72 : decode cX1_offer 72 = .ok (.ifCond .ne 13, 3) := by decide +kernel
theorem dX1_offer_75 : decode cX1_offer 75 = .ok (.aload_n 0, 1) := by decide +kernel
theorem dX1_offer_76 : decode cX1_offer 76 = .ok (.aload 6, 2) := by decide +kernel
theorem dX1_offer_78 : decode cX1_offer 78 = .ok (.aload_n 2, 1) := by decide +kernel
theorem dX1_offer_79 : decode cX1_offer 79 = .ok (.invokevirtual 122, 3) := by decide +kernel
theorem dX1_offer_82 : decode cX1_offer 82 = .ok (.ifCond .eq 7, 3) := by decide +kernel
theorem dX1_offer_85 : decode cX1_offer 85 = .ok (.iconst 1, 1) := by decide +kernel
theorem dX1_offer_86 : decode cX1_offer 86 = .ok (.goto 4, 3) := by decide +kernel
theorem dX1_offer_89 : decode cX1_offer 89 = .ok (.iconst 0, 1) := by decide +kernel
theorem dX1_offer_90 : decode cX1_offer 90 = .ok (.istore 7, 2) := by decide +kernel
theorem dX1_offer_92 : decode cX1_offer 92 = .ok (.iload_n 3, 1) := by decide +kernel
theorem dX1_offer_93 : decode cX1_offer 93 = .ok (.ifCond .eq 10, 3) := by decide +kernel
theorem dX1_offer_96 : decode cX1_offer 96 = .ok (.aload_n 0, 1) := by decide +kernel
theorem dX1_offer_97 : decode cX1_offer 97 = .ok (.aload 6, 2) := by decide +kernel
theorem dX1_offer_99 : decode cX1_offer 99 = .ok (.iload_n 1, 1) := by decide +kernel
theorem dX1_offer_100 : decode cX1_offer 100 = .ok (.invokevirtual 126, 3) := by decide +kernel
theorem dX1_offer_103 : decode cX1_offer 103 = .ok (.iload 7, 2) := by decide +kernel
theorem dX1_offer_105 : decode cX1_offer 105 = .ok (.ifCond .ne 29, 3) := by decide +kernel
theorem dX1_offer_108 : decode cX1_offer 108 = .ok (.aload_n 0, 1) := by decide +kernel
theorem dX1_offer_109 : decode cX1_offer 109 = .ok (.getfield 11, 3) := by decide +kernel
theorem dX1_offer_112 : decode cX1_offer 112 = .ok (.iload 5, 2) := by decide +kernel
theorem dX1_offer_114 : decode cX1_offer 114 = .ok (.aload_n 0, 1) := by decide +kernel
theorem dX1_offer_115 : decode cX1_offer 115 = .ok (.getfield 11, 3) := by decide +kernel
theorem dX1_offer_118 : decode cX1_offer 118 = .ok (.iload 4, 2) := by decide +kernel
theorem dX1_offer_120 : decode cX1_offer 120 = .ok (.aaload, 1) := by decide +kernel
theorem dX1_offer_121 : decode cX1_offer 121 = .ok (.aastore, 1) := by decide +kernel
theorem dX1_offer_122 : decode cX1_offer 122 = .ok (.aload_n 0, 1) := by decide +kernel
theorem dX1_offer_123 : decode cX1_offer 123 = .ok (.getfield 11, 3) := by decide +kernel
theorem dX1_offer_126 : decode cX1_offer 126 = .ok (.iload 4, 2) := by decide +kernel
theorem dX1_offer_128 : decode cX1_offer 128 = .ok (.aload 6, 2) := by decide +kernel
theorem dX1_offer_130 : decode cX1_offer 130 = .ok (.aastore, 1) := by decide +kernel
theorem dX1_offer_131 : decode cX1_offer 131 = .ok (.iinc 4 1, 3) := by decide +kernel
theorem dX1_offer_134 : decode cX1_offer 134 = .ok (.iinc 5 1, 3) := by decide +kernel
theorem dX1_offer_137 : decode cX1_offer 137 = .ok (.goto (-121), 3) := by decide +kernel
theorem dX1_offer_140 : decode cX1_offer 140 = .ok (.aload_n 0, 1) := by decide +kernel
theorem dX1_offer_141 : decode cX1_offer 141 = .ok (.iload 4, 2) := by decide +kernel
theorem dX1_offer_143 : decode cX1_offer 143 = .ok (.putfield 17, 3) := by decide +kernel
theorem dX1_offer_146 : decode cX1_offer 146 = .ok (.iload_n 3, 1) := by decide +kernel
theorem dX1_offer_147 : decode cX1_offer 147 = .ok (.ifCond .ne 13, 3) := by decide +kernel
theorem dX1_offer_150 : decode cX1_offer 150 = .ok (.aload_n 0, 1) := by decide +kernel
theorem dX1_offer_151 : decode cX1_offer 151 = .ok (.dup, 1) := by decide +kernel
theorem dX1_offer_152 : decode cX1_offer 152 = .ok (.getfield 27, 3) := by decide +kernel
theorem dX1_offer_155 : decode cX1_offer 155 = .ok (.iconst 1, 1) := by decide +kernel
theorem dX1_offer_156 : decode cX1_offer 156 = .ok (.iadd, 1) := by decide +kernel
theorem dX1_offer_157 : decode cX1_offer 157 = .ok (.putfield 27, 3) := by decide +kernel
theorem dX1_offer_160 : decode cX1_offer 160 = .ok (.return_, 1) := by decide +kernel
theorem dX1_house_0 : decode cX1_house 0 = .ok (.aload_n 0, 1) := by decide +kernel
theorem dX1_house_1 : decode cX1_house 1 = .ok (.getfield 32, 3) := by decide +kernel
theorem dX1_house_4 : decode cX1_house 4 = .ok (.iconst 0, 1) := by decide +kernel
theorem dX1_house_5 : decode cX1_house 5 = .ok (.aaload, 1) := by decide +kernel
theorem dX1_house_6 : decode cX1_house 6 = .ok (.aload_n 1, 1) := by decide +kernel
theorem dX1_house_7 : decode cX1_house 7 = .ok (.getfield 97, 3) := by decide +kernel
theorem dX1_house_10 : decode cX1_house 10 = .ok (.dup2, 1) := by decide +kernel
theorem dX1_house_11 : decode cX1_house 11 = .ok (.iaload, 1) := by decide +kernel
theorem dX1_house_12 : decode cX1_house 12 = .ok (.iconst 1, 1) := by decide +kernel
theorem dX1_house_13 : decode cX1_house 13 = .ok (.iadd, 1) := by decide +kernel
theorem dX1_house_14 : decode cX1_house 14 = .ok (.iastore, 1) := by decide +kernel
theorem dX1_house_15 : decode cX1_house 15 = .ok (.aload_n 0, 1) := by decide +kernel
theorem dX1_house_16 : decode cX1_house 16 = .ok (.getfield 32, 3) := by decide +kernel
theorem dX1_house_19 : decode cX1_house 19 = .ok (.iconst 1, 1) := by decide +kernel
theorem dX1_house_20 : decode cX1_house 20 = .ok (.aaload, 1) := by decide +kernel
theorem dX1_house_21 : decode cX1_house 21 = .ok (.aload_n 1, 1) := by decide +kernel
theorem dX1_house_22 : decode cX1_house 22 = .ok (.getfield 97, 3) := by decide +kernel
theorem dX1_house_25 : decode cX1_house 25 = .ok (.dup2, 1) := by decide +kernel
theorem dX1_house_26 : decode cX1_house 26 = .ok (.iaload, 1) := by decide +kernel
theorem dX1_house_27 : decode cX1_house 27 = .ok (.aload_n 1, 1) := by decide +kernel
theorem dX1_house_28 : decode cX1_house 28 = .ok (.getfield 115, 3) := by decide +kernel
theorem dX1_house_31 : decode cX1_house 31 = .ok (.iadd, 1) := by decide +kernel
theorem dX1_house_32 : decode cX1_house 32 = .ok (.iastore, 1) := by decide +kernel
theorem dX1_house_33 : decode cX1_house 33 = .ok (.aload_n 0, 1) := by decide +kernel
theorem dX1_house_34 : decode cX1_house 34 = .ok (.getfield 32, 3) := by decide +kernel
theorem dX1_house_37 : decode cX1_house 37 = .ok (.iconst 2, 1) := by decide +kernel
theorem dX1_house_38 : decode cX1_house 38 = .ok (.aaload, 1) := by decide +kernel
theorem dX1_house_39 : decode cX1_house 39 = .ok (.aload_n 1, 1) := by decide +kernel
theorem dX1_house_40 : decode cX1_house 40 = .ok (.getfield 97, 3) := by decide +kernel
theorem dX1_house_43 : decode cX1_house 43 = .ok (.dup2, 1) := by decide +kernel
theorem dX1_house_44 : decode cX1_house 44 = .ok (.iaload, 1) := by decide +kernel
theorem dX1_house_45 : decode cX1_house 45 = .ok (.aload_n 0, 1) := by decide +kernel
theorem dX1_house_46 : decode cX1_house 46 = .ok (.getfield 35, 3) := by decide +kernel
theorem dX1_house_49 : decode cX1_house 49 = .ok (.getfield 112, 3) := by decide +kernel
theorem dX1_house_52 : decode cX1_house 52 = .ok (.aload_n 1, 1) := by decide +kernel
theorem dX1_house_53 : decode cX1_house 53 = .ok (.getfield 97, 3) := by decide +kernel
theorem dX1_house_56 : decode cX1_house 56 = .ok (.aaload, 1) := by decide +kernel
theorem dX1_house_57 : decode cX1_house 57 = .ok (.iload_n 2, 1) := by decide +kernel
theorem dX1_house_58 : decode cX1_house 58 = .ok (.iaload, 1) := by decide +kernel
theorem dX1_house_59 : decode cX1_house 59 = .ok (.iadd, 1) := by decide +kernel
theorem dX1_house_60 : decode cX1_house 60 = .ok (.iastore, 1) := by decide +kernel
theorem dX1_house_61 : decode cX1_house 61 = .ok (.return_, 1) := by decide +kernel
theorem dX1_sayNo_0 : decode cX1_sayNo 0 = .ok (.aload_n 1, 1) := by decide +kernel
theorem dX1_sayNo_1 : decode cX1_sayNo 1 = .ok (.dup, 1) := by decide +kernel
theorem dX1_sayNo_2 : decode cX1_sayNo 2 = .ok (.getfield 130, 3) := by decide +kernel
theorem dX1_sayNo_5 : decode cX1_sayNo 5 = .ok (.iconst 1, 1) := by decide +kernel
theorem dX1_sayNo_6 : decode cX1_sayNo 6 = .ok (.iadd, 1) := by decide +kernel
theorem dX1_sayNo_7 : decode cX1_sayNo 7 = .ok (.putfield 130, 3) := by decide +kernel
theorem dX1_sayNo_10 : decode cX1_sayNo 10 = .ok (.aload_n 1, 1) := by decide +kernel
theorem dX1_sayNo_11 : decode cX1_sayNo 11 = .ok (.getfield 130, 3) := by decide +kernel
theorem dX1_sayNo_14 : decode cX1_sayNo 14 = .ok (.aload_n 2, 1) := by decide +kernel
theorem dX1_sayNo_15 : decode cX1_sayNo 15 = .ok (.getfield 133, 3) := by decide +kernel
theorem dX1_sayNo_18 : decode cX1_sayNo 18 = .ok (.if_icmp .gt 5, 3) := by decide +kernel
theorem dX1_sayNo_21 : decode cX1_sayNo 21 = .ok (.iconst 0, 1) := by decide +kernel
theorem dX1_sayNo_22 : decode cX1_sayNo 22 = .ok (.ireturn, 1) := by decide +kernel
theorem dX1_sayNo_23 : decode cX1_sayNo 23 = .ok (.aload_n 2, 1) := by decide +kernel
theorem dX1_sayNo_24 : decode cX1_sayNo 24 = .ok (.getfield 134, 3) := by decide +kernel
theorem dX1_sayNo_27 : decode cX1_sayNo 27 = .ok (.ifCond .ne 20, 3) := by decide +kernel
theorem dX1_sayNo_30 : decode cX1_sayNo 30 = .ok (.aload_n 0, 1) := by decide +kernel
theorem dX1_sayNo_31 : decode cX1_sayNo 31 = .ok (.getfield 32, 3) := by decide +kernel
theorem dX1_sayNo_34 : decode cX1_sayNo 34 = .ok (.iconst 3, 1) := by decide +kernel
theorem dX1_sayNo_35 : decode cX1_sayNo 35 = .ok (.aaload, 1) := by decide +kernel
theorem dX1_sayNo_36 : decode cX1_sayNo 36 = .ok (.aload_n 1, 1) := by decide +kernel
theorem dX1_sayNo_37 : decode cX1_sayNo 37 = .ok (.getfield 97, 3) := by decide +kernel
theorem dX1_sayNo_40 : decode cX1_sayNo 40 = .ok (.dup2, 1) := by decide +kernel
theorem dX1_sayNo_41 : decode cX1_sayNo 41 = .ok (.iaload, 1) := by decide +kernel
theorem dX1_sayNo_42 : decode cX1_sayNo 42 = .ok (.iconst 1, 1) := by decide +kernel
theorem dX1_sayNo_43 : decode cX1_sayNo 43 = .ok (.iadd, 1) := by decide +kernel
theorem dX1_sayNo_44 : decode cX1_sayNo 44 = .ok (.iastore, 1) := by decide +kernel
theorem dX1_sayNo_45 : decode cX1_sayNo 45 = .ok (.iconst 1, 1) := by decide +kernel
theorem dX1_sayNo_46 : decode cX1_sayNo 46 = .ok (.ireturn, 1) := by decide +kernel
theorem dX1_sayNo_47 : decode cX1_sayNo 47 = .ok (.aload_n 2, 1) := by decide +kernel
theorem dX1_sayNo_48 : decode cX1_sayNo 48 = .ok (.getfield 134, 3) := by decide +kernel
theorem dX1_sayNo_51 : decode cX1_sayNo 51 = .ok (.iconst 1, 1) := by decide +kernel
theorem dX1_sayNo_52 : decode cX1_sayNo 52 = .ok (.if_icmp .ne 31, 3) := by decide +kernel
theorem dX1_sayNo_55 : decode cX1_sayNo 55 = .ok (.aload_n 1, 1) := by decide +kernel
theorem dX1_sayNo_56 : decode cX1_sayNo 56 = .ok (.aload_n 0, 1) := by decide +kernel
theorem dX1_sayNo_57 : decode cX1_sayNo 57 = .ok (.getfield 24, 3) := by decide +kernel
theorem dX1_sayNo_60 : decode cX1_sayNo 60 = .ok (.putfield 103, 3) := by decide +kernel
theorem dX1_sayNo_63 : decode cX1_sayNo 63 = .ok (.aload_n 0, 1) := by decide +kernel
theorem dX1_sayNo_64 : decode cX1_sayNo 64 = .ok (.dup, 1) := by decide +kernel
theorem dX1_sayNo_65 : decode cX1_sayNo 65 = .ok (.getfield 24, 3) := by decide +kernel
theorem dX1_sayNo_68 : decode cX1_sayNo 68 = .ok (.iconst 1, 1) := by decide +kernel
theorem dX1_sayNo_69 : decode cX1_sayNo 69 = .ok (.iadd, 1) := by decide +kernel
theorem dX1_sayNo_70 : decode cX1_sayNo 70 = .ok (.putfield 24, 3) := by decide +kernel
theorem dX1_sayNo_73 : decode cX1_sayNo 73 = .ok (.aload_n 1, 1) := by decide +kernel
theorem dX1_sayNo_74 : decode cX1_sayNo 74 = .ok (.iconst 0, 1) := by decide +kernel
theorem dX1_sayNo_75 : decode cX1_sayNo 75 = .ok (.putfield 100, 3) := by decide +kernel
theorem dX1_sayNo_78 : decode cX1_sayNo 78 = .ok (.aload_n 1, 1) := by decide +kernel
theorem dX1_sayNo_79 : decode cX1_sayNo 79 = .ok (.iconst 0, 1) := by decide +kernel
theorem dX1_sayNo_80 : decode cX1_sayNo 80 = .ok (.putfield 130, 3) := by decide +kernel
theorem dX1_sayNo_83 : decode cX1_sayNo 83 = .ok (.iconst 0, 1) := by decide +kernel
theorem dX1_sayNo_84 : decode cX1_sayNo 84 = .ok (.ireturn, 1) := by decide +kernel
theorem dX1_arrive_0 : decode cX1_arrive 0 = .ok (.aload_n 0, 1) := by decide +kernel
theorem dX1_arrive_1 : decode cX1_arrive 1 = .ok (.invokevirtual 50, 3) := by decide +kernel
theorem dX1_arrive_4 : decode cX1_arrive 4 = .ok (.ifCond .eq 18, 3) := by decide +kernel
theorem dX1_arrive_7 : decode cX1_arrive 7 = .ok (.aload_n 0, 1) := by decide +kernel
theorem dX1_arrive_8 : decode cX1_arrive 8 = .ok (.getfield 32, 3) := by decide +kernel
theorem dX1_arrive_11 : decode cX1_arrive 11 = .ok (.iconst 4, 1) := by decide +kernel
theorem dX1_arrive_12 : decode cX1_arrive 12 = .ok (.aaload, 1) := by decide +kernel
theorem dX1_arrive_13 : decode cX1_arrive 13 = .ok (.iload_n 1, 1) := by decide +kernel
theorem dX1_arrive_14 : decode cX1_arrive 14 = .ok (.dup2, 1) := by decide +kernel
theorem dX1_arrive_15 : decode cX1_arrive 15 = .ok (.iaload, 1) := by decide +kernel
theorem dX1_arrive_16 : decode cX1_arrive 16 = .ok (.iconst 1, 1) := by decide +kernel
theorem dX1_arrive_17 : decode cX1_arrive 17 = .ok (.iadd, 1) := by decide +kernel
theorem dX1_arrive_18 : decode cX1_arrive 18 = .ok (.iastore, 1) := by decide +kernel
theorem dX1_arrive_19 : decode cX1_arrive 19 = .ok (.goto 8, 3) := by decide +kernel
theorem dX1_arrive_22 : decode cX1_arrive 22 = .ok (.aload_n 0, 1) := by decide +kernel
theorem dX1_arrive_23 : decode cX1_arrive 23 = .ok (.iload_n 1, 1) := by decide +kernel
theorem dX1_arrive_24 : decode cX1_arrive 24 = .ok (.invokevirtual 137, 3) := by decide +kernel
theorem dX1_arrive_27 : decode cX1_arrive 27 = .ok (.return_, 1) := by decide +kernel
theorem dX1_growOlder_0 : decode cX1_growOlder 0 = .ok (.iconst 0, 1) := by decide +kernel
theorem dX1_growOlder_1 : decode cX1_growOlder 1 = .ok (.istore_n 2, 1) := by decide +kernel
theorem dX1_growOlder_2 : decode cX1_growOlder 2 = .ok (.iload_n 2, 1) := by decide +kernel
theorem dX1_growOlder_3 : decode cX1_growOlder 3 = .ok (.aload_n 0, 1) := by decide +kernel
theorem dX1_growOlder_4 : decode cX1_growOlder 4 = .ok (.getfield 17, 3) := by decide +kernel
theorem dX1_growOlder_7 : decode cX1_growOlder 7 = .ok (.if_icmp .ge 67, 3) := by decide +kernel
theorem dX1_growOlder_10 : decode cX1_growOlder 10 = .ok (.aload_n 0, 1) := by decide +kernel
theorem dX1_growOlder_11 : decode cX1_growOlder 11 = .ok (.getfield 11, 3) := by decide +kernel
theorem dX1_growOlder_14 : decode cX1_growOlder 14 = .ok (.iload_n 2, 1) := by decide +kernel
theorem dX1_growOlder_15 : decode cX1_growOlder 15 = .ok (.aaload, 1) := by decide +kernel
theorem dX1_growOlder_16 : decode cX1_growOlder 16 = .ok (.astore_n 3, 1) := by decide +kernel
theorem dX1_growOlder_17 : decode cX1_growOlder 17 = .ok (.aload_n 3, 1) := by decide +kernel
theorem dX1_growOlder_18 : decode cX1_growOlder 18 = .ok (.dup, 1) := by decide +kernel
theorem dX1_growOlder_19 : decode cX1_growOlder 19 = .ok (.getfield 115, 3) := by decide +kernel
theorem dX1_growOlder_22 : decode cX1_growOlder 22 = .ok (.iconst 1, 1) := by decide +kernel
theorem dX1_growOlder_23 : decode cX1_growOlder 23 = .ok (.iadd, 1) := by decide +kernel
theorem dX1_growOlder_24 : decode cX1_growOlder 24 = .ok (.putfield 115, 3) := by decide +kernel
theorem dX1_growOlder_27 : decode cX1_growOlder 27 = .ok (.aload_n 3, 1) := by decide +kernel
theorem dX1_growOlder_28 : decode cX1_growOlder 28 = .ok (.aload_n 3, 1) := by decide +kernel
theorem dX1_growOlder_29 : decode cX1_growOlder 29 = .ok (.getfield 100, 3) := by decide +kernel
theorem dX1_growOlder_32 : decode cX1_growOlder 32 = .ok (.iload_n 1, 1) := by decide +kernel
theorem dX1_growOlder_33 : decode cX1_growOlder 33 = .ok (.iadd, 1) := by decide +kernel
theorem dX1_growOlder_34 : decode cX1_growOlder 34 = .ok (.bipush 99, 2) := by decide +kernel
theorem dX1_growOlder_36 : decode cX1_growOlder 36 = .ok (.invokestatic 140, 3) := by decide +kernel
theorem dX1_growOlder_39 : decode cX1_growOlder 39 = .ok (.putfield 100, 3) := by decide +kernel
theorem dX1_growOlder_42 : decode cX1_growOlder 42 = .ok (.aload_n 0, 1) := by decide +kernel
theorem dX1_growOlder_43 : decode cX1_growOlder 43 = .ok (.getfield 32, 3) := by decide +kernel
theorem dX1_growOlder_46 : decode cX1_growOlder 46 = .ok (.iconst 5, 1) := by decide +kernel
theorem dX1_growOlder_47 : decode cX1_growOlder 47 = .ok (.aaload, 1) := by decide +kernel
theorem dX1_growOlder_48 : decode cX1_growOlder 48 = .ok (.aload_n 3, 1) := by decide +kernel
theorem dX1_growOlder_49 : decode cX1_growOlder 49 = .ok (.getfield 97, 3) := by decide +kernel
theorem dX1_growOlder_52 : decode cX1_growOlder 52 = .ok (.dup2, 1) := by decide +kernel
theorem dX1_growOlder_53 : decode cX1_growOlder 53 = .ok (.iaload, 1) := by decide +kernel
theorem dX1_growOlder_54 : decode cX1_growOlder 54 = .ok (.aload_n 0, 1) := by decide +kernel
theorem dX1_growOlder_55 : decode cX1_growOlder 55 = .ok (.getfield 35, 3) := by decide +kernel
theorem dX1_growOlder_58 : decode cX1_growOlder 58 = .ok (.getfield 93, 3) := by decide +kernel
theorem dX1_growOlder_61 : decode cX1_growOlder 61 = .ok (.aload_n 3, 1) := by decide +kernel
theorem dX1_growOlder_62 : decode cX1_growOlder 62 = .ok (.getfield 97, 3) := by decide +kernel
theorem dX1_growOlder_65 : decode cX1_growOlder 65 = .ok (.iaload, 1) := by decide +kernel
theorem dX1_growOlder_66 : decode cX1_growOlder 66 = .ok (.iadd, 1) := by decide +kernel
theorem dX1_growOlder_67 : decode cX1_growOlder 67 = .ok (.iastore, 1) := by decide +kernel
theorem dX1_growOlder_68 : decode cX1_growOlder 68 = .ok (.iinc 2 1, 3) := by decide +kernel
theorem dX1_growOlder_71 : decode cX1_growOlder 71 = .ok (.goto (-69), 3) := by decide +kernel
theorem dX1_growOlder_74 : decode cX1_growOlder 74 = .ok (.return_, 1) := by decide +kernel
theorem dX2_init_0 : decode cX2_init 0 = .ok (.aload_n 0, 1) := by decide +kernel
theorem dX2_init_1 : decode cX2_init 1 = .ok (.invokespecial 3, 3) := by decide +kernel
theorem dX2_init_4 : decode cX2_init 4 = .ok (.aload_n 0, 1) := by decide +kernel
theorem dX2_init_5 : decode cX2_init 5 = .ok (.bipush 8, 2) := by decide +kernel
theorem dX2_init_7 : decode cX2_init 7 = .ok (.newarray .int, 2) := by decide +kernel
theorem dX2_init_9 : decode cX2_init 9 = .ok (.putfield 9, 3) := by decide +kernel
theorem dX2_init_12 : decode cX2_init 12 = .ok (.aload_n 0, 1) := by decide +kernel
theorem dX2_init_13 : decode cX2_init 13 = .ok (.bipush 8, 2) := by decide +kernel
theorem dX2_init_15 : decode cX2_init 15 = .ok (.newarray .int, 2) := by decide +kernel
theorem dX2_init_17 : decode cX2_init 17 = .ok (.putfield 15, 3) := by decide +kernel
theorem dX2_init_20 : decode cX2_init 20 = .ok (.aload_n 0, 1) := by decide +kernel
theorem dX2_init_21 : decode cX2_init 21 = .ok (.iconst 0, 1) := by decide +kernel
theorem dX2_init_22 : decode cX2_init 22 = .ok (.putfield 18, 3) := by decide +kernel
theorem dX2_init_25 : decode cX2_init 25 = .ok (.aload_n 0, 1) := by decide +kernel
theorem dX2_init_26 : decode cX2_init 26 = .ok (.aload_n 1, 1) := by decide +kernel
theorem dX2_init_27 : decode cX2_init 27 = .ok (.putfield 22, 3) := by decide +kernel
theorem dX2_init_30 : decode cX2_init 30 = .ok (.return_, 1) := by decide +kernel
theorem dX2_add_0 : decode cX2_add 0 = .ok (.aload_n 0, 1) := by decide +kernel
theorem dX2_add_1 : decode cX2_add 1 = .ok (.getfield 18, 3) := by decide +kernel
theorem dX2_add_4 : decode cX2_add 4 = .ok (.bipush 8, 2) := by decide +kernel
theorem dX2_add_6 : decode cX2_add 6 = .ok (.if_icmp .lt 6, 3) := by decide +kernel
theorem dX2_add_9 : decode cX2_add 9 = .ok (.bipush (-5), 2) := by decide +kernel
theorem dX2_add_11 : decode cX2_add 11 = .ok (.ireturn, 1) := by decide +kernel
theorem dX2_add_12 : decode cX2_add 12 = .ok (.aload_n 0, 1) := by decide +kernel
theorem dX2_add_13 : decode cX2_add 13 = .ok (.getfield 9, 3) := by decide +kernel
theorem dX2_add_16 : decode cX2_add 16 = .ok (.aload_n 0, 1) := by decide +kernel
theorem dX2_add_17 : decode cX2_add 17 = .ok (.getfield 18, 3) := by decide +kernel
theorem dX2_add_20 : decode cX2_add 20 = .ok (.iload_n 1, 1) := by decide +kernel
theorem dX2_add_21 : decode cX2_add 21 = .ok (.iastore, 1) := by decide +kernel
theorem dX2_add_22 : decode cX2_add 22 = .ok (.aload_n 0, 1) := by decide +kernel
theorem dX2_add_23 : decode cX2_add 23 = .ok (.getfield 15, 3) := by decide +kernel
theorem dX2_add_26 : decode cX2_add 26 = .ok (.aload_n 0, 1) := by decide +kernel
theorem dX2_add_27 : decode cX2_add 27 = .ok (.getfield 18, 3) := by decide +kernel
theorem dX2_add_30 : decode cX2_add 30 = .ok (.iload_n 2, 1) := by decide +kernel
theorem dX2_add_31 : decode cX2_add 31 = .ok (.iastore, 1) := by decide +kernel
theorem dX2_add_32 : decode cX2_add 32 = .ok (.aload_n 0, 1) := by decide +kernel
theorem dX2_add_33 : decode cX2_add 33 = .ok (.dup, 1) := by decide +kernel
theorem dX2_add_34 : decode cX2_add 34 = .ok (.getfield 18, 3) := by decide +kernel
theorem dX2_add_37 : decode cX2_add 37 = .ok (.iconst 1, 1) := by decide +kernel
theorem dX2_add_38 : decode cX2_add 38 = .ok (.iadd, 1) := by decide +kernel
theorem dX2_add_39 : decode cX2_add 39 = .ok (.putfield 18, 3) := by decide +kernel
theorem dX2_add_42 : decode cX2_add 42 = .ok (.aload_n 0, 1) := by decide +kernel
theorem dX2_add_43 : decode cX2_add 43 = .ok (.getfield 18, 3) := by decide +kernel
theorem dX2_add_46 : decode cX2_add 46 = .ok (.iconst 1, 1) := by decide +kernel
theorem dX2_add_47 : decode cX2_add 47 = .ok (.isub, 1) := by decide +kernel
theorem dX2_add_48 : decode cX2_add 48 = .ok (.ireturn, 1) := by decide +kernel
theorem dX2_likesMore_0 : decode cX2_likesMore 0 = .ok (.aload_n 0, 1) := by decide +kernel
theorem dX2_likesMore_1 : decode cX2_likesMore 1 = .ok (.getfield 22, 3) := by decide +kernel
theorem dX2_likesMore_4 : decode cX2_likesMore 4 = .ok (.getfield 26, 3) := by decide +kernel
theorem dX2_likesMore_7 : decode cX2_likesMore 7 = .ok (.aload_n 0, 1) := by decide +kernel
theorem dX2_likesMore_8 : decode cX2_likesMore 8 = .ok (.getfield 9, 3) := by decide +kernel
theorem dX2_likesMore_11 : decode cX2_likesMore 11 = .ok (.iload_n 1, 1) := by decide +kernel
theorem dX2_likesMore_12 : decode cX2_likesMore 12 = .ok (.iaload, 1) := by decide +kernel
theorem dX2_likesMore_13 : decode cX2_likesMore 13 = .ok (.aaload, 1) := by decide +kernel
theorem dX2_likesMore_14 : decode cX2_likesMore 14 = .ok (.astore 4, 2) := by decide +kernel
theorem dX2_likesMore_16 : decode cX2_likesMore 16 = .ok (.aload 4, 2) := by decide +kernel
theorem dX2_likesMore_18 : decode cX2_likesMore 18 = .ok (.iload_n 2, 1) := by decide +kernel
theorem dX2_likesMore_19 : decode cX2_likesMore 19 = .ok (.iaload, 1) := by decide +kernel
theorem dX2_likesMore_20 : decode cX2_likesMore 20 = .ok (.aload 4, 2) := by decide +kernel
theorem dX2_likesMore_22 : decode cX2_likesMore 22 = .ok (.iload_n 3, 1) := by decide +kernel
theorem dX2_likesMore_23 : decode cX2_likesMore 23 = .ok (.iaload, 1) := by decide +kernel
theorem dX2_likesMore_24 : decode cX2_likesMore 24 = .ok (.if_icmp .le 7, 3) := by decide +kernel
theorem dX2_likesMore_27 : decode cX2_likesMore 27 = .ok (.iconst 1, 1) := by decide +kernel
theorem dX2_likesMore_28 : decode cX2_likesMore 28 = .ok (.goto 4, 3) := by decide +kernel
theorem dX2_likesMore_31 : decode cX2_likesMore 31 = .ok (.iconst 0, 1) := by decide +kernel
theorem dX2_likesMore_32 : decode cX2_likesMore 32 = .ok (.ireturn, 1) := by decide +kernel
theorem dX3_init_0 : decode cX3_init 0 = .ok (.aload_n 0, 1) := by decide +kernel
theorem dX3_init_1 : decode cX3_init 1 = .ok (.invokespecial 3, 3) := by decide +kernel
theorem dX3_init_4 : decode cX3_init 4 = .ok (.aload_n 0, 1) := by decide +kernel
theorem dX3_init_5 : decode cX3_init 5 = .ok (.bipush 6, 2) := by decide +kernel
theorem dX3_init_7 : decode cX3_init 7 = .ok (.newarray .int, 2) := by decide +kernel
theorem dX3_init_9 : decode cX3_init 9 = .ok (.putfield 9, 3) := by decide +kernel
theorem dX3_init_12 : decode cX3_init 12 = .ok (.aload_n 0, 1) := by decide +kernel
theorem dX3_init_13 : decode cX3_init 13 = .ok (.iconst 0, 1) := by decide +kernel
theorem dX3_init_14 : decode cX3_init 14 = .ok (.putfield 15, 3) := by decide +kernel
theorem dX3_init_17 : decode cX3_init 17 = .ok (.aload_n 0, 1) := by decide +kernel
theorem dX3_init_18 : decode cX3_init 18 = .ok (.iconst 4, 1) := by decide +kernel
theorem dX3_init_19 : decode cX3_init 19 = .ok (.newarray .int, 2) := by decide +kernel
theorem dX3_init_21 : decode cX3_init 21 = .ok (.putfield 19, 3) := by decide +kernel
theorem dX3_init_24 : decode cX3_init 24 = .ok (.aload_n 0, 1) := by decide +kernel
theorem dX3_init_25 : decode cX3_init 25 = .ok (.aload_n 1, 1) := by decide +kernel
theorem dX3_init_26 : decode cX3_init 26 = .ok (.putfield 22, 3) := by decide +kernel
theorem dX3_init_29 : decode cX3_init 29 = .ok (.return_, 1) := by decide +kernel
theorem dX3_gather_0 : decode cX3_gather 0 = .ok (.aload_n 0, 1) := by decide +kernel
theorem dX3_gather_1 : decode cX3_gather 1 = .ok (.iload_n 2, 1) := by decide +kernel
theorem dX3_gather_2 : decode cX3_gather 2 = .ok (.aload_n 1, 1) := by decide +kernel
theorem dX3_gather_3 : decode cX3_gather 3 = .ok (.getfield 26, 3) := by decide +kernel
theorem dX3_gather_6 : decode cX3_gather 6 = .ok (.bipush 6, 2) := by decide +kernel
theorem dX3_gather_8 : decode cX3_gather 8 = .ok (.invokestatic 31, 3) := by decide +kernel
theorem dX3_gather_11 : decode cX3_gather 11 = .ok (.invokestatic 31, 3) := by decide +kernel
theorem dX3_gather_14 : decode cX3_gather 14 = .ok (.putfield 15, 3) := by decide +kernel
theorem dX3_gather_17 : decode cX3_gather 17 = .ok (.iconst 0, 1) := by decide +kernel
theorem dX3_gather_18 : decode cX3_gather 18 = .ok (.istore_n 3, 1) := by decide +kernel
theorem dX3_gather_19 : decode cX3_gather 19 = .ok (.iload_n 3, 1) := by decide +kernel
theorem dX3_gather_20 : decode cX3_gather 20 = .ok (.aload_n 0, 1) := by decide +kernel
theorem dX3_gather_21 : decode cX3_gather 21 = .ok (.getfield 15, 3) := by decide +kernel
theorem dX3_gather_24 : decode cX3_gather 24 = .ok (.if_icmp .ge 24, 3) := by decide +kernel
theorem dX3_gather_27 : decode cX3_gather 27 = .ok (.aload_n 0, 1) := by decide +kernel
theorem dX3_gather_28 : decode cX3_gather 28 = .ok (.getfield 9, 3) := by decide +kernel
theorem dX3_gather_31 : decode cX3_gather 31 = .ok (.iload_n 3, 1) := by decide +kernel
theorem dX3_gather_32 : decode cX3_gather 32 = .ok (.aload_n 1, 1) := by decide +kernel
theorem dX3_gather_33 : decode cX3_gather 33 = .ok (.getfield 37, 3) := by decide +kernel
theorem dX3_gather_36 : decode cX3_gather 36 = .ok (.iload_n 3, 1) := by decide +kernel
theorem dX3_gather_37 : decode cX3_gather 37 = .ok (.aaload, 1) := by decide +kernel
theorem dX3_gather_38 : decode cX3_gather 38 = .ok (.getfield 41, 3) := by decide +kernel
theorem dX3_gather_41 : decode cX3_gather 41 = .ok (.iastore, 1) := by decide +kernel
theorem dX3_gather_42 : decode cX3_gather 42 = .ok (.iinc 3 1, 3) := by decide +kernel
theorem dX3_gather_45 : decode cX3_gather 45 = .ok (.goto (-26), 3) := by decide +kernel
theorem dX3_gather_48 : decode cX3_gather 48 = .ok (.return_, 1) := by decide +kernel
theorem dX3_lay_0 : decode cX3_lay 0 = .ok (.aload_n 0, 1) := by decide +kernel
theorem dX3_lay_1 : decode cX3_lay 1 = .ok (.getfield 19, 3) := by decide +kernel
theorem dX3_lay_4 : decode cX3_lay 4 = .ok (.iconst 0, 1) := by decide +kernel
theorem dX3_lay_5 : decode cX3_lay 5 = .ok (.invokestatic 46, 3) := by decide +kernel
theorem dX3_lay_8 : decode cX3_lay 8 = .ok (.iconst 0, 1) := by decide +kernel
theorem dX3_lay_9 : decode cX3_lay 9 = .ok (.istore_n 3, 1) := by decide +kernel
theorem dX3_lay_10 : decode cX3_lay 10 = .ok (.iload_n 3, 1) := by decide +kernel
theorem dX3_lay_11 : decode cX3_lay 11 = .ok (.iload_n 2, 1) := by decide +kernel
theorem dX3_lay_12 : decode cX3_lay 12 = .ok (.if_icmp .ge 25, 3) := by decide +kernel
theorem dX3_lay_15 : decode cX3_lay 15 = .ok (.aload_n 0, 1) := by decide +kernel
theorem dX3_lay_16 : decode cX3_lay 16 = .ok (.getfield 19, 3) := by decide +kernel
theorem dX3_lay_19 : decode cX3_lay 19 = .ok (.iload_n 1, 1) := by decide +kernel
theorem dX3_lay_20 : decode cX3_lay 20 = .ok (.iconst 2, 1) := by decide +kernel
theorem dX3_lay_21 : decode cX3_lay 21 = .ok (.iload_n 3, 1) := by decide +kernel
theorem dX3_lay_22 : decode cX3_lay 22 = .ok (.imul, 1) := by decide +kernel
theorem dX3_lay_23 : decode cX3_lay 23 = .ok (.ishr, 1) := by decide +kernel
theorem dX3_lay_24 : decode cX3_lay 24 = .ok (.iconst 3, 1) := by decide +kernel
theorem dX3_lay_25 : decode cX3_lay 25 = .ok (.iand, 1) := by decide +kernel
theorem dX3_lay_26 : decode cX3_lay 26 = .ok (.dup2, 1) := by decide +kernel
theorem dX3_lay_27 : decode cX3_lay 27 = .ok (.iaload, 1) := by decide +kernel
theorem dX3_lay_28 : decode cX3_lay 28 = .ok (.iconst 1, 1) := by decide +kernel
theorem dX3_lay_29 : decode cX3_lay 29 = .ok (.iadd, 1) := by decide +kernel
theorem dX3_lay_30 : decode cX3_lay 30 = .ok (.iastore, 1) := by decide +kernel
theorem dX3_lay_31 : decode cX3_lay 31 = .ok (.iinc 3 1, 3) := by decide +kernel
theorem dX3_lay_34 : decode cX3_lay 34 = .ok (.goto (-24), 3) := by decide +kernel
theorem dX3_lay_37 : decode cX3_lay 37 = .ok (.return_, 1) := by decide +kernel
theorem dX3_rowsFor_0 : decode cX3_rowsFor 0 = .ok (.aload_n 0, 1) := by decide +kernel
theorem dX3_rowsFor_1 : decode cX3_rowsFor 1 = .ok (.iconst 0, 1) := by decide +kernel
theorem dX3_rowsFor_2 : decode cX3_rowsFor 2 = .ok (.iconst 0, 1) := by decide +kernel
theorem dX3_rowsFor_3 : decode cX3_rowsFor 3 = .ok (.iload_n 1, 1) := by decide +kernel
theorem dX3_rowsFor_4 : decode cX3_rowsFor 4 = .ok (.iload_n 2, 1) := by decide +kernel
theorem dX3_rowsFor_5 : decode cX3_rowsFor 5 = .ok (.invokevirtual 52, 3) := by decide +kernel
theorem dX3_rowsFor_8 : decode cX3_rowsFor 8 = .ok (.ireturn, 1) := by decide +kernel
theorem dX3_rowsFrom_0 : decode cX3_rowsFrom 0 = .ok (.iconst 0, 1) := by decide +kernel
theorem dX3_rowsFrom_1 : decode cX3_rowsFrom 1 = .ok (.istore 5, 2) := by decide +kernel
theorem dX3_rowsFrom_3 : decode cX3_rowsFrom 3 = .ok (.iload_n 1, 1) := by decide +kernel
theorem dX3_rowsFrom_4 : decode cX3_rowsFrom 4 = .ok (.aload_n 0, 1) := by decide +kernel
theorem dX3_rowsFrom_5 : decode cX3_rowsFrom 5 = .ok (.getfield 15, 3) := by decide +kernel
theorem dX3_rowsFrom_8 : decode cX3_rowsFrom 8 = .ok (.if_icmp .lt 6, 3) := by decide +kernel
theorem dX3_rowsFrom_11 : decode cX3_rowsFrom 11 = .ok (.iload 5, 2) := by decide +kernel
theorem dX3_rowsFrom_13 : decode cX3_rowsFrom 13 = .ok (.ireturn, 1) := by decide +kernel
theorem dX3_rowsFrom_14 : decode cX3_rowsFrom 14 = .ok (.iconst 0, 1) := by decide +kernel
theorem dX3_rowsFrom_15 : decode cX3_rowsFrom 15 = .ok (.istore 6, 2) := by decide +kernel
theorem dX3_rowsFrom_17 : decode cX3_rowsFrom 17 = .ok (.iload 6, 2) := by decide +kernel
theorem dX3_rowsFrom_19 : decode cX3_rowsFrom 19 = .ok (.aload_n 0, 1) := by decide +kernel
theorem dX3_rowsFrom_20 : decode cX3_rowsFrom 20 = .ok (.getfield 15, 3) := by decide +kernel
theorem dX3_rowsFrom_23 : decode cX3_rowsFrom 23 = .ok (.if_icmp .ge 124, 3) := by decide +kernel
theorem dX3_rowsFrom_26 : decode cX3_rowsFrom 26 = .ok (.iload_n 2, 1) := by decide +kernel
theorem dX3_rowsFrom_27 : decode cX3_rowsFrom 27 = .ok (.iload 6, 2) := by decide +kernel
theorem dX3_rowsFrom_29 : decode cX3_rowsFrom 29 = .ok (.ishr, 1) := by decide +kernel
theorem dX3_rowsFrom_30 : decode cX3_rowsFrom 30 = .ok (.iconst 1, 1) := by decide +kernel
theorem dX3_rowsFrom_31 : decode cX3_rowsFrom 31 = .ok (.iand, 1) := by decide +kernel
theorem dX3_rowsFrom_32 : decode cX3_rowsFrom 32 = .ok (.ifCond .eq 6, 3) := by decide +kernel
theorem dX3_rowsFrom_35 : decode cX3_rowsFrom 35 = .ok (.goto 106, 3) := by decide +kernel
theorem dX3_rowsFrom_38 : decode cX3_rowsFrom 38 = .ok (.aload_n 0, 1) := by decide +kernel
theorem dX3_rowsFrom_39 : decode cX3_rowsFrom 39 = .ok (.aload_n 0, 1) := by decide +kernel
theorem dX3_rowsFrom_40 : decode cX3_rowsFrom 40 = .ok (.getfield 9, 3) := by decide +kernel
theorem dX3_rowsFrom_43 : decode cX3_rowsFrom 43 = .ok (.iload 6, 2) := by decide +kernel
theorem dX3_rowsFrom_45 : decode cX3_rowsFrom 45 = .ok (.iaload, 1) := by decide +kernel
theorem dX3_rowsFrom_46 : decode cX3_rowsFrom 46 = .ok (.invokevirtual 56, 3) := by decide +kernel
theorem dX3_rowsFrom_49 : decode cX3_rowsFrom 49 = .ok (.istore 7, 2) := by decide +kernel
theorem dX3_rowsFrom_51 : decode cX3_rowsFrom 51 = .ok (.iload 7, 2) := by decide +kernel
theorem dX3_rowsFrom_53 : decode cX3_rowsFrom 53 = .ok (.iconst (-1), 1) := by decide +kernel
theorem dX3_rowsFrom_54 : decode cX3_rowsFrom 54 = .ok (.if_icmp .ne 5, 3) := by decide +kernel
theorem dX3_rowsFrom_57 : decode cX3_rowsFrom 57 = .ok (.iconst 0, 1) := by decide +kernel
theorem dX3_rowsFrom_58 : decode cX3_rowsFrom 58 = .ok (.ireturn, 1) := by decide +kernel
theorem dX3_rowsFrom_59 : decode cX3_rowsFrom 59 = .ok (.iload 6, 2) := by decide +kernel
theorem dX3_rowsFrom_61 : decode cX3_rowsFrom 61 = .ok (.iload_n 3, 1) := by decide +kernel
theorem dX3_rowsFrom_62 : decode cX3_rowsFrom 62 = .ok (.if_icmp .eq 49, 3) := by decide +kernel
theorem dX3_rowsFrom_65 : decode cX3_rowsFrom 65 = .ok (.aload_n 0, 1) := by decide +kernel
theorem dX3_rowsFrom_66 : decode cX3_rowsFrom 66 = .ok (.getfield 19, 3) := by decide +kernel
theorem dX3_rowsFrom_69 : decode cX3_rowsFrom 69 = .ok (.iload 7, 2) := by decide +kernel
theorem dX3_rowsFrom_71 : decode cX3_rowsFrom 71 = .ok (.dup2, 1) := by decide +kernel
theorem dX3_rowsFrom_72 : decode cX3_rowsFrom 72 = .ok (.iaload, 1) := by decide +kernel
theorem dX3_rowsFrom_73 : decode cX3_rowsFrom 73 = .ok (.iconst 1, 1) := by decide +kernel
theorem dX3_rowsFrom_74 : decode cX3_rowsFrom 74 = .ok (.isub, 1) := by decide +kernel
theorem dX3_rowsFrom_75 : decode cX3_rowsFrom 75 = .ok (.iastore, 1) := by decide +kernel
theorem dX3_rowsFrom_76 : decode cX3_rowsFrom 76 = .ok (.iload 5, 2) := by decide +kernel
theorem dX3_rowsFrom_78 : decode cX3_rowsFrom 78 = .ok (.aload_n 0, 1) := by decide +kernel
theorem dX3_rowsFrom_79 : decode cX3_rowsFrom 79 = .ok (.iload_n 1, 1) := by decide +kernel
theorem dX3_rowsFrom_80 : decode cX3_rowsFrom 80 = .ok (.iconst 1, 1) := by decide +kernel
theorem dX3_rowsFrom_81 : decode cX3_rowsFrom 81 = .ok (.iadd, 1) := by decide +kernel
theorem dX3_rowsFrom_82 : decode cX3_rowsFrom 82 = .ok (.iload_n 2, 1) := by decide +kernel
theorem dX3_rowsFrom_83 : decode cX3_rowsFrom 83 = .ok (.iconst 1, 1) := by decide +kernel
theorem dX3_rowsFrom_84 : decode cX3_rowsFrom 84 = .ok (.iload 6, 2) := by decide +kernel
theorem dX3_rowsFrom_86 : decode cX3_rowsFrom 86 = .ok (.ishl, 1) := by decide +kernel
theorem dX3_rowsFrom_87 : decode cX3_rowsFrom 87 = .ok (.ior, 1) := by decide +kernel
theorem dX3_rowsFrom_88 : decode cX3_rowsFrom 88 = .ok (.iload_n 3, 1) := by decide +kernel
theorem dX3_rowsFrom_89 : decode cX3_rowsFrom 89 = .ok (.iload 4, 2) := by decide +kernel
theorem dX3_rowsFrom_91 : decode cX3_rowsFrom 91 = .ok (.invokevirtual 52, 3) := by decide +kernel
theorem dX3_rowsFrom_94 : decode cX3_rowsFrom 94 = .ok (.iadd, 1) := by decide +kernel
theorem dX3_rowsFrom_95 : decode cX3_rowsFrom 95 = .ok (.istore 5, 2) := by decide +kernel
theorem dX3_rowsFrom_97 : decode cX3_rowsFrom 97 = .ok (.aload_n 0, 1) := by decide +kernel
theorem dX3_rowsFrom_98 : decode cX3_rowsFrom 98 = .ok (.getfield 19, 3) := by decide +kernel
theorem dX3_rowsFrom_101 : decode cX3_rowsFrom 101 = .ok (.iload 7, 2) := by decide +kernel
theorem dX3_rowsFrom_103 : decode cX3_rowsFrom 103 = .ok (.dup2, 1) := by decide +kernel
theorem dX3_rowsFrom_104 : decode cX3_rowsFrom 104 = .ok (.iaload, 1) := by decide +kernel
theorem dX3_rowsFrom_105 : decode cX3_rowsFrom 105 = .ok (.iconst 1, 1) := by decide +kernel
theorem dX3_rowsFrom_106 : decode cX3_rowsFrom 106 = .ok (.iadd, 1) := by decide +kernel
theorem dX3_rowsFrom_107 : decode cX3_rowsFrom 107 = .ok (.iastore, 1) := by decide +kernel
theorem dX3_rowsFrom_108 : decode cX3_rowsFrom 108 = .ok (.goto 33, 3) := by decide +kernel
theorem dX3_rowsFrom_111 : decode cX3_rowsFrom 111 = .ok (.iload 4, 2) := by decide +kernel
theorem dX3_rowsFrom_113 : decode cX3_rowsFrom 113 = .ok (.iconst (-1), 1) := by decide +kernel
theorem dX3_rowsFrom_114 : decode cX3_rowsFrom 114 = .ok (.if_icmp .eq 10, 3) := by decide +kernel
theorem dX3_rowsFrom_117 : decode cX3_rowsFrom 117 = .ok (.iload 4, 2) := by decide +kernel
theorem dX3_rowsFrom_119 : decode cX3_rowsFrom 119 = .ok (.iload 7, 2) := by decide +kernel
theorem dX3_rowsFrom_121 : decode cX3_rowsFrom 121 = .ok (.if_icmp .ne 20, 3) := by decide +kernel
theorem dX3_rowsFrom_124 : decode cX3_rowsFrom 124 = .ok (.iload 5, 2) := by decide +kernel
theorem dX3_rowsFrom_126 : decode cX3_rowsFrom 126 = .ok (.getstatic 60, 3) := by decide +kernel
theorem dX3_rowsFrom_129 : decode cX3_rowsFrom 129 = .ok (.aload_n 0, 1) := by decide +kernel
theorem dX3_rowsFrom_130 : decode cX3_rowsFrom 130 = .ok (.getfield 15, 3) := by decide +kernel
theorem dX3_rowsFrom_133 : decode cX3_rowsFrom 133 = .ok (.iload_n 1, 1) := by decide +kernel
theorem dX3_rowsFrom_134 : decode cX3_rowsFrom 134 = .ok (.isub, 1) := by decide +kernel
theorem dX3_rowsFrom_135 : decode cX3_rowsFrom 135 = .ok (.iconst 1, 1) := by decide +kernel
theorem dX3_rowsFrom_136 : decode cX3_rowsFrom 136 = .ok (.isub, 1) := by decide +kernel
theorem dX3_rowsFrom_137 : decode cX3_rowsFrom 137 = .ok (.iaload, 1) := by decide +kernel
theorem dX3_rowsFrom_138 : decode cX3_rowsFrom 138 = .ok (.iadd, 1) := by decide +kernel
theorem dX3_rowsFrom_139 : decode cX3_rowsFrom 139 = .ok (.istore 5, 2) := by decide +kernel
theorem dX3_rowsFrom_141 : decode cX3_rowsFrom 141 = .ok (.iinc 6 1, 3) := by decide +kernel
theorem dX3_rowsFrom_144 : decode cX3_rowsFrom 144 = .ok (.goto (-127), 3) := by decide +kernel
theorem dX3_rowsFrom_147 : decode cX3_rowsFrom 147 = .ok (.iload 5, 2) := by decide +kernel
theorem dX3_rowsFrom_149 : decode cX3_rowsFrom 149 = .ok (.ireturn, 1) := by decide +kernel
theorem dX3_kindTaken_0 : decode cX3_kindTaken 0 = .ok (.iconst (-1), 1) := by decide +kernel
theorem dX3_kindTaken_1 : decode cX3_kindTaken 1 = .ok (.istore_n 2, 1) := by decide +kernel
theorem dX3_kindTaken_2 : decode cX3_kindTaken 2 = .ok (.iconst 0, 1) := by decide +kernel
theorem dX3_kindTaken_3 : decode cX3_kindTaken 3 = .ok (.istore_n 3, 1) := by decide +kernel
theorem dX3_kindTaken_4 : decode cX3_kindTaken 4 = .ok (.iload_n 3, 1) := by decide +kernel
theorem dX3_kindTaken_5 : decode cX3_kindTaken 5 = .ok (.iconst 4, 1) := by decide +kernel
theorem dX3_kindTaken_6 : decode cX3_kindTaken 6 = .ok (.if_icmp .ge 53, 3) := by decide +kernel
theorem dX3_kindTaken_9 : decode cX3_kindTaken 9 = .ok (.aload_n 0, 1) := by decide +kernel
theorem dX3_kindTaken_10 : decode cX3_kindTaken 10 = .ok (.getfield 19, 3) := by decide +kernel
theorem dX3_kindTaken_13 : decode cX3_kindTaken 13 = .ok (.iload_n 3, 1) := by decide +kernel
theorem dX3_kindTaken_14 : decode cX3_kindTaken 14 = .ok (.iaload, 1) := by decide +kernel
theorem dX3_kindTaken_15 : decode cX3_kindTaken 15 = .ok (.ifCond .ne 6, 3) := by decide +kernel
theorem dX3_kindTaken_18 : decode cX3_kindTaken 18 = .ok (.goto 35, 3) := by decide +kernel
theorem dX3_kindTaken_21 : decode cX3_kindTaken 21 = .ok (.iload_n 2, 1) := by decide +kernel
theorem dX3_kindTaken_22 : decode cX3_kindTaken 22 = .ok (.iconst (-1), 1) := by decide +kernel
theorem dX3_kindTaken_23 : decode cX3_kindTaken 23 = .ok (.if_icmp .eq 28, 3) := by decide +kernel
theorem dX3_kindTaken_26 : decode cX3_kindTaken 26 = .ok (.aload_n 0, 1) := by decide +kernel
theorem dX3_kindTaken_27 : decode cX3_kindTaken 27 = .ok (.getfield 22, 3) := by decide +kernel
theorem dX3_kindTaken_30 : decode cX3_kindTaken 30 = .ok (.getfield 63, 3) := by decide +kernel
theorem dX3_kindTaken_33 : decode cX3_kindTaken 33 = .ok (.iload_n 1, 1) := by decide +kernel
theorem dX3_kindTaken_34 : decode cX3_kindTaken 34 = .ok (.aaload, 1) := by decide +kernel
theorem dX3_kindTaken_35 : decode cX3_kindTaken 35 = .ok (.iload_n 3, 1) := by decide +kernel
theorem dX3_kindTaken_36 : decode cX3_kindTaken 36 = .ok (.iaload, 1) := by decide +kernel
theorem dX3_kindTaken_37 : decode cX3_kindTaken 37 = .ok (.aload_n 0, 1) := by decide +kernel
theorem dX3_kindTaken_38 : decode cX3_kindTaken 38 = .ok (.getfield 22, 3) := by decide +kernel
theorem dX3_kindTaken_41 : decode cX3_kindTaken 41 = .ok (.getfield 63, 3) := by decide +kernel
theorem dX3_kindTaken_44 : decode cX3_kindTaken 44 = .ok (.iload_n 1, 1) := by decide +kernel
theorem dX3_kindTaken_45 : decode cX3_kindTaken 45 = .ok (.aaload, 1) := by decide +kernel
theorem dX3_kindTaken_46 : decode cX3_kindTaken 46 = .ok (.iload_n 2, 1) := by decide +kernel
theorem dX3_kindTaken_47 : decode cX3_kindTaken 47 = .ok (.iaload, 1) := by decide +kernel
theorem dX3_kindTaken_48 : decode cX3_kindTaken 48 = .ok (.if_icmp .le 5, 3) := by decide +kernel
theorem dX3_kindTaken_51 : decode cX3_kindTaken 51 = .ok (.iload_n 3, 1) := by decide +kernel
theorem dX3_kindTaken_52 : decode cX3_kindTaken 52 = .ok (.istore_n 2, 1) := by decide +kernel
theorem dX3_kindTaken_53 : decode cX3_kindTaken 53 = .ok (.iinc 3 1, 3) := by decide +kernel
theorem dX3_kindTaken_56 : decode cX3_kindTaken 56 = .ok (.goto (-52), 3) := by decide +kernel
theorem dX3_kindTaken_59 : decode cX3_kindTaken 59 = .ok (.iload_n 2, 1) := by decide +kernel
theorem dX3_kindTaken_60 : decode cX3_kindTaken 60 = .ok (.ireturn, 1) := by decide +kernel
theorem dX4_init_0 : decode cX4_init 0 = .ok (.aload_n 0, 1) := by decide +kernel
theorem dX4_init_1 : decode cX4_init 1 = .ok (.invokespecial 1, 3) := by decide +kernel
theorem dX4_init_4 : decode cX4_init 4 = .ok (.return_, 1) := by decide +kernel
theorem dX4_begin_0 : decode cX4_begin 0 = .ok (.aload_n 0, 1) := by decide +kernel
theorem dX4_begin_1 : decode cX4_begin 1 = .ok (.iload_n 1, 1) := by decide +kernel
theorem dX4_begin_2 : decode cX4_begin 2 = .ok (.putfield 7, 3) := by decide +kernel
theorem dX4_begin_5 : decode cX4_begin 5 = .ok (.aload_n 0, 1) := by decide +kernel
theorem dX4_begin_6 : decode cX4_begin 6 = .ok (.iload_n 2, 1) := by decide +kernel
theorem dX4_begin_7 : decode cX4_begin 7 = .ok (.putfield 13, 3) := by decide +kernel
theorem dX4_begin_10 : decode cX4_begin 10 = .ok (.aload_n 0, 1) := by decide +kernel
theorem dX4_begin_11 : decode cX4_begin 11 = .ok (.iconst 0, 1) := by decide +kernel
theorem dX4_begin_12 : decode cX4_begin 12 = .ok (.putfield 16, 3) := by decide +kernel
theorem dX4_begin_15 : decode cX4_begin 15 = .ok (.aload_n 0, 1) := by decide +kernel
theorem dX4_begin_16 : decode cX4_begin 16 = .ok (.iconst 0, 1) := by decide +kernel
theorem dX4_begin_17 : decode cX4_begin 17 = .ok (.putfield 19, 3) := by decide +kernel
theorem dX4_begin_20 : decode cX4_begin 20 = .ok (.aload_n 0, 1) := by decide +kernel
theorem dX4_begin_21 : decode cX4_begin 21 = .ok (.iconst 0, 1) := by decide +kernel
theorem dX4_begin_22 : decode cX4_begin 22 = .ok (.putfield 22, 3) := by decide +kernel
theorem dX4_begin_25 : decode cX4_begin 25 = .ok (.return_, 1) := by decide +kernel
theorem dX4_copy_0 : decode cX4_copy 0 = .ok (.aload_n 0, 1) := by decide +kernel
theorem dX4_copy_1 : decode cX4_copy 1 = .ok (.aload_n 1, 1) := by decide +kernel
theorem dX4_copy_2 : decode cX4_copy 2 = .ok (.getfield 7, 3) := by decide +kernel
theorem dX4_copy_5 : decode cX4_copy 5 = .ok (.putfield 7, 3) := by decide +kernel
theorem dX4_copy_8 : decode cX4_copy 8 = .ok (.aload_n 0, 1) := by decide +kernel
theorem dX4_copy_9 : decode cX4_copy 9 = .ok (.aload_n 1, 1) := by decide +kernel
theorem dX4_copy_10 : decode cX4_copy 10 = .ok (.getfield 13, 3) := by decide +kernel
theorem dX4_copy_13 : decode cX4_copy 13 = .ok (.putfield 13, 3) := by decide +kernel
theorem dX4_copy_16 : decode cX4_copy 16 = .ok (.aload_n 0, 1) := by decide +kernel
theorem dX4_copy_17 : decode cX4_copy 17 = .ok (.aload_n 1, 1) := by decide +kernel
theorem dX4_copy_18 : decode cX4_copy 18 = .ok (.getfield 16, 3) := by decide +kernel
theorem dX4_copy_21 : decode cX4_copy 21 = .ok (.putfield 16, 3) := by decide +kernel
theorem dX4_copy_24 : decode cX4_copy 24 = .ok (.aload_n 0, 1) := by decide +kernel
theorem dX4_copy_25 : decode cX4_copy 25 = .ok (.aload_n 1, 1) := by decide +kernel
theorem dX4_copy_26 : decode cX4_copy 26 = .ok (.getfield 19, 3) := by decide +kernel
theorem dX4_copy_29 : decode cX4_copy 29 = .ok (.putfield 19, 3) := by decide +kernel
theorem dX4_copy_32 : decode cX4_copy 32 = .ok (.aload_n 0, 1) := by decide +kernel
theorem dX4_copy_33 : decode cX4_copy 33 = .ok (.aload_n 1, 1) := by decide +kernel
theorem dX4_copy_34 : decode cX4_copy 34 = .ok (.getfield 22, 3) := by decide +kernel
theorem dX4_copy_37 : decode cX4_copy 37 = .ok (.putfield 22, 3) := by decide +kernel
theorem dX4_copy_40 : decode cX4_copy 40 = .ok (.return_, 1) := by decide +kernel
theorem dX5_init_0 : decode cX5_init 0 = .ok (.aload_n 0, 1) := by decide +kernel
theorem dX5_init_1 : decode cX5_init 1 = .ok (.invokespecial 3, 3) := by decide +kernel
theorem dX5_init_4 : decode cX5_init 4 = .ok (.aload_n 0, 1) := by decide +kernel
theorem dX5_init_5 : decode cX5_init 5 = .ok (.sipush 2500, 3) := by decide +kernel
theorem dX5_init_8 : decode cX5_init 8 = .ok (.newarray .int, 2) := by decide +kernel
theorem dX5_init_10 : decode cX5_init 10 = .ok (.putfield 9, 3) := by decide +kernel
theorem dX5_init_13 : decode cX5_init 13 = .ok (.aload_n 0, 1) := by decide +kernel
theorem dX5_init_14 : decode cX5_init 14 = .ok (.iconst 4, 1) := by decide +kernel
theorem dX5_init_15 : decode cX5_init 15 = .ok (.iconst 5, 1) := by decide +kernel
theorem dX5_init_16 : decode cX5_init 16 = .ok (.multianewarray 15 2, 4) := by decide +kernel
theorem dX5_init_20 : decode cX5_init 20 = .ok (.putfield 17, 3) := by decide +kernel
theorem dX5_init_23 : decode cX5_init 23 = .ok (.aload_n 0, 1) := by decide +kernel
theorem dX5_init_24 : decode cX5_init 24 = .ok (.sipush 625, 3) := by decide +kernel
theorem dX5_init_27 : decode cX5_init 27 = .ok (.newarray .int, 2) := by decide +kernel
theorem dX5_init_29 : decode cX5_init 29 = .ok (.putfield 20, 3) := by decide +kernel
theorem dX5_init_32 : decode cX5_init 32 = .ok (.aload_n 0, 1) := by decide +kernel
theorem dX5_init_33 : decode cX5_init 33 = .ok (.iconst 0, 1) := by decide +kernel
theorem dX5_init_34 : decode cX5_init 34 = .ok (.putfield 23, 3) := by decide +kernel
theorem dX5_init_37 : decode cX5_init 37 = .ok (.aload_n 0, 1) := by decide +kernel
theorem dX5_init_38 : decode cX5_init 38 = .ok (.iconst 0, 1) := by decide +kernel
theorem dX5_init_39 : decode cX5_init 39 = .ok (.putfield 27, 3) := by decide +kernel
theorem dX5_init_42 : decode cX5_init 42 = .ok (.aload_n 0, 1) := by decide +kernel
theorem dX5_init_43 : decode cX5_init 43 = .ok (.aload_n 1, 1) := by decide +kernel
theorem dX5_init_44 : decode cX5_init 44 = .ok (.putfield 30, 3) := by decide +kernel
theorem dX5_init_47 : decode cX5_init 47 = .ok (.return_, 1) := by decide +kernel
theorem dX5_forget_0 : decode cX5_forget 0 = .ok (.aload_n 0, 1) := by decide +kernel
theorem dX5_forget_1 : decode cX5_forget 1 = .ok (.iconst 0, 1) := by decide +kernel
theorem dX5_forget_2 : decode cX5_forget 2 = .ok (.putfield 27, 3) := by decide +kernel
theorem dX5_forget_5 : decode cX5_forget 5 = .ok (.return_, 1) := by decide +kernel
theorem dX5_areKnownFor_0 : decode cX5_areKnownFor 0 = .ok (.aload_n 0, 1) := by decide +kernel
theorem dX5_areKnownFor_1 : decode cX5_areKnownFor 1 = .ok (.getfield 27, 3) := by decide +kernel
theorem dX5_areKnownFor_4 : decode cX5_areKnownFor 4 = .ok (.iload_n 1, 1) := by decide +kernel
theorem dX5_areKnownFor_5 : decode cX5_areKnownFor 5 = .ok (.if_icmp .ne 7, 3) := by decide +kernel
theorem dX5_areKnownFor_8 : decode cX5_areKnownFor 8 = .ok (.iconst 1, 1) := by decide +kernel
theorem dX5_areKnownFor_9 : decode cX5_areKnownFor 9 = .ok (.goto 4, 3) := by decide +kernel
theorem dX5_areKnownFor_12 : decode cX5_areKnownFor 12 = .ok (.iconst 0, 1) := by decide +kernel
theorem dX5_areKnownFor_13 : decode cX5_areKnownFor 13 = .ok (.ireturn, 1) := by decide +kernel
theorem dX5_find_0 : decode cX5_find 0 = .ok (.aload_n 0, 1) := by decide +kernel
theorem dX5_find_1 : decode cX5_find 1 = .ok (.invokevirtual 34, 3) := by decide +kernel
theorem dX5_find_4 : decode cX5_find 4 = .ok (.iconst 0, 1) := by decide +kernel
theorem dX5_find_5 : decode cX5_find 5 = .ok (.istore 5, 2) := by decide +kernel
theorem dX5_find_7 : decode cX5_find 7 = .ok (.iload 5, 2) := by decide +kernel
theorem dX5_find_9 : decode cX5_find 9 = .ok (.sipush 625, 3) := by decide +kernel
theorem dX5_find_12 : decode cX5_find 12 = .ok (.if_icmp .ge 99, 3) := by decide +kernel
theorem dX5_find_15 : decode cX5_find 15 = .ok (.aload_n 0, 1) := by decide +kernel
theorem dX5_find_16 : decode cX5_find 16 = .ok (.iload 5, 2) := by decide +kernel
theorem dX5_find_18 : decode cX5_find 18 = .ok (.invokevirtual 37, 3) := by decide +kernel
theorem dX5_find_21 : decode cX5_find 21 = .ok (.istore 6, 2) := by decide +kernel
theorem dX5_find_23 : decode cX5_find 23 = .ok (.iload 6, 2) := by decide +kernel
theorem dX5_find_25 : decode cX5_find 25 = .ok (.iload 5, 2) := by decide +kernel
theorem dX5_find_27 : decode cX5_find 27 = .ok (.if_icmp .ne 23, 3) := by decide +kernel
theorem dX5_find_30 : decode cX5_find 30 = .ok (.aload_n 0, 1) := by decide +kernel
theorem dX5_find_31 : decode cX5_find 31 = .ok (.aload 4, 2) := by decide +kernel
theorem dX5_find_33 : decode cX5_find 33 = .ok (.iload 5, 2) := by decide +kernel
theorem dX5_find_35 : decode cX5_find 35 = .ok (.invokevirtual 41, 3) := by decide +kernel
theorem dX5_find_38 : decode cX5_find 38 = .ok (.aload_n 3, 1) := by decide +kernel
theorem dX5_find_39 : decode cX5_find 39 = .ok (.aload_n 2, 1) := by decide +kernel
theorem dX5_find_40 : decode cX5_find 40 = .ok (.invokevirtual 45, 3) := by decide +kernel
theorem dX5_find_43 : decode cX5_find 43 = .ok (.aload_n 3, 1) := by decide +kernel
theorem dX5_find_44 : decode cX5_find 44 = .ok (.iload_n 1, 1) := by decide +kernel
theorem dX5_find_45 : decode cX5_find 45 = .ok (.aload 4, 2) := by decide +kernel
theorem dX5_find_47 : decode cX5_find 47 = .ok (.invokevirtual 51, 3) := by decide +kernel
theorem dX5_find_50 : decode cX5_find 50 = .ok (.iconst 0, 1) := by decide +kernel
theorem dX5_find_51 : decode cX5_find 51 = .ok (.istore 7, 2) := by decide +kernel
theorem dX5_find_53 : decode cX5_find 53 = .ok (.iload 7, 2) := by decide +kernel
theorem dX5_find_55 : decode cX5_find 55 = .ok (.iconst 4, 1) := by decide +kernel
theorem dX5_find_56 : decode cX5_find 56 = .ok (.if_icmp .ge 49, 3) := by decide +kernel
theorem dX5_find_59 : decode cX5_find 59 = .ok (.aload_n 0, 1) := by decide +kernel
theorem dX5_find_60 : decode cX5_find 60 = .ok (.getfield 9, 3) := by decide +kernel
theorem dX5_find_63 : decode cX5_find 63 = .ok (.iload 5, 2) := by decide +kernel
theorem dX5_find_65 : decode cX5_find 65 = .ok (.iconst 4, 1) := by decide +kernel
theorem dX5_find_66 : decode cX5_find 66 = .ok (.imul, 1) := by decide +kernel
theorem dX5_find_67 : decode cX5_find 67 = .ok (.iload 7, 2) := by decide +kernel
theorem dX5_find_69 : decode cX5_find 69 = .ok (.iadd, 1) := by decide +kernel
theorem dX5_find_70 : decode cX5_find 70 = .ok (.iload 6, 2) := by decide +kernel
theorem dX5_find_72 : decode cX5_find 72 = .ok (.iload 5, 2) := by decide +kernel
theorem dX5_find_74 : decode cX5_find 74 = .ok (.if_icmp .ne 12, 3) := by decide +kernel
theorem dX5_find_77 : decode cX5_find 77 = .ok (.aload_n 3, 1) := by decide +kernel
theorem dX5_find_78 : decode cX5_find 78 = .ok (.iload 7, 2) := by decide +kernel
theorem dX5_find_80 : decode cX5_find 80 = .ok (.invokevirtual 55, 3) := by decide +kernel
theorem dX5_find_83 : decode cX5_find 83 = .ok (.goto 15, 3) := by decide +kernel
theorem dX5_find_86 : decode cX5_find 86 = .ok (.aload_n 0, 1) := by decide +kernel
theorem dX5_find_87 : decode cX5_find 87 = .ok (.getfield 9, 3) := by decide +kernel
theorem dX5_find_90 : decode cX5_find 90 = .ok (.iload 6, 2) := by decide +kernel
theorem dX5_find_92 : decode cX5_find 92 = .ok (.iconst 4, 1) := by decide +kernel
theorem dX5_find_93 : decode cX5_find 93 = .ok (.imul, 1) := by decide +kernel
theorem dX5_find_94 : decode cX5_find 94 = .ok (.iload 7, 2) := by decide +kernel
theorem dX5_find_96 : decode cX5_find 96 = .ok (.iadd, 1) := by decide +kernel
theorem dX5_find_97 : decode cX5_find 97 = .ok (.iaload, 1) := by decide +kernel
theorem dX5_find_98 : decode cX5_find 98 = .ok (.iastore, 1) := by decide +kernel
theorem dX5_find_99 : decode cX5_find 99 = .ok (.iinc 7 1, 3) := by decide +kernel
theorem dX5_find_102 : decode cX5_find 102 = .ok (.goto (-49), 3) := by decide +kernel
theorem dX5_find_105 : decode cX5_find 105 = .ok (.iinc 5 1, 3) := by decide +kernel
theorem dX5_find_108 : decode cX5_find 108 = .ok (.goto (-101), 3) := by decide +kernel
theorem dX5_find_111 : decode cX5_find 111 = .ok (.aload_n 0, 1) := by decide +kernel
theorem dX5_find_112 : decode cX5_find 112 = .ok (.iconst 0, 1) := by decide +kernel
theorem dX5_find_113 : decode cX5_find 113 = .ok (.putfield 23, 3) := by decide +kernel
theorem dX5_find_116 : decode cX5_find 116 = .ok (.iconst 0, 1) := by decide +kernel
theorem dX5_find_117 : decode cX5_find 117 = .ok (.istore 5, 2) := by decide +kernel
theorem dX5_find_119 : decode cX5_find 119 = .ok (.iload 5, 2) := by decide +kernel
theorem dX5_find_121 : decode cX5_find 121 = .ok (.sipush 625, 3) := by decide +kernel
theorem dX5_find_124 : decode cX5_find 124 = .ok (.if_icmp .ge 39, 3) := by decide +kernel
theorem dX5_find_127 : decode cX5_find 127 = .ok (.aload_n 0, 1) := by decide +kernel
theorem dX5_find_128 : decode cX5_find 128 = .ok (.iload 5, 2) := by decide +kernel
theorem dX5_find_130 : decode cX5_find 130 = .ok (.invokevirtual 58, 3) := by decide +kernel
theorem dX5_find_133 : decode cX5_find 133 = .ok (.ifCond .eq 24, 3) := by decide +kernel
theorem dX5_find_136 : decode cX5_find 136 = .ok (.aload_n 0, 1) := by decide +kernel
theorem dX5_find_137 : decode cX5_find 137 = .ok (.getfield 20, 3) := by decide +kernel
theorem dX5_find_140 : decode cX5_find 140 = .ok (.aload_n 0, 1) := by decide +kernel
theorem dX5_find_141 : decode cX5_find 141 = .ok (.getfield 23, 3) := by decide +kernel
theorem dX5_find_144 : decode cX5_find 144 = .ok (.iload 5, 2) := by decide +kernel
theorem dX5_find_146 : decode cX5_find 146 = .ok (.iastore, 1) := by decide +kernel
theorem dX5_find_147 : decode cX5_find 147 = .ok (.aload_n 0, 1) := by decide +kernel
theorem dX5_find_148 : decode cX5_find 148 = .ok (.dup, 1) := by decide +kernel
theorem dX5_find_149 : decode cX5_find 149 = .ok (.getfield 23, 3) := by decide +kernel
theorem dX5_find_152 : decode cX5_find 152 = .ok (.iconst 1, 1) := by decide +kernel
theorem dX5_find_153 : decode cX5_find 153 = .ok (.iadd, 1) := by decide +kernel
theorem dX5_find_154 : decode cX5_find 154 = .ok (.putfield 23, 3) := by decide +kernel
theorem dX5_find_157 : decode cX5_find 157 = .ok (.iinc 5 1, 3) := by decide +kernel
theorem dX5_find_160 : decode cX5_find 160 = .ok (.goto (-41), 3) := by decide +kernel
theorem dX5_find_163 : decode cX5_find 163 = .ok (.aload_n 0, 1) := by decide +kernel
theorem dX5_find_164 : decode cX5_find 164 = .ok (.iload_n 1, 1) := by decide +kernel
theorem dX5_find_165 : decode cX5_find 165 = .ok (.putfield 27, 3) := by decide +kernel
theorem dX5_find_168 : decode cX5_find 168 = .ok (.return_, 1) := by decide +kernel
theorem dX5_findLikeBars_0 : decode cX5_findLikeBars 0 = .ok (.iconst 0, 1) := by decide +kernel
theorem dX5_findLikeBars_1 : decode cX5_findLikeBars 1 = .ok (.istore_n 1, 1) := by decide +kernel
theorem dX5_findLikeBars_2 : decode cX5_findLikeBars 2 = .ok (.iload_n 1, 1) := by decide +kernel
theorem dX5_findLikeBars_3 : decode cX5_findLikeBars 3 = .ok (.iconst 4, 1) := by decide +kernel
theorem dX5_findLikeBars_4 : decode cX5_findLikeBars 4 = .ok (.if_icmp .ge 59, 3) := by decide +kernel
theorem dX5_findLikeBars_7 : decode cX5_findLikeBars 7 = .ok (.iconst 0, 1) := by decide +kernel
theorem dX5_findLikeBars_8 : decode cX5_findLikeBars 8 = .ok (.istore_n 2, 1) := by decide +kernel
theorem dX5_findLikeBars_9 : decode cX5_findLikeBars 9 = .ok (.iload_n 2, 1) := by decide +kernel
theorem dX5_findLikeBars_10 : decode cX5_findLikeBars 10 = .ok (.iconst 5, 1) := by decide +kernel
theorem dX5_findLikeBars_11 : decode cX5_findLikeBars 11 = .ok (.if_icmp .ge 46, 3) := by decide +kernel
theorem dX5_findLikeBars_14 : decode cX5_findLikeBars 14 = .ok (.iconst 0, 1) := by decide +kernel
theorem dX5_findLikeBars_15 : decode cX5_findLikeBars 15 = .ok (.istore_n 3, 1) := by decide +kernel
theorem dX5_findLikeBars_16 : decode cX5_findLikeBars 16 = .ok (.iload_n 3, 1) := by decide +kernel
theorem dX5_findLikeBars_17 : decode cX5_findLikeBars 17 = .ok (.iload_n 2, 1) := by decide +kernel
theorem dX5_findLikeBars_18 : decode cX5_findLikeBars 18 = .ok (.if_icmp .ge 24, 3) := by decide +kernel
theorem dX5_findLikeBars_21 : decode cX5_findLikeBars 21 = .ok (.aload_n 0, 1) := by decide +kernel
theorem dX5_findLikeBars_22 : decode cX5_findLikeBars 22 = .ok (.iload_n 1, 1) := by decide +kernel
theorem dX5_findLikeBars_23 : decode cX5_findLikeBars 23 = .ok (.iload_n 3, 1) := by decide +kernel
theorem dX5_findLikeBars_24 : decode cX5_findLikeBars 24 = .ok (.invokevirtual 62, 3) := by decide +kernel
theorem dX5_findLikeBars_27 : decode cX5_findLikeBars 27 = .ok (.aload_n 0, 1) := by decide +kernel
theorem dX5_findLikeBars_28 : decode cX5_findLikeBars 28 = .ok (.iload_n 1, 1) := by decide +kernel
theorem dX5_findLikeBars_29 : decode cX5_findLikeBars 29 = .ok (.iload_n 2, 1) := by decide +kernel
theorem dX5_findLikeBars_30 : decode cX5_findLikeBars 30 = .ok (.invokevirtual 62, 3) := by decide +kernel
theorem dX5_findLikeBars_33 : decode cX5_findLikeBars 33 = .ok (.if_icmp .eq 9, 3) := by decide +kernel
theorem dX5_findLikeBars_36 : decode cX5_findLikeBars 36 = .ok (.iinc 3 1, 3) := by decide +kernel
theorem dX5_findLikeBars_39 : decode cX5_findLikeBars 39 = .ok (.goto (-23), 3) := by decide +kernel
theorem dX5_findLikeBars_42 : decode cX5_findLikeBars 42 = .ok (.aload_n 0, 1) := by decide +kernel
theorem dX5_findLikeBars_43 : decode cX5_findLikeBars 43 = .ok (.getfield 17, 3) := by decide +kernel
theorem dX5_findLikeBars_46 : decode cX5_findLikeBars 46 = .ok (.iload_n 1, 1) := by decide +kernel
theorem dX5_findLikeBars_47 : decode cX5_findLikeBars 47 = .ok (.aaload, 1) := by decide +kernel
theorem dX5_findLikeBars_48 : decode cX5_findLikeBars 48 = .ok (.iload_n 2, 1) := by decide +kernel
theorem dX5_findLikeBars_49 : decode cX5_findLikeBars 49 = .ok (.iload_n 3, 1) := by decide +kernel
theorem dX5_findLikeBars_50 : decode cX5_findLikeBars 50 = .ok (.iastore, 1) := by decide +kernel
theorem dX5_findLikeBars_51 : decode cX5_findLikeBars 51 = .ok (.iinc 2 1, 3) := by decide +kernel
theorem dX5_findLikeBars_54 : decode cX5_findLikeBars 54 = .ok (.goto (-45), 3) := by decide +kernel
theorem dX5_findLikeBars_57 : decode cX5_findLikeBars 57 = .ok (.iinc 1 1, 3) := by decide +kernel
theorem dX5_findLikeBars_60 : decode cX5_findLikeBars 60 = .ok (.goto (-58), 3) := by decide +kernel
theorem dX5_findLikeBars_63 : decode cX5_findLikeBars 63 = .ok (.return_, 1) := by decide +kernel
theorem dX5_kindsTaken_0 : decode cX5_kindsTaken 0 = .ok (.iconst 0, 1) := by decide +kernel
theorem dX5_kindsTaken_1 : decode cX5_kindsTaken 1 = .ok (.istore_n 3, 1) := by decide +kernel
theorem dX5_kindsTaken_2 : decode cX5_kindsTaken 2 = .ok (.iconst 0, 1) := by decide +kernel
theorem dX5_kindsTaken_3 : decode cX5_kindsTaken 3 = .ok (.istore 4, 2) := by decide +kernel
theorem dX5_kindsTaken_5 : decode cX5_kindsTaken 5 = .ok (.iload 4, 2) := by decide +kernel
theorem dX5_kindsTaken_7 : decode cX5_kindsTaken 7 = .ok (.iconst 4, 1) := by decide +kernel
theorem dX5_kindsTaken_8 : decode cX5_kindsTaken 8 = .ok (.if_icmp .ge 48, 3) := by decide +kernel
theorem dX5_kindsTaken_11 : decode cX5_kindsTaken 11 = .ok (.iload_n 2, 1) := by decide +kernel
theorem dX5_kindsTaken_12 : decode cX5_kindsTaken 12 = .ok (.ifCond .eq 31, 3) := by decide +kernel
theorem dX5_kindsTaken_15 : decode cX5_kindsTaken 15 = .ok (.aload_n 0, 1) := by decide +kernel
theorem dX5_kindsTaken_16 : decode cX5_kindsTaken 16 = .ok (.getfield 30, 3) := by decide +kernel
theorem dX5_kindsTaken_19 : decode cX5_kindsTaken 19 = .ok (.getfield 66, 3) := by decide +kernel
theorem dX5_kindsTaken_22 : decode cX5_kindsTaken 22 = .ok (.iload_n 1, 1) := by decide +kernel
theorem dX5_kindsTaken_23 : decode cX5_kindsTaken 23 = .ok (.aaload, 1) := by decide +kernel
theorem dX5_kindsTaken_24 : decode cX5_kindsTaken 24 = .ok (.iload 4, 2) := by decide +kernel
theorem dX5_kindsTaken_26 : decode cX5_kindsTaken 26 = .ok (.iaload, 1) := by decide +kernel
theorem dX5_kindsTaken_27 : decode cX5_kindsTaken 27 = .ok (.aload_n 0, 1) := by decide +kernel
theorem dX5_kindsTaken_28 : decode cX5_kindsTaken 28 = .ok (.getfield 30, 3) := by decide +kernel
theorem dX5_kindsTaken_31 : decode cX5_kindsTaken 31 = .ok (.getfield 66, 3) := by decide +kernel
theorem dX5_kindsTaken_34 : decode cX5_kindsTaken 34 = .ok (.iload_n 1, 1) := by decide +kernel
theorem dX5_kindsTaken_35 : decode cX5_kindsTaken 35 = .ok (.aaload, 1) := by decide +kernel
theorem dX5_kindsTaken_36 : decode cX5_kindsTaken 36 = .ok (.iload_n 2, 1) := by decide +kernel
theorem dX5_kindsTaken_37 : decode cX5_kindsTaken 37 = .ok (.iconst 1, 1) := by decide +kernel
theorem dX5_kindsTaken_38 : decode cX5_kindsTaken 38 = .ok (.isub, 1) := by decide +kernel
theorem dX5_kindsTaken_39 : decode cX5_kindsTaken 39 = .ok (.iaload, 1) := by decide +kernel
theorem dX5_kindsTaken_40 : decode cX5_kindsTaken 40 = .ok (.if_icmp .lt 10, 3) := by decide +kernel
theorem dX5_kindsTaken_43 : decode cX5_kindsTaken 43 = .ok (.iload_n 3, 1) := by decide +kernel
theorem dX5_kindsTaken_44 : decode cX5_kindsTaken 44 = .ok (.iconst 1, 1) := by decide +kernel
theorem dX5_kindsTaken_45 : decode cX5_kindsTaken 45 = .ok (.iload 4, 2) := by decide +kernel
theorem dX5_kindsTaken_47 : decode cX5_kindsTaken 47 = .ok (.ishl, 1) := by decide +kernel
theorem dX5_kindsTaken_48 : decode cX5_kindsTaken 48 = .ok (.ior, 1) := by decide +kernel
theorem dX5_kindsTaken_49 : decode cX5_kindsTaken 49 = .ok (.istore_n 3, 1) := by decide +kernel
theorem dX5_kindsTaken_50 : decode cX5_kindsTaken 50 = .ok (.iinc 4 1, 3) := by decide +kernel
theorem dX5_kindsTaken_53 : decode cX5_kindsTaken 53 = .ok (.goto (-48), 3) := by decide +kernel
theorem dX5_kindsTaken_56 : decode cX5_kindsTaken 56 = .ok (.iload_n 3, 1) := by decide +kernel
theorem dX5_kindsTaken_57 : decode cX5_kindsTaken 57 = .ok (.ireturn, 1) := by decide +kernel
end
section
theorem dX5_likeSetting_0 : decode cX5_likeSetting 0 = .ok (.iconst 0, 1) := by decide +kernel
theorem dX5_likeSetting_1 : decode cX5_likeSetting 1 = .ok (.istore_n 2, 1) := by decide +kernel
theorem dX5_likeSetting_2 : decode cX5_likeSetting 2 = .ok (.iconst 0, 1) := by decide +kernel
theorem dX5_likeSetting_3 : decode cX5_likeSetting 3 = .ok (.istore_n 3, 1) := by decide +kernel
theorem dX5_likeSetting_4 : decode cX5_likeSetting 4 = .ok (.iload_n 3, 1) := by decide +kernel
theorem dX5_likeSetting_5 : decode cX5_likeSetting 5 = .ok (.iconst 4, 1) := by decide +kernel
theorem dX5_likeSetting_6 : decode cX5_likeSetting 6 = .ok (.if_icmp .ge 30, 3) := by decide +kernel
theorem dX5_likeSetting_9 : decode cX5_likeSetting 9 = .ok (.iload_n 2, 1) := by decide +kernel
theorem dX5_likeSetting_10 : decode cX5_likeSetting 10 = .ok (.aload_n 0, 1) := by decide +kernel
theorem dX5_likeSetting_11 : decode cX5_likeSetting 11 = .ok (.getfield 17, 3) := by decide +kernel
theorem dX5_likeSetting_14 : decode cX5_likeSetting 14 = .ok (.iload_n 3, 1) := by decide +kernel
theorem dX5_likeSetting_15 : decode cX5_likeSetting 15 = .ok (.aaload, 1) := by decide +kernel
theorem dX5_likeSetting_16 : decode cX5_likeSetting 16 = .ok (.iload_n 1, 1) := by decide +kernel
theorem dX5_likeSetting_17 : decode cX5_likeSetting 17 = .ok (.iload_n 3, 1) := by decide +kernel
theorem dX5_likeSetting_18 : decode cX5_likeSetting 18 = .ok (.invokestatic 71, 3) := by decide +kernel
theorem dX5_likeSetting_21 : decode cX5_likeSetting 21 = .ok (.iaload, 1) := by decide +kernel
theorem dX5_likeSetting_22 : decode cX5_likeSetting 22 = .ok (.getstatic 74, 3) := by decide +kernel
theorem dX5_likeSetting_25 : decode cX5_likeSetting 25 = .ok (.iload_n 3, 1) := by decide +kernel
theorem dX5_likeSetting_26 : decode cX5_likeSetting 26 = .ok (.iaload, 1) := by decide +kernel
theorem dX5_likeSetting_27 : decode cX5_likeSetting 27 = .ok (.imul, 1) := by decide +kernel
theorem dX5_likeSetting_28 : decode cX5_likeSetting 28 = .ok (.iadd, 1) := by decide +kernel
theorem dX5_likeSetting_29 : decode cX5_likeSetting 29 = .ok (.istore_n 2, 1) := by decide +kernel
theorem dX5_likeSetting_30 : decode cX5_likeSetting 30 = .ok (.iinc 3 1, 3) := by decide +kernel
theorem dX5_likeSetting_33 : decode cX5_likeSetting 33 = .ok (.goto (-29), 3) := by decide +kernel
theorem dX5_likeSetting_36 : decode cX5_likeSetting 36 = .ok (.iload_n 2, 1) := by decide +kernel
theorem dX5_likeSetting_37 : decode cX5_likeSetting 37 = .ok (.ireturn, 1) := by decide +kernel
theorem dX5_barOf_0 : decode cX5_barOf 0 = .ok (.iload_n 0, 1) := by decide +kernel
theorem dX5_barOf_1 : decode cX5_barOf 1 = .ok (.getstatic 74, 3) := by decide +kernel
theorem dX5_barOf_4 : decode cX5_barOf 4 = .ok (.iload_n 1, 1) := by decide +kernel
theorem dX5_barOf_5 : decode cX5_barOf 5 = .ok (.iaload, 1) := by decide +kernel
theorem dX5_barOf_6 : decode cX5_barOf 6 = .ok (.idiv, 1) := by decide +kernel
theorem dX5_barOf_7 : decode cX5_barOf 7 = .ok (.iconst 5, 1) := by decide +kernel
theorem dX5_barOf_8 : decode cX5_barOf 8 = .ok (.irem, 1) := by decide +kernel
theorem dX5_barOf_9 : decode cX5_barOf 9 = .ok (.ireturn, 1) := by decide +kernel
theorem dX5_setWays_0 : decode cX5_setWays 0 = .ok (.iconst 0, 1) := by decide +kernel
theorem dX5_setWays_1 : decode cX5_setWays 1 = .ok (.istore_n 3, 1) := by decide +kernel
theorem dX5_setWays_2 : decode cX5_setWays 2 = .ok (.iload_n 3, 1) := by decide +kernel
theorem dX5_setWays_3 : decode cX5_setWays 3 = .ok (.iconst 4, 1) := by decide +kernel
theorem dX5_setWays_4 : decode cX5_setWays 4 = .ok (.if_icmp .ge 53, 3) := by decide +kernel
theorem dX5_setWays_7 : decode cX5_setWays 7 = .ok (.iload_n 2, 1) := by decide +kernel
theorem dX5_setWays_8 : decode cX5_setWays 8 = .ok (.iload_n 3, 1) := by decide +kernel
theorem dX5_setWays_9 : decode cX5_setWays 9 = .ok (.invokestatic 71, 3) := by decide +kernel
theorem dX5_setWays_12 : decode cX5_setWays 12 = .ok (.istore 4, 2) := by decide +kernel
theorem dX5_setWays_14 : decode cX5_setWays 14 = .ok (.iload 4, 2) := by decide +kernel
theorem dX5_setWays_16 : decode cX5_setWays 16 = .ok (.ifCond .ne 14, 3) := by decide +kernel
theorem dX5_setWays_19 : decode cX5_setWays 19 = .ok (.aload_n 1, 1) := by decide +kernel
theorem dX5_setWays_20 : decode cX5_setWays 20 = .ok (.iload_n 3, 1) := by decide +kernel
theorem dX5_setWays_21 : decode cX5_setWays 21 = .ok (.iconst 0, 1) := by decide +kernel
theorem dX5_setWays_22 : decode cX5_setWays 22 = .ok (.iconst 0, 1) := by decide +kernel
theorem dX5_setWays_23 : decode cX5_setWays 23 = .ok (.iconst 0, 1) := by decide +kernel
theorem dX5_setWays_24 : decode cX5_setWays 24 = .ok (.invokevirtual 77, 3) := by decide +kernel
theorem dX5_setWays_27 : decode cX5_setWays 27 = .ok (.goto 24, 3) := by decide +kernel
theorem dX5_setWays_30 : decode cX5_setWays 30 = .ok (.aload_n 1, 1) := by decide +kernel
theorem dX5_setWays_31 : decode cX5_setWays 31 = .ok (.iload_n 3, 1) := by decide +kernel
theorem dX5_setWays_32 : decode cX5_setWays 32 = .ok (.iconst 1, 1) := by decide +kernel
theorem dX5_setWays_33 : decode cX5_setWays 33 = .ok (.aload_n 0, 1) := by decide +kernel
theorem dX5_setWays_34 : decode cX5_setWays 34 = .ok (.getfield 30, 3) := by decide +kernel
theorem dX5_setWays_37 : decode cX5_setWays 37 = .ok (.getfield 66, 3) := by decide +kernel
theorem dX5_setWays_40 : decode cX5_setWays 40 = .ok (.iload_n 3, 1) := by decide +kernel
theorem dX5_setWays_41 : decode cX5_setWays 41 = .ok (.aaload, 1) := by decide +kernel
theorem dX5_setWays_42 : decode cX5_setWays 42 = .ok (.iload 4, 2) := by decide +kernel
theorem dX5_setWays_44 : decode cX5_setWays 44 = .ok (.iconst 1, 1) := by decide +kernel
theorem dX5_setWays_45 : decode cX5_setWays 45 = .ok (.isub, 1) := by decide +kernel
theorem dX5_setWays_46 : decode cX5_setWays 46 = .ok (.iaload, 1) := by decide +kernel
theorem dX5_setWays_47 : decode cX5_setWays 47 = .ok (.iconst 0, 1) := by decide +kernel
theorem dX5_setWays_48 : decode cX5_setWays 48 = .ok (.invokevirtual 77, 3) := by decide +kernel
theorem dX5_setWays_51 : decode cX5_setWays 51 = .ok (.iinc 3 1, 3) := by decide +kernel
theorem dX5_setWays_54 : decode cX5_setWays 54 = .ok (.goto (-52), 3) := by decide +kernel
theorem dX5_setWays_57 : decode cX5_setWays 57 = .ok (.return_, 1) := by decide +kernel
theorem dX5_isAtRest_0 : decode cX5_isAtRest 0 = .ok (.iconst 0, 1) := by decide +kernel
theorem dX5_isAtRest_1 : decode cX5_isAtRest 1 = .ok (.istore_n 2, 1) := by decide +kernel
theorem dX5_isAtRest_2 : decode cX5_isAtRest 2 = .ok (.iload_n 2, 1) := by decide +kernel
theorem dX5_isAtRest_3 : decode cX5_isAtRest 3 = .ok (.iconst 4, 1) := by decide +kernel
theorem dX5_isAtRest_4 : decode cX5_isAtRest 4 = .ok (.if_icmp .ge 76, 3) := by decide +kernel
theorem dX5_isAtRest_7 : decode cX5_isAtRest 7 = .ok (.iload_n 1, 1) := by decide +kernel
theorem dX5_isAtRest_8 : decode cX5_isAtRest 8 = .ok (.iload_n 1, 1) := by decide +kernel
theorem dX5_isAtRest_9 : decode cX5_isAtRest 9 = .ok (.iload_n 2, 1) := by decide +kernel
theorem dX5_isAtRest_10 : decode cX5_isAtRest 10 = .ok (.invokestatic 71, 3) := by decide +kernel
theorem dX5_isAtRest_13 : decode cX5_isAtRest 13 = .ok (.getstatic 74, 3) := by decide +kernel
theorem dX5_isAtRest_16 : decode cX5_isAtRest 16 = .ok (.iload_n 2, 1) := by decide +kernel
theorem dX5_isAtRest_17 : decode cX5_isAtRest 17 = .ok (.iaload, 1) := by decide +kernel
theorem dX5_isAtRest_18 : decode cX5_isAtRest 18 = .ok (.imul, 1) := by decide +kernel
theorem dX5_isAtRest_19 : decode cX5_isAtRest 19 = .ok (.isub, 1) := by decide +kernel
theorem dX5_isAtRest_20 : decode cX5_isAtRest 20 = .ok (.istore_n 3, 1) := by decide +kernel
theorem dX5_isAtRest_21 : decode cX5_isAtRest 21 = .ok (.iconst 0, 1) := by decide +kernel
theorem dX5_isAtRest_22 : decode cX5_isAtRest 22 = .ok (.istore 4, 2) := by decide +kernel
theorem dX5_isAtRest_24 : decode cX5_isAtRest 24 = .ok (.iload 4, 2) := by decide +kernel
theorem dX5_isAtRest_26 : decode cX5_isAtRest 26 = .ok (.iconst 5, 1) := by decide +kernel
theorem dX5_isAtRest_27 : decode cX5_isAtRest 27 = .ok (.if_icmp .ge 47, 3) := by decide +kernel
theorem dX5_isAtRest_30 : decode cX5_isAtRest 30 = .ok (.iload_n 3, 1) := by decide +kernel
theorem dX5_isAtRest_31 : decode cX5_isAtRest 31 = .ok (.iload 4, 2) := by decide +kernel
theorem dX5_isAtRest_33 : decode cX5_isAtRest 33 = .ok (.getstatic 74, 3) := by decide +kernel
theorem dX5_isAtRest_36 : decode cX5_isAtRest 36 = .ok (.iload_n 2, 1) := by decide +kernel
theorem dX5_isAtRest_37 : decode cX5_isAtRest 37 = .ok (.iaload, 1) := by decide +kernel
theorem dX5_isAtRest_38 : decode cX5_isAtRest 38 = .ok (.imul, 1) := by decide +kernel
theorem dX5_isAtRest_39 : decode cX5_isAtRest 39 = .ok (.iadd, 1) := by decide +kernel
theorem dX5_isAtRest_40 : decode cX5_isAtRest 40 = .ok (.istore 5, 2) := by decide +kernel
theorem dX5_isAtRest_42 : decode cX5_isAtRest 42 = .ok (.aload_n 0, 1) := by decide +kernel
theorem dX5_isAtRest_43 : decode cX5_isAtRest 43 = .ok (.getfield 9, 3) := by decide +kernel
theorem dX5_isAtRest_46 : decode cX5_isAtRest 46 = .ok (.iload 5, 2) := by decide +kernel
theorem dX5_isAtRest_48 : decode cX5_isAtRest 48 = .ok (.iconst 4, 1) := by decide +kernel
theorem dX5_isAtRest_49 : decode cX5_isAtRest 49 = .ok (.imul, 1) := by decide +kernel
theorem dX5_isAtRest_50 : decode cX5_isAtRest 50 = .ok (.iload_n 2, 1) := by decide +kernel
theorem dX5_isAtRest_51 : decode cX5_isAtRest 51 = .ok (.iadd, 1) := by decide +kernel
theorem dX5_isAtRest_52 : decode cX5_isAtRest 52 = .ok (.iaload, 1) := by decide +kernel
theorem dX5_isAtRest_53 : decode cX5_isAtRest 53 = .ok (.aload_n 0, 1) := by decide +kernel
theorem dX5_isAtRest_54 : decode cX5_isAtRest 54 = .ok (.getfield 9, 3) := by decide +kernel
theorem dX5_isAtRest_57 : decode cX5_isAtRest 57 = .ok (.iload_n 1, 1) := by decide +kernel
theorem dX5_isAtRest_58 : decode cX5_isAtRest 58 = .ok (.iconst 4, 1) := by decide +kernel
theorem dX5_isAtRest_59 : decode cX5_isAtRest 59 = .ok (.imul, 1) := by decide +kernel
theorem dX5_isAtRest_60 : decode cX5_isAtRest 60 = .ok (.iload_n 2, 1) := by decide +kernel
theorem dX5_isAtRest_61 : decode cX5_isAtRest 61 = .ok (.iadd, 1) := by decide +kernel
theorem dX5_isAtRest_62 : decode cX5_isAtRest 62 = .ok (.iaload, 1) := by decide +kernel
theorem dX5_isAtRest_63 : decode cX5_isAtRest 63 = .ok (.if_icmp .le 5, 3) := by decide +kernel
theorem dX5_isAtRest_66 : decode cX5_isAtRest 66 = .ok (.iconst 0, 1) := by decide +kernel
theorem dX5_isAtRest_67 : decode cX5_isAtRest 67 = .ok (.ireturn, 1) := by decide +kernel
theorem dX5_isAtRest_68 : decode cX5_isAtRest 68 = .ok (.iinc 4 1, 3) := by decide +kernel
theorem dX5_isAtRest_71 : decode cX5_isAtRest 71 = .ok (.goto (-47), 3) := by decide +kernel
theorem dX5_isAtRest_74 : decode cX5_isAtRest 74 = .ok (.iinc 2 1, 3) := by decide +kernel
theorem dX5_isAtRest_77 : decode cX5_isAtRest 77 = .ok (.goto (-75), 3) := by decide +kernel
theorem dX5_isAtRest_80 : decode cX5_isAtRest 80 = .ok (.iconst 1, 1) := by decide +kernel
theorem dX5_isAtRest_81 : decode cX5_isAtRest 81 = .ok (.ireturn, 1) := by decide +kernel
theorem dX6_init_0 : decode cX6_init 0 = .ok (.aload_n 0, 1) := by decide +kernel
theorem dX6_init_1 : decode cX6_init 1 = .ok (.invokespecial 3, 3) := by decide +kernel
theorem dX6_init_4 : decode cX6_init 4 = .ok (.aload_n 0, 1) := by decide +kernel
theorem dX6_init_5 : decode cX6_init 5 = .ok (.bipush 24, 2) := by decide +kernel
theorem dX6_init_7 : decode cX6_init 7 = .ok (.newarray .int, 2) := by decide +kernel
theorem dX6_init_9 : decode cX6_init 9 = .ok (.putfield 9, 3) := by decide +kernel
theorem dX6_init_12 : decode cX6_init 12 = .ok (.aload_n 0, 1) := by decide +kernel
theorem dX6_init_13 : decode cX6_init 13 = .ok (.iconst 0, 1) := by decide +kernel
theorem dX6_init_14 : decode cX6_init 14 = .ok (.putfield 15, 3) := by decide +kernel
theorem dX6_init_17 : decode cX6_init 17 = .ok (.return_, 1) := by decide +kernel
theorem dX6_isFull_0 : decode cX6_isFull 0 = .ok (.aload_n 0, 1) := by decide +kernel
theorem dX6_isFull_1 : decode cX6_isFull 1 = .ok (.getfield 15, 3) := by decide +kernel
theorem dX6_isFull_4 : decode cX6_isFull 4 = .ok (.bipush 24, 2) := by decide +kernel
theorem dX6_isFull_6 : decode cX6_isFull 6 = .ok (.if_icmp .lt 7, 3) := by decide +kernel
theorem dX6_isFull_9 : decode cX6_isFull 9 = .ok (.iconst 1, 1) := by decide +kernel
theorem dX6_isFull_10 : decode cX6_isFull 10 = .ok (.goto 4, 3) := by decide +kernel
theorem dX6_isFull_13 : decode cX6_isFull 13 = .ok (.iconst 0, 1) := by decide +kernel
theorem dX6_isFull_14 : decode cX6_isFull 14 = .ok (.ireturn, 1) := by decide +kernel
theorem dX6_add_0 : decode cX6_add 0 = .ok (.aload_n 0, 1) := by decide +kernel
theorem dX6_add_1 : decode cX6_add 1 = .ok (.invokevirtual 19, 3) := by decide +kernel
theorem dX6_add_4 : decode cX6_add 4 = .ok (.ifCond .ne 23, 3) := by decide +kernel
theorem dX6_add_7 : decode cX6_add 7 = .ok (.aload_n 0, 1) := by decide +kernel
theorem dX6_add_8 : decode cX6_add 8 = .ok (.getfield 9, 3) := by decide +kernel
theorem dX6_add_11 : decode cX6_add 11 = .ok (.aload_n 0, 1) := by decide +kernel
theorem dX6_add_12 : decode cX6_add 12 = .ok (.getfield 15, 3) := by decide +kernel
theorem dX6_add_15 : decode cX6_add 15 = .ok (.iload_n 1, 1) := by decide +kernel
theorem dX6_add_16 : decode cX6_add 16 = .ok (.iastore, 1) := by decide +kernel
theorem dX6_add_17 : decode cX6_add 17 = .ok (.aload_n 0, 1) := by decide +kernel
theorem dX6_add_18 : decode cX6_add 18 = .ok (.dup, 1) := by decide +kernel
theorem dX6_add_19 : decode cX6_add 19 = .ok (.getfield 15, 3) := by decide +kernel
theorem dX6_add_22 : decode cX6_add 22 = .ok (.iconst 1, 1) := by decide +kernel
theorem dX6_add_23 : decode cX6_add 23 = .ok (.iadd, 1) := by decide +kernel
theorem dX6_add_24 : decode cX6_add 24 = .ok (.putfield 15, 3) := by decide +kernel
theorem dX6_add_27 : decode cX6_add 27 = .ok (.aload_n 0, 1) := by decide +kernel
theorem dX6_add_28 : decode cX6_add 28 = .ok (.getfield 15, 3) := by decide +kernel
theorem dX6_add_31 : decode cX6_add 31 = .ok (.ireturn, 1) := by decide +kernel
theorem dX6_inWeek_0 : decode cX6_inWeek 0 = .ok (.aload_n 0, 1) := by decide +kernel
theorem dX6_inWeek_1 : decode cX6_inWeek 1 = .ok (.getfield 15, 3) := by decide +kernel
theorem dX6_inWeek_4 : decode cX6_inWeek 4 = .ok (.ifCond .ne 7, 3) := by decide +kernel
theorem dX6_inWeek_7 : decode cX6_inWeek 7 = .ok (.iconst (-1), 1) := by decide +kernel
theorem dX6_inWeek_8 : decode cX6_inWeek 8 = .ok (.goto 14, 3) := by decide +kernel
theorem dX6_inWeek_11 : decode cX6_inWeek 11 = .ok (.aload_n 0, 1) := by decide +kernel
theorem dX6_inWeek_12 : decode cX6_inWeek 12 = .ok (.getfield 9, 3) := by decide +kernel
theorem dX6_inWeek_15 : decode cX6_inWeek 15 = .ok (.iload_n 1, 1) := by decide +kernel
theorem dX6_inWeek_16 : decode cX6_inWeek 16 = .ok (.aload_n 0, 1) := by decide +kernel
theorem dX6_inWeek_17 : decode cX6_inWeek 17 = .ok (.getfield 15, 3) := by decide +kernel
theorem dX6_inWeek_20 : decode cX6_inWeek 20 = .ok (.irem, 1) := by decide +kernel
theorem dX6_inWeek_21 : decode cX6_inWeek 21 = .ok (.iaload, 1) := by decide +kernel
theorem dX6_inWeek_22 : decode cX6_inWeek 22 = .ok (.ireturn, 1) := by decide +kernel
theorem dX7_init_0 : decode cX7_init 0 = .ok (.aload_n 0, 1) := by decide +kernel
theorem dX7_init_1 : decode cX7_init 1 = .ok (.invokespecial 3, 3) := by decide +kernel
theorem dX7_init_4 : decode cX7_init 4 = .ok (.aload_n 0, 1) := by decide +kernel
theorem dX7_init_5 : decode cX7_init 5 = .ok (.iconst 4, 1) := by decide +kernel
theorem dX7_init_6 : decode cX7_init 6 = .ok (.newarray .int, 2) := by decide +kernel
theorem dX7_init_8 : decode cX7_init 8 = .ok (.putfield 9, 3) := by decide +kernel
theorem dX7_init_11 : decode cX7_init 11 = .ok (.aload_n 0, 1) := by decide +kernel
theorem dX7_init_12 : decode cX7_init 12 = .ok (.iconst 4, 1) := by decide +kernel
theorem dX7_init_13 : decode cX7_init 13 = .ok (.newarray .int, 2) := by decide +kernel
theorem dX7_init_15 : decode cX7_init 15 = .ok (.putfield 15, 3) := by decide +kernel
theorem dX7_init_18 : decode cX7_init 18 = .ok (.aload_n 0, 1) := by decide +kernel
theorem dX7_init_19 : decode cX7_init 19 = .ok (.iconst 4, 1) := by decide +kernel
theorem dX7_init_20 : decode cX7_init 20 = .ok (.newarray .int, 2) := by decide +kernel
theorem dX7_init_22 : decode cX7_init 22 = .ok (.putfield 18, 3) := by decide +kernel
theorem dX7_init_25 : decode cX7_init 25 = .ok (.aload_n 0, 1) := by decide +kernel
theorem dX7_init_26 : decode cX7_init 26 = .ok (.invokevirtual 21, 3) := by decide +kernel
theorem dX7_init_29 : decode cX7_init 29 = .ok (.return_, 1) := by decide +kernel
theorem dX7_setAsAtFirst_0 : decode cX7_setAsAtFirst 0 = .ok (.aload_n 0, 1) := by decide +kernel
theorem dX7_setAsAtFirst_1 : decode cX7_setAsAtFirst 1 = .ok (.iconst 0, 1) := by decide +kernel
theorem dX7_setAsAtFirst_2 : decode cX7_setAsAtFirst 2 = .ok (.putfield 24, 3) := by decide +kernel
theorem dX7_setAsAtFirst_5 : decode cX7_setAsAtFirst 5 = .ok (.aload_n 0, 1) := by decide +kernel
theorem dX7_setAsAtFirst_6 : decode cX7_setAsAtFirst 6 = .ok (.iconst 2, 1) := by decide +kernel
theorem dX7_setAsAtFirst_7 : decode cX7_setAsAtFirst 7 = .ok (.putfield 28, 3) := by decide +kernel
theorem dX7_setAsAtFirst_10 : decode cX7_setAsAtFirst 10 = .ok (.aload_n 0, 1) := by decide +kernel
theorem dX7_setAsAtFirst_11 : decode cX7_setAsAtFirst 11 = .ok (.iconst 0, 1) := by decide +kernel
theorem dX7_setAsAtFirst_12 : decode cX7_setAsAtFirst 12 = .ok (.putfield 31, 3) := by decide +kernel
theorem dX7_setAsAtFirst_15 : decode cX7_setAsAtFirst 15 = .ok (.aload_n 0, 1) := by decide +kernel
theorem dX7_setAsAtFirst_16 : decode cX7_setAsAtFirst 16 = .ok (.iconst 1, 1) := by decide +kernel
theorem dX7_setAsAtFirst_17 : decode cX7_setAsAtFirst 17 = .ok (.putfield 34, 3) := by decide +kernel
theorem dX7_setAsAtFirst_20 : decode cX7_setAsAtFirst 20 = .ok (.iconst 0, 1) := by decide +kernel
theorem dX7_setAsAtFirst_21 : decode cX7_setAsAtFirst 21 = .ok (.istore_n 1, 1) := by decide +kernel
theorem dX7_setAsAtFirst_22 : decode cX7_setAsAtFirst 22 = .ok (.iload_n 1, 1) := by decide +kernel
theorem dX7_setAsAtFirst_23 : decode cX7_setAsAtFirst 23 = .ok (.iconst 4, 1) := by decide +kernel
theorem dX7_setAsAtFirst_24 : decode cX7_setAsAtFirst 24 = .ok (.if_icmp .ge 17, 3) := by decide +kernel
theorem dX7_setAsAtFirst_27 : decode cX7_setAsAtFirst 27 = .ok (.aload_n 0, 1) := by decide +kernel
theorem dX7_setAsAtFirst_28 : decode cX7_setAsAtFirst 28 = .ok (.iload_n 1, 1) := by decide +kernel
theorem dX7_setAsAtFirst_29 : decode cX7_setAsAtFirst 29 = .ok (.iconst 0, 1) := by decide +kernel
theorem dX7_setAsAtFirst_30 : decode cX7_setAsAtFirst 30 = .ok (.iconst 0, 1) := by decide +kernel
theorem dX7_setAsAtFirst_31 : decode cX7_setAsAtFirst 31 = .ok (.iconst 0, 1) := by decide +kernel
theorem dX7_setAsAtFirst_32 : decode cX7_setAsAtFirst 32 = .ok (.invokevirtual 37, 3) := by decide +kernel
theorem dX7_setAsAtFirst_35 : decode cX7_setAsAtFirst 35 = .ok (.iinc 1 1, 3) := by decide +kernel
theorem dX7_setAsAtFirst_38 : decode cX7_setAsAtFirst 38 = .ok (.goto (-16), 3) := by decide +kernel
theorem dX7_setAsAtFirst_41 : decode cX7_setAsAtFirst 41 = .ok (.return_, 1) := by decide +kernel
theorem dX7_copy_0 : decode cX7_copy 0 = .ok (.aload_n 0, 1) := by decide +kernel
theorem dX7_copy_1 : decode cX7_copy 1 = .ok (.aload_n 1, 1) := by decide +kernel
theorem dX7_copy_2 : decode cX7_copy 2 = .ok (.getfield 24, 3) := by decide +kernel
theorem dX7_copy_5 : decode cX7_copy 5 = .ok (.putfield 24, 3) := by decide +kernel
theorem dX7_copy_8 : decode cX7_copy 8 = .ok (.aload_n 0, 1) := by decide +kernel
theorem dX7_copy_9 : decode cX7_copy 9 = .ok (.aload_n 1, 1) := by decide +kernel
theorem dX7_copy_10 : decode cX7_copy 10 = .ok (.getfield 28, 3) := by decide +kernel
theorem dX7_copy_13 : decode cX7_copy 13 = .ok (.putfield 28, 3) := by decide +kernel
theorem dX7_copy_16 : decode cX7_copy 16 = .ok (.aload_n 0, 1) := by decide +kernel
theorem dX7_copy_17 : decode cX7_copy 17 = .ok (.aload_n 1, 1) := by decide +kernel
theorem dX7_copy_18 : decode cX7_copy 18 = .ok (.getfield 31, 3) := by decide +kernel
theorem dX7_copy_21 : decode cX7_copy 21 = .ok (.putfield 31, 3) := by decide +kernel
theorem dX7_copy_24 : decode cX7_copy 24 = .ok (.aload_n 0, 1) := by decide +kernel
theorem dX7_copy_25 : decode cX7_copy 25 = .ok (.aload_n 1, 1) := by decide +kernel
theorem dX7_copy_26 : decode cX7_copy 26 = .ok (.getfield 34, 3) := by decide +kernel
theorem dX7_copy_29 : decode cX7_copy 29 = .ok (.putfield 34, 3) := by decide +kernel
theorem dX7_copy_32 : decode cX7_copy 32 = .ok (.iconst 0, 1) := by decide +kernel
theorem dX7_copy_33 : decode cX7_copy 33 = .ok (.istore_n 2, 1) := by decide +kernel
theorem dX7_copy_34 : decode cX7_copy 34 = .ok (.iload_n 2, 1) := by decide +kernel
theorem dX7_copy_35 : decode cX7_copy 35 = .ok (.iconst 4, 1) := by decide +kernel
theorem dX7_copy_36 : decode cX7_copy 36 = .ok (.if_icmp .ge 32, 3) := by decide +kernel
theorem dX7_copy_39 : decode cX7_copy 39 = .ok (.aload_n 0, 1) := by decide +kernel
theorem dX7_copy_40 : decode cX7_copy 40 = .ok (.iload_n 2, 1) := by decide +kernel
theorem dX7_copy_41 : decode cX7_copy 41 = .ok (.aload_n 1, 1) := by decide +kernel
theorem dX7_copy_42 : decode cX7_copy 42 = .ok (.getfield 9, 3) := by decide +kernel
theorem dX7_copy_45 : decode cX7_copy 45 = .ok (.iload_n 2, 1) := by decide +kernel
theorem dX7_copy_46 : decode cX7_copy 46 = .ok (.iaload, 1) := by decide +kernel
theorem dX7_copy_47 : decode cX7_copy 47 = .ok (.aload_n 1, 1) := by decide +kernel
theorem dX7_copy_48 : decode cX7_copy 48 = .ok (.getfield 15, 3) := by decide +kernel
theorem dX7_copy_51 : decode cX7_copy 51 = .ok (.iload_n 2, 1) := by decide +kernel
theorem dX7_copy_52 : decode cX7_copy 52 = .ok (.iaload, 1) := by decide +kernel
theorem dX7_copy_53 : decode cX7_copy 53 = .ok (.aload_n 1, 1) := by decide +kernel
theorem dX7_copy_54 : decode cX7_copy 54 = .ok (.getfield 18, 3) := by decide +kernel
theorem dX7_copy_57 : decode cX7_copy 57 = .ok (.iload_n 2, 1) := by decide +kernel
theorem dX7_copy_58 : decode cX7_copy 58 = .ok (.iaload, 1) := by decide +kernel
theorem dX7_copy_59 : decode cX7_copy 59 = .ok (.invokevirtual 37, 3) := by decide +kernel
theorem dX7_copy_62 : decode cX7_copy 62 = .ok (.iinc 2 1, 3) := by decide +kernel
theorem dX7_copy_65 : decode cX7_copy 65 = .ok (.goto (-31), 3) := by decide +kernel
theorem dX7_copy_68 : decode cX7_copy 68 = .ok (.return_, 1) := by decide +kernel
theorem dX7_setWay_0 : decode cX7_setWay 0 = .ok (.aload_n 0, 1) := by decide +kernel
theorem dX7_setWay_1 : decode cX7_setWay 1 = .ok (.getfield 9, 3) := by decide +kernel
theorem dX7_setWay_4 : decode cX7_setWay 4 = .ok (.iload_n 1, 1) := by decide +kernel
theorem dX7_setWay_5 : decode cX7_setWay 5 = .ok (.iload_n 2, 1) := by decide +kernel
theorem dX7_setWay_6 : decode cX7_setWay 6 = .ok (.iastore, 1) := by decide +kernel
theorem dX7_setWay_7 : decode cX7_setWay 7 = .ok (.aload_n 0, 1) := by decide +kernel
theorem dX7_setWay_8 : decode cX7_setWay 8 = .ok (.getfield 15, 3) := by decide +kernel
theorem dX7_setWay_11 : decode cX7_setWay 11 = .ok (.iload_n 1, 1) := by decide +kernel
theorem dX7_setWay_12 : decode cX7_setWay 12 = .ok (.iload_n 3, 1) := by decide +kernel
theorem dX7_setWay_13 : decode cX7_setWay 13 = .ok (.iastore, 1) := by decide +kernel
theorem dX7_setWay_14 : decode cX7_setWay 14 = .ok (.aload_n 0, 1) := by decide +kernel
theorem dX7_setWay_15 : decode cX7_setWay 15 = .ok (.getfield 18, 3) := by decide +kernel
theorem dX7_setWay_18 : decode cX7_setWay 18 = .ok (.iload_n 1, 1) := by decide +kernel
theorem dX7_setWay_19 : decode cX7_setWay 19 = .ok (.iload 4, 2) := by decide +kernel
theorem dX7_setWay_21 : decode cX7_setWay 21 = .ok (.iastore, 1) := by decide +kernel
theorem dX7_setWay_22 : decode cX7_setWay 22 = .ok (.return_, 1) := by decide +kernel
theorem dX7_takes_0 : decode cX7_takes 0 = .ok (.aload_n 0, 1) := by decide +kernel
theorem dX7_takes_1 : decode cX7_takes 1 = .ok (.getfield 9, 3) := by decide +kernel
theorem dX7_takes_4 : decode cX7_takes 4 = .ok (.iload_n 1, 1) := by decide +kernel
theorem dX7_takes_5 : decode cX7_takes 5 = .ok (.iaload, 1) := by decide +kernel
theorem dX7_takes_6 : decode cX7_takes 6 = .ok (.lookupswitch 67 #[(1, 26), (2, 42)], 26) := by decide +kernel
theorem dX7_takes_32 : decode cX7_takes 32 = .ok (.iload_n 2, 1) := by decide +kernel
theorem dX7_takes_33 : decode cX7_takes 33 = .ok (.aload_n 0, 1) := by decide +kernel
theorem dX7_takes_34 : decode cX7_takes 34 = .ok (.getfield 15, 3) := by decide +kernel
theorem dX7_takes_37 : decode cX7_takes 37 = .ok (.iload_n 1, 1) := by decide +kernel
theorem dX7_takes_38 : decode cX7_takes 38 = .ok (.iaload, 1) := by decide +kernel
theorem dX7_takes_39 : decode cX7_takes 39 = .ok (.if_icmp .lt 7, 3) := by decide +kernel
theorem dX7_takes_42 : decode cX7_takes 42 = .ok (.iconst 1, 1) := by decide +kernel
theorem dX7_takes_43 : decode cX7_takes 43 = .ok (.goto 4, 3) := by decide +kernel
theorem dX7_takes_46 : decode cX7_takes 46 = .ok (.iconst 0, 1) := by decide +kernel
theorem dX7_takes_47 : decode cX7_takes 47 = .ok (.ireturn, 1) := by decide +kernel
theorem dX7_takes_48 : decode cX7_takes 48 = .ok (.iload_n 2, 1) := by decide +kernel
theorem dX7_takes_49 : decode cX7_takes 49 = .ok (.aload_n 0, 1) := by decide +kernel
theorem dX7_takes_50 : decode cX7_takes 50 = .ok (.getfield 15, 3) := by decide +kernel
theorem dX7_takes_53 : decode cX7_takes 53 = .ok (.iload_n 1, 1) := by decide +kernel
theorem dX7_takes_54 : decode cX7_takes 54 = .ok (.iaload, 1) := by decide +kernel
theorem dX7_takes_55 : decode cX7_takes 55 = .ok (.aload_n 0, 1) := by decide +kernel
theorem dX7_takes_56 : decode cX7_takes 56 = .ok (.getfield 18, 3) := by decide +kernel
theorem dX7_takes_59 : decode cX7_takes 59 = .ok (.iload_n 1, 1) := by decide +kernel
theorem dX7_takes_60 : decode cX7_takes 60 = .ok (.iaload, 1) := by decide +kernel
theorem dX7_takes_61 : decode cX7_takes 61 = .ok (.iload_n 3, 1) := by decide +kernel
theorem dX7_takes_62 : decode cX7_takes 62 = .ok (.imul, 1) := by decide +kernel
theorem dX7_takes_63 : decode cX7_takes 63 = .ok (.isub, 1) := by decide +kernel
theorem dX7_takes_64 : decode cX7_takes 64 = .ok (.if_icmp .lt 7, 3) := by decide +kernel
theorem dX7_takes_67 : decode cX7_takes 67 = .ok (.iconst 1, 1) := by decide +kernel
theorem dX7_takes_68 : decode cX7_takes 68 = .ok (.goto 4, 3) := by decide +kernel
theorem dX7_takes_71 : decode cX7_takes 71 = .ok (.iconst 0, 1) := by decide +kernel
theorem dX7_takes_72 : decode cX7_takes 72 = .ok (.ireturn, 1) := by decide +kernel
theorem dX7_takes_73 : decode cX7_takes 73 = .ok (.iconst 1, 1) := by decide +kernel
theorem dX7_takes_74 : decode cX7_takes 74 = .ok (.ireturn, 1) := by decide +kernel
theorem dX8_init_0 : decode cX8_init 0 = .ok (.aload_n 0, 1) := by decide +kernel
theorem dX8_init_1 : decode cX8_init 1 = .ok (.invokespecial 3, 3) := by decide +kernel
theorem dX8_init_4 : decode cX8_init 4 = .ok (.aload_n 0, 1) := by decide +kernel
theorem dX8_init_5 : decode cX8_init 5 = .ok (.bipush 8, 2) := by decide +kernel
theorem dX8_init_7 : decode cX8_init 7 = .ok (.newarray .int, 2) := by decide +kernel
theorem dX8_init_9 : decode cX8_init 9 = .ok (.putfield 9, 3) := by decide +kernel
theorem dX8_init_12 : decode cX8_init 12 = .ok (.aload_n 0, 1) := by decide +kernel
theorem dX8_init_13 : decode cX8_init 13 = .ok (.iconst 0, 1) := by decide +kernel
theorem dX8_init_14 : decode cX8_init 14 = .ok (.putfield 15, 3) := by decide +kernel
theorem dX8_init_17 : decode cX8_init 17 = .ok (.aload_n 0, 1) := by decide +kernel
theorem dX8_init_18 : decode cX8_init 18 = .ok (.aload_n 1, 1) := by decide +kernel
theorem dX8_init_19 : decode cX8_init 19 = .ok (.putfield 19, 3) := by decide +kernel
theorem dX8_init_22 : decode cX8_init 22 = .ok (.return_, 1) := by decide +kernel
theorem dX8_settle_0 : decode cX8_settle 0 = .ok (.aload_n 0, 1) := by decide +kernel
theorem dX8_settle_1 : decode cX8_settle 1 = .ok (.iconst 0, 1) := by decide +kernel
theorem dX8_settle_2 : decode cX8_settle 2 = .ok (.putfield 15, 3) := by decide +kernel
theorem dX8_settle_5 : decode cX8_settle 5 = .ok (.iconst 1, 1) := by decide +kernel
theorem dX8_settle_6 : decode cX8_settle 6 = .ok (.aload_n 0, 1) := by decide +kernel
theorem dX8_settle_7 : decode cX8_settle 7 = .ok (.getfield 19, 3) := by decide +kernel
theorem dX8_settle_10 : decode cX8_settle 10 = .ok (.getfield 23, 3) := by decide +kernel
theorem dX8_settle_13 : decode cX8_settle 13 = .ok (.ishl, 1) := by decide +kernel
theorem dX8_settle_14 : decode cX8_settle 14 = .ok (.iconst 1, 1) := by decide +kernel
theorem dX8_settle_15 : decode cX8_settle 15 = .ok (.isub, 1) := by decide +kernel
theorem dX8_settle_16 : decode cX8_settle 16 = .ok (.istore_n 1, 1) := by decide +kernel
theorem dX8_settle_17 : decode cX8_settle 17 = .ok (.iconst 0, 1) := by decide +kernel
theorem dX8_settle_18 : decode cX8_settle 18 = .ok (.istore_n 2, 1) := by decide +kernel
theorem dX8_settle_19 : decode cX8_settle 19 = .ok (.iload_n 2, 1) := by decide +kernel
theorem dX8_settle_20 : decode cX8_settle 20 = .ok (.bipush 8, 2) := by decide +kernel
theorem dX8_settle_22 : decode cX8_settle 22 = .ok (.if_icmp .ge 19, 3) := by decide +kernel
theorem dX8_settle_25 : decode cX8_settle 25 = .ok (.iload_n 1, 1) := by decide +kernel
theorem dX8_settle_26 : decode cX8_settle 26 = .ok (.ifCond .eq 15, 3) := by decide +kernel
theorem dX8_settle_29 : decode cX8_settle 29 = .ok (.aload_n 0, 1) := by decide +kernel
theorem dX8_settle_30 : decode cX8_settle 30 = .ok (.iload_n 1, 1) := by decide +kernel
theorem dX8_settle_31 : decode cX8_settle 31 = .ok (.invokevirtual 28, 3) := by decide +kernel
theorem dX8_settle_34 : decode cX8_settle 34 = .ok (.istore_n 1, 1) := by decide +kernel
theorem dX8_settle_35 : decode cX8_settle 35 = .ok (.iinc 2 1, 3) := by decide +kernel
theorem dX8_settle_38 : decode cX8_settle 38 = .ok (.goto (-19), 3) := by decide +kernel
theorem dX8_settle_41 : decode cX8_settle 41 = .ok (.return_, 1) := by decide +kernel
theorem dX8_closeRing_0 : decode cX8_closeRing 0 = .ok (.iload_n 1, 1) := by decide +kernel
theorem dX8_closeRing_1 : decode cX8_closeRing 1 = .ok (.invokestatic 32, 3) := by decide +kernel
theorem dX8_closeRing_4 : decode cX8_closeRing 4 = .ok (.istore_n 2, 1) := by decide +kernel
theorem dX8_closeRing_5 : decode cX8_closeRing 5 = .ok (.iconst 0, 1) := by decide +kernel
theorem dX8_closeRing_6 : decode cX8_closeRing 6 = .ok (.istore_n 3, 1) := by decide +kernel
theorem dX8_closeRing_7 : decode cX8_closeRing 7 = .ok (.iload_n 3, 1) := by decide +kernel
theorem dX8_closeRing_8 : decode cX8_closeRing 8 = .ok (.bipush 8, 2) := by decide +kernel
theorem dX8_closeRing_10 : decode cX8_closeRing 10 = .ok (.if_icmp .ge 16, 3) := by decide +kernel
theorem dX8_closeRing_13 : decode cX8_closeRing 13 = .ok (.aload_n 0, 1) := by decide +kernel
theorem dX8_closeRing_14 : decode cX8_closeRing 14 = .ok (.iload_n 2, 1) := by decide +kernel
theorem dX8_closeRing_15 : decode cX8_closeRing 15 = .ok (.iload_n 1, 1) := by decide +kernel
theorem dX8_closeRing_16 : decode cX8_closeRing 16 = .ok (.invokevirtual 37, 3) := by decide +kernel
theorem dX8_closeRing_19 : decode cX8_closeRing 19 = .ok (.istore_n 2, 1) := by decide +kernel
theorem dX8_closeRing_20 : decode cX8_closeRing 20 = .ok (.iinc 3 1, 3) := by decide +kernel
theorem dX8_closeRing_23 : decode cX8_closeRing 23 = .ok (.goto (-16), 3) := by decide +kernel
theorem dX8_closeRing_26 : decode cX8_closeRing 26 = .ok (.iload_n 1, 1) := by decide +kernel
theorem dX8_closeRing_27 : decode cX8_closeRing 27 = .ok (.istore_n 3, 1) := by decide +kernel
theorem dX8_closeRing_28 : decode cX8_closeRing 28 = .ok (.iconst 0, 1) := by decide +kernel
theorem dX8_closeRing_29 : decode cX8_closeRing 29 = .ok (.istore 4, 2) := by decide +kernel
theorem dX8_closeRing_31 : decode cX8_closeRing 31 = .ok (.iload 4, 2) := by decide +kernel
theorem dX8_closeRing_33 : decode cX8_closeRing 33 = .ok (.bipush 8, 2) := by decide +kernel
theorem dX8_closeRing_35 : decode cX8_closeRing 35 = .ok (.if_icmp .ge 44, 3) := by decide +kernel
theorem dX8_closeRing_38 : decode cX8_closeRing 38 = .ok (.iload_n 3, 1) := by decide +kernel
theorem dX8_closeRing_39 : decode cX8_closeRing 39 = .ok (.iload_n 2, 1) := by decide +kernel
theorem dX8_closeRing_40 : decode cX8_closeRing 40 = .ok (.ishr, 1) := by decide +kernel
theorem dX8_closeRing_41 : decode cX8_closeRing 41 = .ok (.iconst 1, 1) := by decide +kernel
theorem dX8_closeRing_42 : decode cX8_closeRing 42 = .ok (.iand, 1) := by decide +kernel
theorem dX8_closeRing_43 : decode cX8_closeRing 43 = .ok (.ifCond .eq 36, 3) := by decide +kernel
theorem dX8_closeRing_46 : decode cX8_closeRing 46 = .ok (.iload_n 3, 1) := by decide +kernel
theorem dX8_closeRing_47 : decode cX8_closeRing 47 = .ok (.iconst 1, 1) := by decide +kernel
theorem dX8_closeRing_48 : decode cX8_closeRing 48 = .ok (.iload_n 2, 1) := by decide +kernel
theorem dX8_closeRing_49 : decode cX8_closeRing 49 = .ok (.ishl, 1) := by decide +kernel
theorem dX8_closeRing_50 : decode cX8_closeRing 50 = .ok (.iconst (-1), 1) := by decide +kernel
theorem dX8_closeRing_51 : decode cX8_closeRing 51 = .ok (.ixor, 1) := by decide +kernel
theorem dX8_closeRing_52 : decode cX8_closeRing 52 = .ok (.iand, 1) := by decide +kernel
theorem dX8_closeRing_53 : decode cX8_closeRing 53 = .ok (.istore_n 3, 1) := by decide +kernel
theorem dX8_closeRing_54 : decode cX8_closeRing 54 = .ok (.aload_n 0, 1) := by decide +kernel
theorem dX8_closeRing_55 : decode cX8_closeRing 55 = .ok (.getfield 9, 3) := by decide +kernel
theorem dX8_closeRing_58 : decode cX8_closeRing 58 = .ok (.iload_n 2, 1) := by decide +kernel
theorem dX8_closeRing_59 : decode cX8_closeRing 59 = .ok (.aload_n 0, 1) := by decide +kernel
theorem dX8_closeRing_60 : decode cX8_closeRing 60 = .ok (.iload_n 2, 1) := by decide +kernel
theorem dX8_closeRing_61 : decode cX8_closeRing 61 = .ok (.iload_n 1, 1) := by decide +kernel
theorem dX8_closeRing_62 : decode cX8_closeRing 62 = .ok (.invokevirtual 37, 3) := by decide +kernel
theorem dX8_closeRing_65 : decode cX8_closeRing 65 = .ok (.iastore, 1) := by decide +kernel
theorem dX8_closeRing_66 : decode cX8_closeRing 66 = .ok (.aload_n 0, 1) := by decide +kernel
theorem dX8_closeRing_67 : decode cX8_closeRing 67 = .ok (.getfield 9, 3) := by decide +kernel
theorem dX8_closeRing_70 : decode cX8_closeRing 70 = .ok (.iload_n 2, 1) := by decide +kernel
theorem dX8_closeRing_71 : decode cX8_closeRing 71 = .ok (.iaload, 1) := by decide +kernel
theorem dX8_closeRing_72 : decode cX8_closeRing 72 = .ok (.istore_n 2, 1) := by decide +kernel
theorem dX8_closeRing_73 : decode cX8_closeRing 73 = .ok (.iinc 4 1, 3) := by decide +kernel
theorem dX8_closeRing_76 : decode cX8_closeRing 76 = .ok (.goto (-45), 3) := by decide +kernel
theorem dX8_closeRing_79 : decode cX8_closeRing 79 = .ok (.iload 4, 2) := by decide +kernel
theorem dX8_closeRing_81 : decode cX8_closeRing 81 = .ok (.iconst 1, 1) := by decide +kernel
theorem dX8_closeRing_82 : decode cX8_closeRing 82 = .ok (.if_icmp .le 13, 3) := by decide +kernel
theorem dX8_closeRing_85 : decode cX8_closeRing 85 = .ok (.aload_n 0, 1) := by decide +kernel
theorem dX8_closeRing_86 : decode cX8_closeRing 86 = .ok (.dup, 1) := by decide +kernel
theorem dX8_closeRing_87 : decode cX8_closeRing 87 = .ok (.getfield 15, 3) := by decide +kernel
theorem dX8_closeRing_90 : decode cX8_closeRing 90 = .ok (.iconst 1, 1) := by decide +kernel
theorem dX8_closeRing_91 : decode cX8_closeRing 91 = .ok (.iadd, 1) := by decide +kernel
theorem dX8_closeRing_92 : decode cX8_closeRing 92 = .ok (.putfield 15, 3) := by decide +kernel
theorem dX8_closeRing_95 : decode cX8_closeRing 95 = .ok (.iload_n 3, 1) := by decide +kernel
theorem dX8_closeRing_96 : decode cX8_closeRing 96 = .ok (.ireturn, 1) := by decide +kernel
theorem dX8_pointedTo_0 : decode cX8_pointedTo 0 = .ok (.iload_n 1, 1) := by decide +kernel
theorem dX8_pointedTo_1 : decode cX8_pointedTo 1 = .ok (.istore_n 3, 1) := by decide +kernel
theorem dX8_pointedTo_2 : decode cX8_pointedTo 2 = .ok (.iconst 0, 1) := by decide +kernel
theorem dX8_pointedTo_3 : decode cX8_pointedTo 3 = .ok (.istore 4, 2) := by decide +kernel
theorem dX8_pointedTo_5 : decode cX8_pointedTo 5 = .ok (.iload 4, 2) := by decide +kernel
theorem dX8_pointedTo_7 : decode cX8_pointedTo 7 = .ok (.aload_n 0, 1) := by decide +kernel
theorem dX8_pointedTo_8 : decode cX8_pointedTo 8 = .ok (.getfield 19, 3) := by decide +kernel
theorem dX8_pointedTo_11 : decode cX8_pointedTo 11 = .ok (.getfield 23, 3) := by decide +kernel
theorem dX8_pointedTo_14 : decode cX8_pointedTo 14 = .ok (.if_icmp .ge 54, 3) := by decide +kernel
theorem dX8_pointedTo_17 : decode cX8_pointedTo 17 = .ok (.iload_n 2, 1) := by decide +kernel
theorem dX8_pointedTo_18 : decode cX8_pointedTo 18 = .ok (.iload 4, 2) := by decide +kernel
theorem dX8_pointedTo_20 : decode cX8_pointedTo 20 = .ok (.ishr, 1) := by decide +kernel
theorem dX8_pointedTo_21 : decode cX8_pointedTo 21 = .ok (.iconst 1, 1) := by decide +kernel
theorem dX8_pointedTo_22 : decode cX8_pointedTo 22 = .ok (.iand, 1) := by decide +kernel
theorem dX8_pointedTo_23 : decode cX8_pointedTo 23 = .ok (.ifCond .ne 6, 3) := by decide +kernel
theorem dX8_pointedTo_26 : decode cX8_pointedTo 26 = .ok (.goto 36, 3) := by decide +kernel
theorem dX8_pointedTo_29 : decode cX8_pointedTo 29 = .ok (.aload_n 0, 1) := by decide +kernel
theorem dX8_pointedTo_30 : decode cX8_pointedTo 30 = .ok (.getfield 19, 3) := by decide +kernel
theorem dX8_pointedTo_33 : decode cX8_pointedTo 33 = .ok (.iload_n 1, 1) := by decide +kernel
theorem dX8_pointedTo_34 : decode cX8_pointedTo 34 = .ok (.aload_n 0, 1) := by decide +kernel
theorem dX8_pointedTo_35 : decode cX8_pointedTo 35 = .ok (.getfield 19, 3) := by decide +kernel
theorem dX8_pointedTo_38 : decode cX8_pointedTo 38 = .ok (.getfield 41, 3) := by decide +kernel
theorem dX8_pointedTo_41 : decode cX8_pointedTo 41 = .ok (.iload 4, 2) := by decide +kernel
theorem dX8_pointedTo_43 : decode cX8_pointedTo 43 = .ok (.iaload, 1) := by decide +kernel
theorem dX8_pointedTo_44 : decode cX8_pointedTo 44 = .ok (.aload_n 0, 1) := by decide +kernel
theorem dX8_pointedTo_45 : decode cX8_pointedTo 45 = .ok (.getfield 19, 3) := by decide +kernel
theorem dX8_pointedTo_48 : decode cX8_pointedTo 48 = .ok (.getfield 41, 3) := by decide +kernel
theorem dX8_pointedTo_51 : decode cX8_pointedTo 51 = .ok (.iload_n 3, 1) := by decide +kernel
theorem dX8_pointedTo_52 : decode cX8_pointedTo 52 = .ok (.iaload, 1) := by decide +kernel
theorem dX8_pointedTo_53 : decode cX8_pointedTo 53 = .ok (.invokevirtual 44, 3) := by decide +kernel
theorem dX8_pointedTo_56 : decode cX8_pointedTo 56 = .ok (.ifCond .eq 6, 3) := by decide +kernel
theorem dX8_pointedTo_59 : decode cX8_pointedTo 59 = .ok (.iload 4, 2) := by decide +kernel
theorem dX8_pointedTo_61 : decode cX8_pointedTo 61 = .ok (.istore_n 3, 1) := by decide +kernel
theorem dX8_pointedTo_62 : decode cX8_pointedTo 62 = .ok (.iinc 4 1, 3) := by decide +kernel
theorem dX8_pointedTo_65 : decode cX8_pointedTo 65 = .ok (.goto (-60), 3) := by decide +kernel
theorem dX8_pointedTo_68 : decode cX8_pointedTo 68 = .ok (.iload_n 3, 1) := by decide +kernel
theorem dX8_pointedTo_69 : decode cX8_pointedTo 69 = .ok (.ireturn, 1) := by decide +kernel
theorem dX9_init_0 : decode cX9_init 0 = .ok (.aload_n 0, 1) := by decide +kernel
theorem dX9_init_1 : decode cX9_init 1 = .ok (.invokespecial 3, 3) := by decide +kernel
theorem dX9_init_4 : decode cX9_init 4 = .ok (.aload_n 0, 1) := by decide +kernel
theorem dX9_init_5 : decode cX9_init 5 = .ok (.sipush 160, 3) := by decide +kernel
theorem dX9_init_8 : decode cX9_init 8 = .ok (.newarray .char, 2) := by decide +kernel
theorem dX9_init_10 : decode cX9_init 10 = .ok (.putfield 9, 3) := by decide +kernel
theorem dX9_init_13 : decode cX9_init 13 = .ok (.aload_n 0, 1) := by decide +kernel
theorem dX9_init_14 : decode cX9_init 14 = .ok (.iconst 0, 1) := by decide +kernel
theorem dX9_init_15 : decode cX9_init 15 = .ok (.putfield 15, 3) := by decide +kernel
theorem dX9_init_18 : decode cX9_init 18 = .ok (.aload_n 0, 1) := by decide +kernel
theorem dX9_init_19 : decode cX9_init 19 = .ok (.iconst 0, 1) := by decide +kernel
theorem dX9_init_20 : decode cX9_init 20 = .ok (.putfield 19, 3) := by decide +kernel
theorem dX9_init_23 : decode cX9_init 23 = .ok (.return_, 1) := by decide +kernel
theorem dX9_add_0 : decode cX9_add 0 = .ok (.aload_n 0, 1) := by decide +kernel
theorem dX9_add_1 : decode cX9_add 1 = .ok (.getfield 15, 3) := by decide +kernel
theorem dX9_add_4 : decode cX9_add 4 = .ok (.sipush 160, 3) := by decide +kernel
theorem dX9_add_7 : decode cX9_add 7 = .ok (.if_icmp .ge 23, 3) := by decide +kernel
theorem dX9_add_10 : decode cX9_add 10 = .ok (.aload_n 0, 1) := by decide +kernel
theorem dX9_add_11 : decode cX9_add 11 = .ok (.getfield 9, 3) := by decide +kernel
theorem dX9_add_14 : decode cX9_add 14 = .ok (.aload_n 0, 1) := by decide +kernel
theorem dX9_add_15 : decode cX9_add 15 = .ok (.getfield 15, 3) := by decide +kernel
theorem dX9_add_18 : decode cX9_add 18 = .ok (.iload_n 1, 1) := by decide +kernel
theorem dX9_add_19 : decode cX9_add 19 = .ok (.castore, 1) := by decide +kernel
theorem dX9_add_20 : decode cX9_add 20 = .ok (.aload_n 0, 1) := by decide +kernel
theorem dX9_add_21 : decode cX9_add 21 = .ok (.dup, 1) := by decide +kernel
theorem dX9_add_22 : decode cX9_add 22 = .ok (.getfield 15, 3) := by decide +kernel
theorem dX9_add_25 : decode cX9_add 25 = .ok (.iconst 1, 1) := by decide +kernel
theorem dX9_add_26 : decode cX9_add 26 = .ok (.iadd, 1) := by decide +kernel
theorem dX9_add_27 : decode cX9_add 27 = .ok (.putfield 15, 3) := by decide +kernel
theorem dX9_add_30 : decode cX9_add 30 = .ok (.return_, 1) := by decide +kernel
theorem dX9_readInto_0 : decode cX9_readInto 0 = .ok (.aload_n 1, 1) := by decide +kernel
theorem dX9_readInto_1 : decode cX9_readInto 1 = .ok (.invokevirtual 22, 3) := by decide +kernel
theorem dX9_readInto_4 : decode cX9_readInto 4 = .ok (.aload_n 0, 1) := by decide +kernel
theorem dX9_readInto_5 : decode cX9_readInto 5 = .ok (.iconst 0, 1) := by decide +kernel
theorem dX9_readInto_6 : decode cX9_readInto 6 = .ok (.putfield 27, 3) := by decide +kernel
theorem dX9_readInto_9 : decode cX9_readInto 9 = .ok (.aload_n 0, 1) := by decide +kernel
theorem dX9_readInto_10 : decode cX9_readInto 10 = .ok (.invokevirtual 30, 3) := by decide +kernel
theorem dX9_readInto_13 : decode cX9_readInto 13 = .ok (.iconst 1, 1) := by decide +kernel
theorem dX9_readInto_14 : decode cX9_readInto 14 = .ok (.istore_n 2, 1) := by decide +kernel
theorem dX9_readInto_15 : decode cX9_readInto 15 = .ok (.iload_n 2, 1) := by decide +kernel
theorem dX9_readInto_16 : decode cX9_readInto 16 = .ok (.bipush 12, 2) := by decide +kernel
theorem dX9_readInto_18 : decode cX9_readInto 18 = .ok (.if_icmp .gt 60, 3) := by decide +kernel
theorem dX9_readInto_21 : decode cX9_readInto 21 = .ok (.aload_n 0, 1) := by decide +kernel
theorem dX9_readInto_22 : decode cX9_readInto 22 = .ok (.aload_n 1, 1) := by decide +kernel
theorem dX9_readInto_23 : decode cX9_readInto 23 = .ok (.invokevirtual 33, 3) := by decide +kernel
theorem dX9_readInto_26 : decode cX9_readInto 26 = .ok (.ifCond .ne 8, 3) := by decide +kernel
theorem dX9_readInto_29 : decode cX9_readInto 29 = .ok (.aload_n 0, 1) := by decide +kernel
theorem dX9_readInto_30 : decode cX9_readInto 30 = .ok (.getfield 37, 3) := by decide +kernel
theorem dX9_readInto_33 : decode cX9_readInto 33 = .ok (.ireturn, 1) := by decide +kernel
theorem dX9_readInto_34 : decode cX9_readInto 34 = .ok (.aload_n 0, 1) := by decide +kernel
theorem dX9_readInto_35 : decode cX9_readInto 35 = .ok (.iload_n 2, 1) := by decide +kernel
theorem dX9_readInto_36 : decode cX9_readInto 36 = .ok (.putfield 19, 3) := by decide +kernel
theorem dX9_readInto_39 : decode cX9_readInto 39 = .ok (.aload_n 0, 1) := by decide +kernel
theorem dX9_readInto_40 : decode cX9_readInto 40 = .ok (.getfield 37, 3) := by decide +kernel
theorem dX9_readInto_43 : decode cX9_readInto 43 = .ok (.aload_n 0, 1) := by decide +kernel
theorem dX9_readInto_44 : decode cX9_readInto 44 = .ok (.getfield 15, 3) := by decide +kernel
theorem dX9_readInto_47 : decode cX9_readInto 47 = .ok (.if_icmp .ne 5, 3) := by decide +kernel
theorem dX9_readInto_50 : decode cX9_readInto 50 = .ok (.iconst (-1), 1) := by decide +kernel
theorem dX9_readInto_51 : decode cX9_readInto 51 = .ok (.ireturn, 1) := by decide +kernel
theorem dX9_readInto_52 : decode cX9_readInto 52 = .ok (.iload_n 2, 1) := by decide +kernel
theorem dX9_readInto_53 : decode cX9_readInto 53 = .ok (.bipush 12, 2) := by decide +kernel
theorem dX9_readInto_55 : decode cX9_readInto 55 = .ok (.if_icmp .eq 12, 3) := by decide +kernel
theorem dX9_readInto_58 : decode cX9_readInto 58 = .ok (.aload_n 0, 1) := by decide +kernel
theorem dX9_readInto_59 : decode cX9_readInto 59 = .ok (.ldc 40, 2) := by decide +kernel
theorem dX9_readInto_61 : decode cX9_readInto 61 = .ok (.invokevirtual 42, 3) := by decide +kernel
theorem dX9_readInto_64 : decode cX9_readInto 64 = .ok (.ifCond .ne 8, 3) := by decide +kernel
theorem dX9_readInto_67 : decode cX9_readInto 67 = .ok (.aload_n 0, 1) := by decide +kernel
theorem dX9_readInto_68 : decode cX9_readInto 68 = .ok (.getfield 37, 3) := by decide +kernel
theorem dX9_readInto_71 : decode cX9_readInto 71 = .ok (.ireturn, 1) := by decide +kernel
theorem dX9_readInto_72 : decode cX9_readInto 72 = .ok (.iinc 2 1, 3) := by decide +kernel
theorem dX9_readInto_75 : decode cX9_readInto 75 = .ok (.goto (-60), 3) := by decide +kernel
theorem dX9_readInto_78 : decode cX9_readInto 78 = .ok (.aload_n 0, 1) := by decide +kernel
theorem dX9_readInto_79 : decode cX9_readInto 79 = .ok (.getfield 37, 3) := by decide +kernel
theorem dX9_readInto_82 : decode cX9_readInto 82 = .ok (.ireturn, 1) := by decide +kernel
theorem dX9_readLine_0 : decode cX9_readLine 0 = .ok (.aload_n 0, 1) := by decide +kernel
theorem dX9_readLine_1 : decode cX9_readLine 1 = .ok (.ldc 46, 2) := by decide +kernel
theorem dX9_readLine_3 : decode cX9_readLine 3 = .ok (.invokevirtual 42, 3) := by decide +kernel
theorem dX9_readLine_6 : decode cX9_readLine 6 = .ok (.ifCond .eq 31, 3) := by decide +kernel
theorem dX9_readLine_9 : decode cX9_readLine 9 = .ok (.aload_n 1, 1) := by decide +kernel
theorem dX9_readLine_10 : decode cX9_readLine 10 = .ok (.aload_n 0, 1) := by decide +kernel
theorem dX9_readLine_11 : decode cX9_readLine 11 = .ok (.ldc 48, 2) := by decide +kernel
theorem dX9_readLine_13 : decode cX9_readLine 13 = .ok (.ldc 50, 2) := by decide +kernel
theorem dX9_readLine_15 : decode cX9_readLine 15 = .ok (.ldc 52, 2) := by decide +kernel
theorem dX9_readLine_17 : decode cX9_readLine 17 = .ok (.invokevirtual 54, 3) := by decide +kernel
theorem dX9_readLine_20 : decode cX9_readLine 20 = .ok (.putfield 58, 3) := by decide +kernel
theorem dX9_readLine_23 : decode cX9_readLine 23 = .ok (.aload_n 1, 1) := by decide +kernel
theorem dX9_readLine_24 : decode cX9_readLine 24 = .ok (.getfield 58, 3) := by decide +kernel
theorem dX9_readLine_27 : decode cX9_readLine 27 = .ok (.iconst (-1), 1) := by decide +kernel
theorem dX9_readLine_28 : decode cX9_readLine 28 = .ok (.if_icmp .eq 7, 3) := by decide +kernel
theorem dX9_readLine_31 : decode cX9_readLine 31 = .ok (.iconst 1, 1) := by decide +kernel
theorem dX9_readLine_32 : decode cX9_readLine 32 = .ok (.goto 4, 3) := by decide +kernel
theorem dX9_readLine_35 : decode cX9_readLine 35 = .ok (.iconst 0, 1) := by decide +kernel
theorem dX9_readLine_36 : decode cX9_readLine 36 = .ok (.ireturn, 1) := by decide +kernel
theorem dX9_readLine_37 : decode cX9_readLine 37 = .ok (.aload_n 0, 1) := by decide +kernel
theorem dX9_readLine_38 : decode cX9_readLine 38 = .ok (.ldc 60, 2) := by decide +kernel
theorem dX9_readLine_40 : decode cX9_readLine 40 = .ok (.invokevirtual 42, 3) := by decide +kernel
theorem dX9_readLine_43 : decode cX9_readLine 43 = .ok (.ifCond .eq 27, 3) := by decide +kernel
theorem dX9_readLine_46 : decode cX9_readLine 46 = .ok (.aload_n 1, 1) := by decide +kernel
theorem dX9_readLine_47 : decode cX9_readLine 47 = .ok (.aload_n 0, 1) := by decide +kernel
theorem dX9_readLine_48 : decode cX9_readLine 48 = .ok (.bipush 9, 2) := by decide +kernel
theorem dX9_readLine_50 : decode cX9_readLine 50 = .ok (.invokevirtual 62, 3) := by decide +kernel
theorem dX9_readLine_53 : decode cX9_readLine 53 = .ok (.putfield 66, 3) := by decide +kernel
theorem dX9_readLine_56 : decode cX9_readLine 56 = .ok (.aload_n 1, 1) := by decide +kernel
theorem dX9_readLine_57 : decode cX9_readLine 57 = .ok (.getfield 66, 3) := by decide +kernel
theorem dX9_readLine_60 : decode cX9_readLine 60 = .ok (.iconst (-1), 1) := by decide +kernel
theorem dX9_readLine_61 : decode cX9_readLine 61 = .ok (.if_icmp .eq 7, 3) := by decide +kernel
theorem dX9_readLine_64 : decode cX9_readLine 64 = .ok (.iconst 1, 1) := by decide +kernel
theorem dX9_readLine_65 : decode cX9_readLine 65 = .ok (.goto 4, 3) := by decide +kernel
theorem dX9_readLine_68 : decode cX9_readLine 68 = .ok (.iconst 0, 1) := by decide +kernel
theorem dX9_readLine_69 : decode cX9_readLine 69 = .ok (.ireturn, 1) := by decide +kernel
theorem dX9_readLine_70 : decode cX9_readLine 70 = .ok (.aload_n 0, 1) := by decide +kernel
theorem dX9_readLine_71 : decode cX9_readLine 71 = .ok (.ldc 68, 2) := by decide +kernel
theorem dX9_readLine_73 : decode cX9_readLine 73 = .ok (.invokevirtual 42, 3) := by decide +kernel
theorem dX9_readLine_76 : decode cX9_readLine 76 = .ok (.ifCond .eq 31, 3) := by decide +kernel
theorem dX9_readLine_79 : decode cX9_readLine 79 = .ok (.aload_n 1, 1) := by decide +kernel
theorem dX9_readLine_80 : decode cX9_readLine 80 = .ok (.aload_n 0, 1) := by decide +kernel
theorem dX9_readLine_81 : decode cX9_readLine 81 = .ok (.ldc 70, 2) := by decide +kernel
theorem dX9_readLine_83 : decode cX9_readLine 83 = .ok (.ldc 71, 2) := by decide +kernel
theorem dX9_readLine_85 : decode cX9_readLine 85 = .ok (.ldc 73, 2) := by decide +kernel
theorem dX9_readLine_87 : decode cX9_readLine 87 = .ok (.invokevirtual 54, 3) := by decide +kernel
theorem dX9_readLine_90 : decode cX9_readLine 90 = .ok (.putfield 75, 3) := by decide +kernel
theorem dX9_readLine_93 : decode cX9_readLine 93 = .ok (.aload_n 1, 1) := by decide +kernel
theorem dX9_readLine_94 : decode cX9_readLine 94 = .ok (.getfield 75, 3) := by decide +kernel
theorem dX9_readLine_97 : decode cX9_readLine 97 = .ok (.iconst (-1), 1) := by decide +kernel
theorem dX9_readLine_98 : decode cX9_readLine 98 = .ok (.if_icmp .eq 7, 3) := by decide +kernel
theorem dX9_readLine_101 : decode cX9_readLine 101 = .ok (.iconst 1, 1) := by decide +kernel
theorem dX9_readLine_102 : decode cX9_readLine 102 = .ok (.goto 4, 3) := by decide +kernel
theorem dX9_readLine_105 : decode cX9_readLine 105 = .ok (.iconst 0, 1) := by decide +kernel
theorem dX9_readLine_106 : decode cX9_readLine 106 = .ok (.ireturn, 1) := by decide +kernel
theorem dX9_readLine_107 : decode cX9_readLine 107 = .ok (.aload_n 0, 1) := by decide +kernel
theorem dX9_readLine_108 : decode cX9_readLine 108 = .ok (.ldc 77, 2) := by decide +kernel
theorem dX9_readLine_110 : decode cX9_readLine 110 = .ok (.invokevirtual 42, 3) := by decide +kernel
theorem dX9_readLine_113 : decode cX9_readLine 113 = .ok (.ifCond .eq 27, 3) := by decide +kernel
theorem dX9_readLine_116 : decode cX9_readLine 116 = .ok (.aload_n 1, 1) := by decide +kernel
theorem dX9_readLine_117 : decode cX9_readLine 117 = .ok (.aload_n 0, 1) := by decide +kernel
theorem dX9_readLine_118 : decode cX9_readLine 118 = .ok (.bipush 9, 2) := by decide +kernel
theorem dX9_readLine_120 : decode cX9_readLine 120 = .ok (.invokevirtual 62, 3) := by decide +kernel
theorem dX9_readLine_123 : decode cX9_readLine 123 = .ok (.putfield 79, 3) := by decide +kernel
theorem dX9_readLine_126 : decode cX9_readLine 126 = .ok (.aload_n 1, 1) := by decide +kernel
theorem dX9_readLine_127 : decode cX9_readLine 127 = .ok (.getfield 79, 3) := by decide +kernel
theorem dX9_readLine_130 : decode cX9_readLine 130 = .ok (.iconst (-1), 1) := by decide +kernel
theorem dX9_readLine_131 : decode cX9_readLine 131 = .ok (.if_icmp .eq 7, 3) := by decide +kernel
theorem dX9_readLine_134 : decode cX9_readLine 134 = .ok (.iconst 1, 1) := by decide +kernel
theorem dX9_readLine_135 : decode cX9_readLine 135 = .ok (.goto 4, 3) := by decide +kernel
theorem dX9_readLine_138 : decode cX9_readLine 138 = .ok (.iconst 0, 1) := by decide +kernel
theorem dX9_readLine_139 : decode cX9_readLine 139 = .ok (.ireturn, 1) := by decide +kernel
theorem dX9_readLine_140 : decode cX9_readLine 140 = .ok (.aload_n 0, 1) := by decide +kernel
theorem dX9_readLine_141 : decode cX9_readLine 141 = .ok (.ldc 81, 2) := by decide +kernel
theorem dX9_readLine_143 : decode cX9_readLine 143 = .ok (.invokevirtual 42, 3) := by decide +kernel
theorem dX9_readLine_146 : decode cX9_readLine 146 = .ok (.ifCond .eq 15, 3) := by decide +kernel
theorem dX9_readLine_149 : decode cX9_readLine 149 = .ok (.aload_n 0, 1) := by decide +kernel
theorem dX9_readLine_150 : decode cX9_readLine 150 = .ok (.aload_n 1, 1) := by decide +kernel
theorem dX9_readLine_151 : decode cX9_readLine 151 = .ok (.invokevirtual 83, 3) := by decide +kernel
theorem dX9_readLine_154 : decode cX9_readLine 154 = .ok (.ifCond .eq 7, 3) := by decide +kernel
theorem dX9_readLine_157 : decode cX9_readLine 157 = .ok (.iconst 1, 1) := by decide +kernel
theorem dX9_readLine_158 : decode cX9_readLine 158 = .ok (.goto 4, 3) := by decide +kernel
theorem dX9_readLine_161 : decode cX9_readLine 161 = .ok (.iconst 0, 1) := by decide +kernel
theorem dX9_readLine_162 : decode cX9_readLine 162 = .ok (.ireturn, 1) := by decide +kernel
theorem dX9_readWay_0 : decode cX9_readWay 0 = .ok (.aload_n 0, 1) := by decide +kernel
theorem dX9_readWay_1 : decode cX9_readWay 1 = .ok (.iconst 3, 1) := by decide +kernel
theorem dX9_readWay_2 : decode cX9_readWay 2 = .ok (.invokevirtual 62, 3) := by decide +kernel
theorem dX9_readWay_5 : decode cX9_readWay 5 = .ok (.istore_n 2, 1) := by decide +kernel
theorem dX9_readWay_6 : decode cX9_readWay 6 = .ok (.iload_n 2, 1) := by decide +kernel
theorem dX9_readWay_7 : decode cX9_readWay 7 = .ok (.iconst (-1), 1) := by decide +kernel
theorem dX9_readWay_8 : decode cX9_readWay 8 = .ok (.if_icmp .ne 5, 3) := by decide +kernel
theorem dX9_readWay_11 : decode cX9_readWay 11 = .ok (.iconst 0, 1) := by decide +kernel
theorem dX9_readWay_12 : decode cX9_readWay 12 = .ok (.ireturn, 1) := by decide +kernel
theorem dX9_readWay_13 : decode cX9_readWay 13 = .ok (.aload_n 0, 1) := by decide +kernel
theorem dX9_readWay_14 : decode cX9_readWay 14 = .ok (.ldc 86, 2) := by decide +kernel
theorem dX9_readWay_16 : decode cX9_readWay 16 = .ok (.ldc 88, 2) := by decide +kernel
theorem dX9_readWay_18 : decode cX9_readWay 18 = .ok (.ldc 90, 2) := by decide +kernel
theorem dX9_readWay_20 : decode cX9_readWay 20 = .ok (.invokevirtual 54, 3) := by decide +kernel
theorem dX9_readWay_23 : decode cX9_readWay 23 = .ok (.istore_n 3, 1) := by decide +kernel
theorem dX9_readWay_24 : decode cX9_readWay 24 = .ok (.iload_n 3, 1) := by decide +kernel
theorem dX9_readWay_25 : decode cX9_readWay 25 = .ok (.iconst (-1), 1) := by decide +kernel
theorem dX9_readWay_26 : decode cX9_readWay 26 = .ok (.if_icmp .ne 5, 3) := by decide +kernel
theorem dX9_readWay_29 : decode cX9_readWay 29 = .ok (.iconst 0, 1) := by decide +kernel
theorem dX9_readWay_30 : decode cX9_readWay 30 = .ok (.ireturn, 1) := by decide +kernel
theorem dX9_readWay_31 : decode cX9_readWay 31 = .ok (.iload_n 3, 1) := by decide +kernel
theorem dX9_readWay_32 : decode cX9_readWay 32 = .ok (.ifCond .ne 7, 3) := by decide +kernel
theorem dX9_readWay_35 : decode cX9_readWay 35 = .ok (.iconst 0, 1) := by decide +kernel
theorem dX9_readWay_36 : decode cX9_readWay 36 = .ok (.goto 9, 3) := by decide +kernel
theorem dX9_readWay_39 : decode cX9_readWay 39 = .ok (.aload_n 0, 1) := by decide +kernel
theorem dX9_readWay_40 : decode cX9_readWay 40 = .ok (.bipush 99, 2) := by decide +kernel
theorem dX9_readWay_42 : decode cX9_readWay 42 = .ok (.invokevirtual 62, 3) := by decide +kernel
theorem dX9_readWay_45 : decode cX9_readWay 45 = .ok (.istore 4, 2) := by decide +kernel
theorem dX9_readWay_47 : decode cX9_readWay 47 = .ok (.iload 4, 2) := by decide +kernel
theorem dX9_readWay_49 : decode cX9_readWay 49 = .ok (.iconst (-1), 1) := by decide +kernel
theorem dX9_readWay_50 : decode cX9_readWay 50 = .ok (.if_icmp .ne 5, 3) := by decide +kernel
theorem dX9_readWay_53 : decode cX9_readWay 53 = .ok (.iconst 0, 1) := by decide +kernel
theorem dX9_readWay_54 : decode cX9_readWay 54 = .ok (.ireturn, 1) := by decide +kernel
theorem dX9_readWay_55 : decode cX9_readWay 55 = .ok (.iload_n 3, 1) := by decide +kernel
theorem dX9_readWay_56 : decode cX9_readWay 56 = .ok (.iconst 2, 1) := by decide +kernel
theorem dX9_readWay_57 : decode cX9_readWay 57 = .ok (.if_icmp .ne 12, 3) := by decide +kernel
theorem dX9_readWay_60 : decode cX9_readWay 60 = .ok (.aload_n 0, 1) := by decide +kernel
theorem dX9_readWay_61 : decode cX9_readWay 61 = .ok (.bipush 9, 2) := by decide +kernel
theorem dX9_readWay_63 : decode cX9_readWay 63 = .ok (.invokevirtual 62, 3) := by decide +kernel
theorem dX9_readWay_66 : decode cX9_readWay 66 = .ok (.goto 4, 3) := by decide +kernel
theorem dX9_readWay_69 : decode cX9_readWay 69 = .ok (.iconst 0, 1) := by decide +kernel
theorem dX9_readWay_70 : decode cX9_readWay 70 = .ok (.istore 5, 2) := by decide +kernel
theorem dX9_readWay_72 : decode cX9_readWay 72 = .ok (.iload 5, 2) := by decide +kernel
theorem dX9_readWay_74 : decode cX9_readWay 74 = .ok (.iconst (-1), 1) := by decide +kernel
theorem dX9_readWay_75 : decode cX9_readWay 75 = .ok (.if_icmp .ne 5, 3) := by decide +kernel
theorem dX9_readWay_78 : decode cX9_readWay 78 = .ok (.iconst 0, 1) := by decide +kernel
theorem dX9_readWay_79 : decode cX9_readWay 79 = .ok (.ireturn, 1) := by decide +kernel
theorem dX9_readWay_80 : decode cX9_readWay 80 = .ok (.aload_n 1, 1) := by decide +kernel
theorem dX9_readWay_81 : decode cX9_readWay 81 = .ok (.iload_n 2, 1) := by decide +kernel
theorem dX9_readWay_82 : decode cX9_readWay 82 = .ok (.iload_n 3, 1) := by decide +kernel
theorem dX9_readWay_83 : decode cX9_readWay 83 = .ok (.iload 4, 2) := by decide +kernel
theorem dX9_readWay_85 : decode cX9_readWay 85 = .ok (.iload 5, 2) := by decide +kernel
theorem dX9_readWay_87 : decode cX9_readWay 87 = .ok (.invokevirtual 92, 3) := by decide +kernel
theorem dX9_readWay_90 : decode cX9_readWay 90 = .ok (.iconst 1, 1) := by decide +kernel
theorem dX9_readWay_91 : decode cX9_readWay 91 = .ok (.ireturn, 1) := by decide +kernel
theorem dX9_choose_0 : decode cX9_choose 0 = .ok (.aload_n 0, 1) := by decide +kernel
theorem dX9_choose_1 : decode cX9_choose 1 = .ok (.aload_n 1, 1) := by decide +kernel
theorem dX9_choose_2 : decode cX9_choose 2 = .ok (.invokevirtual 42, 3) := by decide +kernel
theorem dX9_choose_5 : decode cX9_choose 5 = .ok (.ifCond .eq 5, 3) := by decide +kernel
theorem dX9_choose_8 : decode cX9_choose 8 = .ok (.iconst 0, 1) := by decide +kernel
theorem dX9_choose_9 : decode cX9_choose 9 = .ok (.ireturn, 1) := by decide +kernel
theorem dX9_choose_10 : decode cX9_choose 10 = .ok (.aload_n 0, 1) := by decide +kernel
theorem dX9_choose_11 : decode cX9_choose 11 = .ok (.aload_n 2, 1) := by decide +kernel
theorem dX9_choose_12 : decode cX9_choose 12 = .ok (.invokevirtual 42, 3) := by decide +kernel
theorem dX9_choose_15 : decode cX9_choose 15 = .ok (.ifCond .eq 5, 3) := by decide +kernel
theorem dX9_choose_18 : decode cX9_choose 18 = .ok (.iconst 1, 1) := by decide +kernel
theorem dX9_choose_19 : decode cX9_choose 19 = .ok (.ireturn, 1) := by decide +kernel
theorem dX9_choose_20 : decode cX9_choose 20 = .ok (.aload_n 0, 1) := by decide +kernel
theorem dX9_choose_21 : decode cX9_choose 21 = .ok (.aload_n 3, 1) := by decide +kernel
theorem dX9_choose_22 : decode cX9_choose 22 = .ok (.invokevirtual 42, 3) := by decide +kernel
theorem dX9_choose_25 : decode cX9_choose 25 = .ok (.ifCond .eq 7, 3) := by decide +kernel
theorem dX9_choose_28 : decode cX9_choose 28 = .ok (.iconst 2, 1) := by decide +kernel
theorem dX9_choose_29 : decode cX9_choose 29 = .ok (.goto 4, 3) := by decide +kernel
theorem dX9_choose_32 : decode cX9_choose 32 = .ok (.iconst (-1), 1) := by decide +kernel
theorem dX9_choose_33 : decode cX9_choose 33 = .ok (.ireturn, 1) := by decide +kernel
theorem dX9_number_0 : decode cX9_number 0 = .ok (.aload_n 0, 1) := by decide +kernel
theorem dX9_number_1 : decode cX9_number 1 = .ok (.getfield 96, 3) := by decide +kernel
theorem dX9_number_4 : decode cX9_number 4 = .ok (.iconst 2, 1) := by decide +kernel
theorem dX9_number_5 : decode cX9_number 5 = .ok (.if_icmp .ne 16, 3) := by decide +kernel
theorem dX9_number_8 : decode cX9_number 8 = .ok (.aload_n 0, 1) := by decide +kernel
theorem dX9_number_9 : decode cX9_number 9 = .ok (.getfield 27, 3) := by decide +kernel
theorem dX9_number_12 : decode cX9_number 12 = .ok (.aload_n 0, 1) := by decide +kernel
theorem dX9_number_13 : decode cX9_number 13 = .ok (.getfield 37, 3) := by decide +kernel
theorem dX9_number_16 : decode cX9_number 16 = .ok (.isub, 1) := by decide +kernel
theorem dX9_number_17 : decode cX9_number 17 = .ok (.iconst 2, 1) := by decide +kernel
theorem dX9_number_18 : decode cX9_number 18 = .ok (.if_icmp .le 5, 3) := by decide +kernel
theorem dX9_number_21 : decode cX9_number 21 = .ok (.iconst (-1), 1) := by decide +kernel
theorem dX9_number_22 : decode cX9_number 22 = .ok (.ireturn, 1) := by decide +kernel
theorem dX9_number_23 : decode cX9_number 23 = .ok (.iconst 0, 1) := by decide +kernel
theorem dX9_number_24 : decode cX9_number 24 = .ok (.istore_n 2, 1) := by decide +kernel
theorem dX9_number_25 : decode cX9_number 25 = .ok (.aload_n 0, 1) := by decide +kernel
theorem dX9_number_26 : decode cX9_number 26 = .ok (.getfield 37, 3) := by decide +kernel
theorem dX9_number_29 : decode cX9_number 29 = .ok (.istore_n 3, 1) := by decide +kernel
theorem dX9_number_30 : decode cX9_number 30 = .ok (.iload_n 3, 1) := by decide +kernel
theorem dX9_number_31 : decode cX9_number 31 = .ok (.aload_n 0, 1) := by decide +kernel
theorem dX9_number_32 : decode cX9_number 32 = .ok (.getfield 27, 3) := by decide +kernel
theorem dX9_number_35 : decode cX9_number 35 = .ok (.if_icmp .ge 24, 3) := by decide +kernel
theorem dX9_number_38 : decode cX9_number 38 = .ok (.iload_n 2, 1) := by decide +kernel
theorem dX9_number_39 : decode cX9_number 39 = .ok (.bipush 10, 2) := by decide +kernel
theorem dX9_number_41 : decode cX9_number 41 = .ok (.imul, 1) := by decide +kernel
theorem dX9_number_42 : decode cX9_number 42 = .ok (.aload_n 0, 1) := by decide +kernel
theorem dX9_number_43 : decode cX9_number 43 = .ok (.getfield 9, 3) := by decide +kernel
theorem dX9_number_46 : decode cX9_number 46 = .ok (.iload_n 3, 1) := by decide +kernel
theorem dX9_number_47 : decode cX9_number 47 = .ok (.caload, 1) := by decide +kernel
theorem dX9_number_48 : decode cX9_number 48 = .ok (.iadd, 1) := by decide +kernel
theorem dX9_number_49 : decode cX9_number 49 = .ok (.bipush 48, 2) := by decide +kernel
theorem dX9_number_51 : decode cX9_number 51 = .ok (.isub, 1) := by decide +kernel
theorem dX9_number_52 : decode cX9_number 52 = .ok (.istore_n 2, 1) := by decide +kernel
theorem dX9_number_53 : decode cX9_number 53 = .ok (.iinc 3 1, 3) := by decide +kernel
theorem dX9_number_56 : decode cX9_number 56 = .ok (.goto (-26), 3) := by decide +kernel
theorem dX9_number_59 : decode cX9_number 59 = .ok (.iload_n 2, 1) := by decide +kernel
theorem dX9_number_60 : decode cX9_number 60 = .ok (.iload_n 1, 1) := by decide +kernel
theorem dX9_number_61 : decode cX9_number 61 = .ok (.if_icmp .le 5, 3) := by decide +kernel
theorem dX9_number_64 : decode cX9_number 64 = .ok (.iconst (-1), 1) := by decide +kernel
theorem dX9_number_65 : decode cX9_number 65 = .ok (.ireturn, 1) := by decide +kernel
theorem dX9_number_66 : decode cX9_number 66 = .ok (.aload_n 0, 1) := by decide +kernel
theorem dX9_number_67 : decode cX9_number 67 = .ok (.invokevirtual 30, 3) := by decide +kernel
theorem dX9_number_70 : decode cX9_number 70 = .ok (.iload_n 2, 1) := by decide +kernel
theorem dX9_number_71 : decode cX9_number 71 = .ok (.ireturn, 1) := by decide +kernel
theorem dX9_pass_0 : decode cX9_pass 0 = .ok (.aload_n 0, 1) := by decide +kernel
theorem dX9_pass_1 : decode cX9_pass 1 = .ok (.getfield 27, 3) := by decide +kernel
theorem dX9_pass_4 : decode cX9_pass 4 = .ok (.aload_n 0, 1) := by decide +kernel
theorem dX9_pass_5 : decode cX9_pass 5 = .ok (.getfield 37, 3) := by decide +kernel
theorem dX9_pass_8 : decode cX9_pass 8 = .ok (.isub, 1) := by decide +kernel
theorem dX9_pass_9 : decode cX9_pass 9 = .ok (.aload_n 1, 1) := by decide +kernel
theorem dX9_pass_10 : decode cX9_pass 10 = .ok (.invokevirtual 99, 3) := by decide +kernel
theorem dX9_pass_13 : decode cX9_pass 13 = .ok (.if_icmp .eq 5, 3) := by decide +kernel
theorem dX9_pass_16 : decode cX9_pass 16 = .ok (.iconst 0, 1) := by decide +kernel
theorem dX9_pass_17 : decode cX9_pass 17 = .ok (.ireturn, 1) := by decide +kernel
theorem dX9_pass_18 : decode cX9_pass 18 = .ok (.iconst 0, 1) := by decide +kernel
theorem dX9_pass_19 : decode cX9_pass 19 = .ok (.istore_n 2, 1) := by decide +kernel
theorem dX9_pass_20 : decode cX9_pass 20 = .ok (.iload_n 2, 1) := by decide +kernel
theorem dX9_pass_21 : decode cX9_pass 21 = .ok (.aload_n 1, 1) := by decide +kernel
theorem dX9_pass_22 : decode cX9_pass 22 = .ok (.invokevirtual 99, 3) := by decide +kernel
theorem dX9_pass_25 : decode cX9_pass 25 = .ok (.if_icmp .ge 30, 3) := by decide +kernel
theorem dX9_pass_28 : decode cX9_pass 28 = .ok (.aload_n 0, 1) := by decide +kernel
theorem dX9_pass_29 : decode cX9_pass 29 = .ok (.getfield 9, 3) := by decide +kernel
theorem dX9_pass_32 : decode cX9_pass 32 = .ok (.aload_n 0, 1) := by decide +kernel
theorem dX9_pass_33 : decode cX9_pass 33 = .ok (.getfield 37, 3) := by decide +kernel
theorem dX9_pass_36 : decode cX9_pass 36 = .ok (.iload_n 2, 1) := by decide +kernel
theorem dX9_pass_37 : decode cX9_pass 37 = .ok (.iadd, 1) := by decide +kernel
theorem dX9_pass_38 : decode cX9_pass 38 = .ok (.caload, 1) := by decide +kernel
theorem dX9_pass_39 : decode cX9_pass 39 = .ok (.aload_n 1, 1) := by decide +kernel
theorem dX9_pass_40 : decode cX9_pass 40 = .ok (.iload_n 2, 1) := by decide +kernel
theorem dX9_pass_41 : decode cX9_pass 41 = .ok (.invokevirtual 104, 3) := by decide +kernel
theorem dX9_pass_44 : decode cX9_pass 44 = .ok (.if_icmp .eq 5, 3) := by decide +kernel
theorem dX9_pass_47 : decode cX9_pass 47 = .ok (.iconst 0, 1) := by decide +kernel
theorem dX9_pass_48 : decode cX9_pass 48 = .ok (.ireturn, 1) := by decide +kernel
theorem dX9_pass_49 : decode cX9_pass 49 = .ok (.iinc 2 1, 3) := by decide +kernel
theorem dX9_pass_52 : decode cX9_pass 52 = .ok (.goto (-32), 3) := by decide +kernel
theorem dX9_pass_55 : decode cX9_pass 55 = .ok (.aload_n 0, 1) := by decide +kernel
theorem dX9_pass_56 : decode cX9_pass 56 = .ok (.invokevirtual 30, 3) := by decide +kernel
theorem dX9_pass_59 : decode cX9_pass 59 = .ok (.iconst 1, 1) := by decide +kernel
theorem dX9_pass_60 : decode cX9_pass 60 = .ok (.ireturn, 1) := by decide +kernel
theorem dX9_goOn_0 : decode cX9_goOn 0 = .ok (.aload_n 0, 1) := by decide +kernel
theorem dX9_goOn_1 : decode cX9_goOn 1 = .ok (.aload_n 0, 1) := by decide +kernel
theorem dX9_goOn_2 : decode cX9_goOn 2 = .ok (.getfield 27, 3) := by decide +kernel
theorem dX9_goOn_5 : decode cX9_goOn 5 = .ok (.putfield 37, 3) := by decide +kernel
theorem dX9_goOn_8 : decode cX9_goOn 8 = .ok (.aload_n 0, 1) := by decide +kernel
theorem dX9_goOn_9 : decode cX9_goOn 9 = .ok (.getfield 37, 3) := by decide +kernel
theorem dX9_goOn_12 : decode cX9_goOn 12 = .ok (.aload_n 0, 1) := by decide +kernel
theorem dX9_goOn_13 : decode cX9_goOn 13 = .ok (.getfield 15, 3) := by decide +kernel
theorem dX9_goOn_16 : decode cX9_goOn 16 = .ok (.if_icmp .ge 30, 3) := by decide +kernel
theorem dX9_goOn_19 : decode cX9_goOn 19 = .ok (.aload_n 0, 1) := by decide +kernel
theorem dX9_goOn_20 : decode cX9_goOn 20 = .ok (.getfield 9, 3) := by decide +kernel
theorem dX9_goOn_23 : decode cX9_goOn 23 = .ok (.aload_n 0, 1) := by decide +kernel
theorem dX9_goOn_24 : decode cX9_goOn 24 = .ok (.getfield 37, 3) := by decide +kernel
theorem dX9_goOn_27 : decode cX9_goOn 27 = .ok (.caload, 1) := by decide +kernel
theorem dX9_goOn_28 : decode cX9_goOn 28 = .ok (.bipush 32, 2) := by decide +kernel
theorem dX9_goOn_30 : decode cX9_goOn 30 = .ok (.if_icmp .ne 16, 3) := by decide +kernel
theorem dX9_goOn_33 : decode cX9_goOn 33 = .ok (.aload_n 0, 1) := by decide +kernel
theorem dX9_goOn_34 : decode cX9_goOn 34 = .ok (.dup, 1) := by decide +kernel
theorem dX9_goOn_35 : decode cX9_goOn 35 = .ok (.getfield 37, 3) := by decide +kernel
theorem dX9_goOn_38 : decode cX9_goOn 38 = .ok (.iconst 1, 1) := by decide +kernel
theorem dX9_goOn_39 : decode cX9_goOn 39 = .ok (.iadd, 1) := by decide +kernel
theorem dX9_goOn_40 : decode cX9_goOn 40 = .ok (.putfield 37, 3) := by decide +kernel
theorem dX9_goOn_43 : decode cX9_goOn 43 = .ok (.goto (-35), 3) := by decide +kernel
theorem dX9_goOn_46 : decode cX9_goOn 46 = .ok (.aload_n 0, 1) := by decide +kernel
theorem dX9_goOn_47 : decode cX9_goOn 47 = .ok (.aload_n 0, 1) := by decide +kernel
theorem dX9_goOn_48 : decode cX9_goOn 48 = .ok (.getfield 37, 3) := by decide +kernel
theorem dX9_goOn_51 : decode cX9_goOn 51 = .ok (.putfield 27, 3) := by decide +kernel
theorem dX9_goOn_54 : decode cX9_goOn 54 = .ok (.aload_n 0, 1) := by decide +kernel
theorem dX9_goOn_55 : decode cX9_goOn 55 = .ok (.iconst 0, 1) := by decide +kernel
theorem dX9_goOn_56 : decode cX9_goOn 56 = .ok (.putfield 96, 3) := by decide +kernel
theorem dX9_goOn_59 : decode cX9_goOn 59 = .ok (.aload_n 0, 1) := by decide +kernel
theorem dX9_goOn_60 : decode cX9_goOn 60 = .ok (.getfield 37, 3) := by decide +kernel
theorem dX9_goOn_63 : decode cX9_goOn 63 = .ok (.aload_n 0, 1) := by decide +kernel
theorem dX9_goOn_64 : decode cX9_goOn 64 = .ok (.getfield 15, 3) := by decide +kernel
theorem dX9_goOn_67 : decode cX9_goOn 67 = .ok (.if_icmp .ne 4, 3) := by decide +kernel
theorem dX9_goOn_70 : decode cX9_goOn 70 = .ok (.return_, 1) := by decide +kernel
theorem dX9_goOn_71 : decode cX9_goOn 71 = .ok (.aload_n 0, 1) := by decide +kernel
theorem dX9_goOn_72 : decode cX9_goOn 72 = .ok (.aload_n 0, 1) := by decide +kernel
theorem dX9_goOn_73 : decode cX9_goOn 73 = .ok (.getfield 9, 3) := by decide +kernel
theorem dX9_goOn_76 : decode cX9_goOn 76 = .ok (.aload_n 0, 1) := by decide +kernel
theorem dX9_goOn_77 : decode cX9_goOn 77 = .ok (.getfield 37, 3) := by decide +kernel
theorem dX9_goOn_80 : decode cX9_goOn 80 = .ok (.caload, 1) := by decide +kernel
theorem dX9_goOn_81 : decode cX9_goOn 81 = .ok (.invokestatic 108, 3) := by decide +kernel
theorem dX9_goOn_84 : decode cX9_goOn 84 = .ok (.putfield 96, 3) := by decide +kernel
theorem dX9_goOn_87 : decode cX9_goOn 87 = .ok (.aload_n 0, 1) := by decide +kernel
theorem dX9_goOn_88 : decode cX9_goOn 88 = .ok (.dup, 1) := by decide +kernel
theorem dX9_goOn_89 : decode cX9_goOn 89 = .ok (.getfield 27, 3) := by decide +kernel
theorem dX9_goOn_92 : decode cX9_goOn 92 = .ok (.iconst 1, 1) := by decide +kernel
theorem dX9_goOn_93 : decode cX9_goOn 93 = .ok (.iadd, 1) := by decide +kernel
theorem dX9_goOn_94 : decode cX9_goOn 94 = .ok (.putfield 27, 3) := by decide +kernel
theorem dX9_goOn_97 : decode cX9_goOn 97 = .ok (.aload_n 0, 1) := by decide +kernel
theorem dX9_goOn_98 : decode cX9_goOn 98 = .ok (.getfield 96, 3) := by decide +kernel
theorem dX9_goOn_101 : decode cX9_goOn 101 = .ok (.ifCond .eq 46, 3) := by decide +kernel
theorem dX9_goOn_104 : decode cX9_goOn 104 = .ok (.aload_n 0, 1) := by decide +kernel
theorem dX9_goOn_105 : decode cX9_goOn 105 = .ok (.getfield 27, 3) := by decide +kernel
theorem dX9_goOn_108 : decode cX9_goOn 108 = .ok (.aload_n 0, 1) := by decide +kernel
theorem dX9_goOn_109 : decode cX9_goOn 109 = .ok (.getfield 15, 3) := by decide +kernel
theorem dX9_goOn_112 : decode cX9_goOn 112 = .ok (.if_icmp .ge 35, 3) := by decide +kernel
theorem dX9_goOn_115 : decode cX9_goOn 115 = .ok (.aload_n 0, 1) := by decide +kernel
theorem dX9_goOn_116 : decode cX9_goOn 116 = .ok (.getfield 9, 3) := by decide +kernel
theorem dX9_goOn_119 : decode cX9_goOn 119 = .ok (.aload_n 0, 1) := by decide +kernel
theorem dX9_goOn_120 : decode cX9_goOn 120 = .ok (.getfield 27, 3) := by decide +kernel
theorem dX9_goOn_123 : decode cX9_goOn 123 = .ok (.caload, 1) := by decide +kernel
theorem dX9_goOn_124 : decode cX9_goOn 124 = .ok (.invokestatic 108, 3) := by decide +kernel
theorem dX9_goOn_127 : decode cX9_goOn 127 = .ok (.aload_n 0, 1) := by decide +kernel
theorem dX9_goOn_128 : decode cX9_goOn 128 = .ok (.getfield 96, 3) := by decide +kernel
theorem dX9_goOn_131 : decode cX9_goOn 131 = .ok (.if_icmp .ne 16, 3) := by decide +kernel
theorem dX9_goOn_134 : decode cX9_goOn 134 = .ok (.aload_n 0, 1) := by decide +kernel
theorem dX9_goOn_135 : decode cX9_goOn 135 = .ok (.dup, 1) := by decide +kernel
theorem dX9_goOn_136 : decode cX9_goOn 136 = .ok (.getfield 27, 3) := by decide +kernel
theorem dX9_goOn_139 : decode cX9_goOn 139 = .ok (.iconst 1, 1) := by decide +kernel
theorem dX9_goOn_140 : decode cX9_goOn 140 = .ok (.iadd, 1) := by decide +kernel
theorem dX9_goOn_141 : decode cX9_goOn 141 = .ok (.putfield 27, 3) := by decide +kernel
theorem dX9_goOn_144 : decode cX9_goOn 144 = .ok (.goto (-47), 3) := by decide +kernel
theorem dX9_goOn_147 : decode cX9_goOn 147 = .ok (.return_, 1) := by decide +kernel
theorem dX9_lookOf_0 : decode cX9_lookOf 0 = .ok (.iload_n 0, 1) := by decide +kernel
theorem dX9_lookOf_1 : decode cX9_lookOf 1 = .ok (.bipush 97, 2) := by decide +kernel
theorem dX9_lookOf_3 : decode cX9_lookOf 3 = .ok (.if_icmp .lt 11, 3) := by decide +kernel
theorem dX9_lookOf_6 : decode cX9_lookOf 6 = .ok (.iload_n 0, 1) := by decide +kernel
theorem dX9_lookOf_7 : decode cX9_lookOf 7 = .ok (.bipush 122, 2) := by decide +kernel
theorem dX9_lookOf_9 : decode cX9_lookOf 9 = .ok (.if_icmp .gt 5, 3) := by decide +kernel
theorem dX9_lookOf_12 : decode cX9_lookOf 12 = .ok (.iconst 1, 1) := by decide +kernel
theorem dX9_lookOf_13 : decode cX9_lookOf 13 = .ok (.ireturn, 1) := by decide +kernel
theorem dX9_lookOf_14 : decode cX9_lookOf 14 = .ok (.iload_n 0, 1) := by decide +kernel
theorem dX9_lookOf_15 : decode cX9_lookOf 15 = .ok (.bipush 48, 2) := by decide +kernel
theorem dX9_lookOf_17 : decode cX9_lookOf 17 = .ok (.if_icmp .lt 13, 3) := by decide +kernel
theorem dX9_lookOf_20 : decode cX9_lookOf 20 = .ok (.iload_n 0, 1) := by decide +kernel
theorem dX9_lookOf_21 : decode cX9_lookOf 21 = .ok (.bipush 57, 2) := by decide +kernel
theorem dX9_lookOf_23 : decode cX9_lookOf 23 = .ok (.if_icmp .gt 7, 3) := by decide +kernel
theorem dX9_lookOf_26 : decode cX9_lookOf 26 = .ok (.iconst 2, 1) := by decide +kernel
theorem dX9_lookOf_27 : decode cX9_lookOf 27 = .ok (.goto 4, 3) := by decide +kernel
theorem dX9_lookOf_30 : decode cX9_lookOf 30 = .ok (.iconst 0, 1) := by decide +kernel
theorem dX9_lookOf_31 : decode cX9_lookOf 31 = .ok (.ireturn, 1) := by decide +kernel
theorem dX10_init_0 : decode cX10_init 0 = .ok (.aload_n 0, 1) := by decide +kernel
theorem dX10_init_1 : decode cX10_init 1 = .ok (.invokespecial 3, 3) := by decide +kernel
theorem dX10_init_4 : decode cX10_init 4 = .ok (.aload_n 0, 1) := by decide +kernel
theorem dX10_init_5 : decode cX10_init 5 = .ok (.iconst 4, 1) := by decide +kernel
theorem dX10_init_6 : decode cX10_init 6 = .ok (.iconst 4, 1) := by decide +kernel
theorem dX10_init_7 : decode cX10_init 7 = .ok (.multianewarray 9 2, 4) := by decide +kernel
theorem dX10_init_11 : decode cX10_init 11 = .ok (.putfield 11, 3) := by decide +kernel
theorem dX10_init_14 : decode cX10_init 14 = .ok (.aload_n 0, 1) := by decide +kernel
theorem dX10_init_15 : decode cX10_init 15 = .ok (.iconst 4, 1) := by decide +kernel
theorem dX10_init_16 : decode cX10_init 16 = .ok (.newarray .int, 2) := by decide +kernel
theorem dX10_init_18 : decode cX10_init 18 = .ok (.putfield 16, 3) := by decide +kernel
theorem dX10_init_21 : decode cX10_init 21 = .ok (.aload_n 0, 1) := by decide +kernel
theorem dX10_init_22 : decode cX10_init 22 = .ok (.new 20, 3) := by decide +kernel
theorem dX10_init_25 : decode cX10_init 25 = .ok (.dup, 1) := by decide +kernel
theorem dX10_init_26 : decode cX10_init 26 = .ok (.invokespecial 22, 3) := by decide +kernel
theorem dX10_init_29 : decode cX10_init 29 = .ok (.putfield 23, 3) := by decide +kernel
theorem dX10_init_32 : decode cX10_init 32 = .ok (.aload_n 0, 1) := by decide +kernel
theorem dX10_init_33 : decode cX10_init 33 = .ok (.new 20, 3) := by decide +kernel
theorem dX10_init_36 : decode cX10_init 36 = .ok (.dup, 1) := by decide +kernel
theorem dX10_init_37 : decode cX10_init 37 = .ok (.invokespecial 22, 3) := by decide +kernel
theorem dX10_init_40 : decode cX10_init 40 = .ok (.putfield 27, 3) := by decide +kernel
theorem dX10_init_43 : decode cX10_init 43 = .ok (.aload_n 0, 1) := by decide +kernel
theorem dX10_init_44 : decode cX10_init 44 = .ok (.getfield 16, 3) := by decide +kernel
theorem dX10_init_47 : decode cX10_init 47 = .ok (.iconst 1, 1) := by decide +kernel
theorem dX10_init_48 : decode cX10_init 48 = .ok (.invokestatic 30, 3) := by decide +kernel
theorem dX10_init_51 : decode cX10_init 51 = .ok (.return_, 1) := by decide +kernel
theorem dX11_init_0 : decode cX11_init 0 = .ok (.aload_n 0, 1) := by decide +kernel
theorem dX11_init_1 : decode cX11_init 1 = .ok (.invokespecial 1, 3) := by decide +kernel
theorem dX11_init_4 : decode cX11_init 4 = .ok (.aload_n 0, 1) := by decide +kernel
theorem dX11_init_5 : decode cX11_init 5 = .ok (.new 7, 3) := by decide +kernel
theorem dX11_init_8 : decode cX11_init 8 = .ok (.dup, 1) := by decide +kernel
theorem dX11_init_9 : decode cX11_init 9 = .ok (.invokespecial 9, 3) := by decide +kernel
theorem dX11_init_12 : decode cX11_init 12 = .ok (.putfield 10, 3) := by decide +kernel
theorem dX11_init_15 : decode cX11_init 15 = .ok (.aload_n 0, 1) := by decide +kernel
theorem dX11_init_16 : decode cX11_init 16 = .ok (.new 16, 3) := by decide +kernel
theorem dX11_init_19 : decode cX11_init 19 = .ok (.dup, 1) := by decide +kernel
theorem dX11_init_20 : decode cX11_init 20 = .ok (.invokespecial 18, 3) := by decide +kernel
theorem dX11_init_23 : decode cX11_init 23 = .ok (.putfield 19, 3) := by decide +kernel
theorem dX11_init_26 : decode cX11_init 26 = .ok (.aload_n 0, 1) := by decide +kernel
theorem dX11_init_27 : decode cX11_init 27 = .ok (.new 16, 3) := by decide +kernel
theorem dX11_init_30 : decode cX11_init 30 = .ok (.dup, 1) := by decide +kernel
theorem dX11_init_31 : decode cX11_init 31 = .ok (.invokespecial 18, 3) := by decide +kernel
theorem dX11_init_34 : decode cX11_init 34 = .ok (.putfield 23, 3) := by decide +kernel
theorem dX11_init_37 : decode cX11_init 37 = .ok (.aload_n 0, 1) := by decide +kernel
theorem dX11_init_38 : decode cX11_init 38 = .ok (.new 26, 3) := by decide +kernel
theorem dX11_init_41 : decode cX11_init 41 = .ok (.dup, 1) := by decide +kernel
theorem dX11_init_42 : decode cX11_init 42 = .ok (.invokespecial 28, 3) := by decide +kernel
theorem dX11_init_45 : decode cX11_init 45 = .ok (.putfield 29, 3) := by decide +kernel
theorem dX11_init_48 : decode cX11_init 48 = .ok (.aload_n 0, 1) := by decide +kernel
theorem dX11_init_49 : decode cX11_init 49 = .ok (.new 33, 3) := by decide +kernel
theorem dX11_init_52 : decode cX11_init 52 = .ok (.dup, 1) := by decide +kernel
theorem dX11_init_53 : decode cX11_init 53 = .ok (.aload_n 0, 1) := by decide +kernel
theorem dX11_init_54 : decode cX11_init 54 = .ok (.getfield 10, 3) := by decide +kernel
theorem dX11_init_57 : decode cX11_init 57 = .ok (.invokespecial 35, 3) := by decide +kernel
theorem dX11_init_60 : decode cX11_init 60 = .ok (.putfield 38, 3) := by decide +kernel
theorem dX11_init_63 : decode cX11_init 63 = .ok (.aload_n 0, 1) := by decide +kernel
theorem dX11_init_64 : decode cX11_init 64 = .ok (.new 33, 3) := by decide +kernel
theorem dX11_init_67 : decode cX11_init 67 = .ok (.dup, 1) := by decide +kernel
theorem dX11_init_68 : decode cX11_init 68 = .ok (.aload_n 0, 1) := by decide +kernel
theorem dX11_init_69 : decode cX11_init 69 = .ok (.getfield 10, 3) := by decide +kernel
theorem dX11_init_72 : decode cX11_init 72 = .ok (.invokespecial 35, 3) := by decide +kernel
theorem dX11_init_75 : decode cX11_init 75 = .ok (.putfield 42, 3) := by decide +kernel
theorem dX11_init_78 : decode cX11_init 78 = .ok (.aload_n 0, 1) := by decide +kernel
theorem dX11_init_79 : decode cX11_init 79 = .ok (.new 45, 3) := by decide +kernel
theorem dX11_init_82 : decode cX11_init 82 = .ok (.dup, 1) := by decide +kernel
theorem dX11_init_83 : decode cX11_init 83 = .ok (.aload_n 0, 1) := by decide +kernel
theorem dX11_init_84 : decode cX11_init 84 = .ok (.getfield 10, 3) := by decide +kernel
theorem dX11_init_87 : decode cX11_init 87 = .ok (.invokespecial 47, 3) := by decide +kernel
theorem dX11_init_90 : decode cX11_init 90 = .ok (.putfield 48, 3) := by decide +kernel
theorem dX11_init_93 : decode cX11_init 93 = .ok (.aload_n 0, 1) := by decide +kernel
theorem dX11_init_94 : decode cX11_init 94 = .ok (.new 52, 3) := by decide +kernel
theorem dX11_init_97 : decode cX11_init 97 = .ok (.dup, 1) := by decide +kernel
theorem dX11_init_98 : decode cX11_init 98 = .ok (.aload_n 0, 1) := by decide +kernel
theorem dX11_init_99 : decode cX11_init 99 = .ok (.getfield 10, 3) := by decide +kernel
theorem dX11_init_102 : decode cX11_init 102 = .ok (.invokespecial 54, 3) := by decide +kernel
theorem dX11_init_105 : decode cX11_init 105 = .ok (.putfield 55, 3) := by decide +kernel
theorem dX11_init_108 : decode cX11_init 108 = .ok (.aload_n 0, 1) := by decide +kernel
theorem dX11_init_109 : decode cX11_init 109 = .ok (.new 59, 3) := by decide +kernel
theorem dX11_init_112 : decode cX11_init 112 = .ok (.dup, 1) := by decide +kernel
theorem dX11_init_113 : decode cX11_init 113 = .ok (.aload_n 0, 1) := by decide +kernel
theorem dX11_init_114 : decode cX11_init 114 = .ok (.getfield 10, 3) := by decide +kernel
theorem dX11_init_117 : decode cX11_init 117 = .ok (.invokespecial 61, 3) := by decide +kernel
theorem dX11_init_120 : decode cX11_init 120 = .ok (.putfield 62, 3) := by decide +kernel
theorem dX11_init_123 : decode cX11_init 123 = .ok (.aload_n 0, 1) := by decide +kernel
theorem dX11_init_124 : decode cX11_init 124 = .ok (.new 66, 3) := by decide +kernel
theorem dX11_init_127 : decode cX11_init 127 = .ok (.dup, 1) := by decide +kernel
theorem dX11_init_128 : decode cX11_init 128 = .ok (.aload_n 0, 1) := by decide +kernel
theorem dX11_init_129 : decode cX11_init 129 = .ok (.getfield 62, 3) := by decide +kernel
theorem dX11_init_132 : decode cX11_init 132 = .ok (.invokespecial 68, 3) := by decide +kernel
theorem dX11_init_135 : decode cX11_init 135 = .ok (.putfield 71, 3) := by decide +kernel
theorem dX11_init_138 : decode cX11_init 138 = .ok (.aload_n 0, 1) := by decide +kernel
theorem dX11_init_139 : decode cX11_init 139 = .ok (.new 75, 3) := by decide +kernel
theorem dX11_init_142 : decode cX11_init 142 = .ok (.dup, 1) := by decide +kernel
theorem dX11_init_143 : decode cX11_init 143 = .ok (.aload_n 0, 1) := by decide +kernel
theorem dX11_init_144 : decode cX11_init 144 = .ok (.getfield 62, 3) := by decide +kernel
theorem dX11_init_147 : decode cX11_init 147 = .ok (.invokespecial 77, 3) := by decide +kernel
theorem dX11_init_150 : decode cX11_init 150 = .ok (.putfield 78, 3) := by decide +kernel
theorem dX11_init_153 : decode cX11_init 153 = .ok (.return_, 1) := by decide +kernel
theorem dX11_worth_0 : decode cX11_worth 0 = .ok (.iload_n 1, 1) := by decide +kernel
theorem dX11_worth_1 : decode cX11_worth 1 = .ok (.invokestatic 82, 3) := by decide +kernel
theorem dX11_worth_4 : decode cX11_worth 4 = .ok (.ifCond .eq 10, 3) := by decide +kernel
theorem dX11_worth_7 : decode cX11_worth 7 = .ok (.iload_n 2, 1) := by decide +kernel
theorem dX11_worth_8 : decode cX11_worth 8 = .ok (.invokestatic 86, 3) := by decide +kernel
theorem dX11_worth_11 : decode cX11_worth 11 = .ok (.ifCond .ne 6, 3) := by decide +kernel
theorem dX11_worth_14 : decode cX11_worth 14 = .ok (.bipush (-2), 2) := by decide +kernel
theorem dX11_worth_16 : decode cX11_worth 16 = .ok (.ireturn, 1) := by decide +kernel
theorem dX11_worth_17 : decode cX11_worth 17 = .ok (.iload_n 3, 1) := by decide +kernel
theorem dX11_worth_18 : decode cX11_worth 18 = .ok (.iconst 0, 1) := by decide +kernel
theorem dX11_worth_19 : decode cX11_worth 19 = .ok (.bipush 99, 2) := by decide +kernel
theorem dX11_worth_21 : decode cX11_worth 21 = .ok (.invokestatic 89, 3) := by decide +kernel
theorem dX11_worth_24 : decode cX11_worth 24 = .ok (.ifCond .ne 6, 3) := by decide +kernel
theorem dX11_worth_27 : decode cX11_worth 27 = .ok (.bipush (-3), 2) := by decide +kernel
theorem dX11_worth_29 : decode cX11_worth 29 = .ok (.ireturn, 1) := by decide +kernel
theorem dX11_worth_30 : decode cX11_worth 30 = .ok (.aload_n 0, 1) := by decide +kernel
theorem dX11_worth_31 : decode cX11_worth 31 = .ok (.getfield 10, 3) := by decide +kernel
theorem dX11_worth_34 : decode cX11_worth 34 = .ok (.getfield 93, 3) := by decide +kernel
theorem dX11_worth_37 : decode cX11_worth 37 = .ok (.iload_n 1, 1) := by decide +kernel
theorem dX11_worth_38 : decode cX11_worth 38 = .ok (.aaload, 1) := by decide +kernel
theorem dX11_worth_39 : decode cX11_worth 39 = .ok (.iload_n 2, 1) := by decide +kernel
theorem dX11_worth_40 : decode cX11_worth 40 = .ok (.iaload, 1) := by decide +kernel
theorem dX11_worth_41 : decode cX11_worth 41 = .ok (.istore 4, 2) := by decide +kernel
theorem dX11_worth_43 : decode cX11_worth 43 = .ok (.aload_n 0, 1) := by decide +kernel
theorem dX11_worth_44 : decode cX11_worth 44 = .ok (.getfield 10, 3) := by decide +kernel
theorem dX11_worth_47 : decode cX11_worth 47 = .ok (.getfield 93, 3) := by decide +kernel
theorem dX11_worth_50 : decode cX11_worth 50 = .ok (.iload_n 1, 1) := by decide +kernel
theorem dX11_worth_51 : decode cX11_worth 51 = .ok (.aaload, 1) := by decide +kernel
theorem dX11_worth_52 : decode cX11_worth 52 = .ok (.iload_n 2, 1) := by decide +kernel
theorem dX11_worth_53 : decode cX11_worth 53 = .ok (.iload_n 3, 1) := by decide +kernel
theorem dX11_worth_54 : decode cX11_worth 54 = .ok (.iastore, 1) := by decide +kernel
theorem dX11_worth_55 : decode cX11_worth 55 = .ok (.aload_n 0, 1) := by decide +kernel
theorem dX11_worth_56 : decode cX11_worth 56 = .ok (.getfield 48, 3) := by decide +kernel
theorem dX11_worth_59 : decode cX11_worth 59 = .ok (.invokevirtual 97, 3) := by decide +kernel
theorem dX11_worth_62 : decode cX11_worth 62 = .ok (.iload 4, 2) := by decide +kernel
theorem dX11_worth_64 : decode cX11_worth 64 = .ok (.ireturn, 1) := by decide +kernel
theorem dX11_need_0 : decode cX11_need 0 = .ok (.iload_n 1, 1) := by decide +kernel
theorem dX11_need_1 : decode cX11_need 1 = .ok (.invokestatic 82, 3) := by decide +kernel
theorem dX11_need_4 : decode cX11_need 4 = .ok (.ifCond .ne 6, 3) := by decide +kernel
theorem dX11_need_7 : decode cX11_need 7 = .ok (.bipush (-2), 2) := by decide +kernel
theorem dX11_need_9 : decode cX11_need 9 = .ok (.ireturn, 1) := by decide +kernel
theorem dX11_need_10 : decode cX11_need 10 = .ok (.iload_n 2, 1) := by decide +kernel
theorem dX11_need_11 : decode cX11_need 11 = .ok (.iconst 1, 1) := by decide +kernel
theorem dX11_need_12 : decode cX11_need 12 = .ok (.bipush 9, 2) := by decide +kernel
theorem dX11_need_14 : decode cX11_need 14 = .ok (.invokestatic 89, 3) := by decide +kernel
theorem dX11_need_17 : decode cX11_need 17 = .ok (.ifCond .ne 6, 3) := by decide +kernel
theorem dX11_need_20 : decode cX11_need 20 = .ok (.bipush (-3), 2) := by decide +kernel
theorem dX11_need_22 : decode cX11_need 22 = .ok (.ireturn, 1) := by decide +kernel
theorem dX11_need_23 : decode cX11_need 23 = .ok (.aload_n 0, 1) := by decide +kernel
theorem dX11_need_24 : decode cX11_need 24 = .ok (.getfield 10, 3) := by decide +kernel
theorem dX11_need_27 : decode cX11_need 27 = .ok (.getfield 100, 3) := by decide +kernel
theorem dX11_need_30 : decode cX11_need 30 = .ok (.iload_n 1, 1) := by decide +kernel
theorem dX11_need_31 : decode cX11_need 31 = .ok (.iaload, 1) := by decide +kernel
theorem dX11_need_32 : decode cX11_need 32 = .ok (.istore_n 3, 1) := by decide +kernel
theorem dX11_need_33 : decode cX11_need 33 = .ok (.aload_n 0, 1) := by decide +kernel
theorem dX11_need_34 : decode cX11_need 34 = .ok (.getfield 10, 3) := by decide +kernel
theorem dX11_need_37 : decode cX11_need 37 = .ok (.getfield 100, 3) := by decide +kernel
theorem dX11_need_40 : decode cX11_need 40 = .ok (.iload_n 1, 1) := by decide +kernel
theorem dX11_need_41 : decode cX11_need 41 = .ok (.iload_n 2, 1) := by decide +kernel
theorem dX11_need_42 : decode cX11_need 42 = .ok (.iastore, 1) := by decide +kernel
theorem dX11_need_43 : decode cX11_need 43 = .ok (.aload_n 0, 1) := by decide +kernel
theorem dX11_need_44 : decode cX11_need 44 = .ok (.getfield 48, 3) := by decide +kernel
theorem dX11_need_47 : decode cX11_need 47 = .ok (.invokevirtual 97, 3) := by decide +kernel
theorem dX11_need_50 : decode cX11_need 50 = .ok (.iload_n 3, 1) := by decide +kernel
theorem dX11_need_51 : decode cX11_need 51 = .ok (.ireturn, 1) := by decide +kernel
theorem dX11_coming_0 : decode cX11_coming 0 = .ok (.iload_n 1, 1) := by decide +kernel
theorem dX11_coming_1 : decode cX11_coming 1 = .ok (.iconst (-1), 1) := by decide +kernel
theorem dX11_coming_2 : decode cX11_coming 2 = .ok (.if_icmp .eq 13, 3) := by decide +kernel
theorem dX11_coming_5 : decode cX11_coming 5 = .ok (.iload_n 1, 1) := by decide +kernel
theorem dX11_coming_6 : decode cX11_coming 6 = .ok (.invokestatic 86, 3) := by decide +kernel
theorem dX11_coming_9 : decode cX11_coming 9 = .ok (.ifCond .ne 6, 3) := by decide +kernel
theorem dX11_coming_12 : decode cX11_coming 12 = .ok (.bipush (-2), 2) := by decide +kernel
theorem dX11_coming_14 : decode cX11_coming 14 = .ok (.ireturn, 1) := by decide +kernel
theorem dX11_coming_15 : decode cX11_coming 15 = .ok (.aload_n 0, 1) := by decide +kernel
theorem dX11_coming_16 : decode cX11_coming 16 = .ok (.getfield 10, 3) := by decide +kernel
theorem dX11_coming_19 : decode cX11_coming 19 = .ok (.getfield 104, 3) := by decide +kernel
theorem dX11_coming_22 : decode cX11_coming 22 = .ok (.invokevirtual 108, 3) := by decide +kernel
theorem dX11_coming_25 : decode cX11_coming 25 = .ok (.ifCond .eq 6, 3) := by decide +kernel
theorem dX11_coming_28 : decode cX11_coming 28 = .ok (.bipush (-5), 2) := by decide +kernel
theorem dX11_coming_30 : decode cX11_coming 30 = .ok (.ireturn, 1) := by decide +kernel
theorem dX11_coming_31 : decode cX11_coming 31 = .ok (.aload_n 0, 1) := by decide +kernel
theorem dX11_coming_32 : decode cX11_coming 32 = .ok (.getfield 48, 3) := by decide +kernel
theorem dX11_coming_35 : decode cX11_coming 35 = .ok (.invokevirtual 97, 3) := by decide +kernel
theorem dX11_coming_38 : decode cX11_coming 38 = .ok (.aload_n 0, 1) := by decide +kernel
theorem dX11_coming_39 : decode cX11_coming 39 = .ok (.getfield 10, 3) := by decide +kernel
theorem dX11_coming_42 : decode cX11_coming 42 = .ok (.getfield 104, 3) := by decide +kernel
theorem dX11_coming_45 : decode cX11_coming 45 = .ok (.iload_n 1, 1) := by decide +kernel
theorem dX11_coming_46 : decode cX11_coming 46 = .ok (.invokevirtual 114, 3) := by decide +kernel
theorem dX11_coming_49 : decode cX11_coming 49 = .ok (.ireturn, 1) := by decide +kernel
theorem dX11_joining_0 : decode cX11_joining 0 = .ok (.iload_n 1, 1) := by decide +kernel
theorem dX11_joining_1 : decode cX11_joining 1 = .ok (.iconst (-1), 1) := by decide +kernel
theorem dX11_joining_2 : decode cX11_joining 2 = .ok (.if_icmp .eq 13, 3) := by decide +kernel
theorem dX11_joining_5 : decode cX11_joining 5 = .ok (.iload_n 1, 1) := by decide +kernel
theorem dX11_joining_6 : decode cX11_joining 6 = .ok (.invokestatic 82, 3) := by decide +kernel
theorem dX11_joining_9 : decode cX11_joining 9 = .ok (.ifCond .ne 6, 3) := by decide +kernel
theorem dX11_joining_12 : decode cX11_joining 12 = .ok (.bipush (-2), 2) := by decide +kernel
theorem dX11_joining_14 : decode cX11_joining 14 = .ok (.ireturn, 1) := by decide +kernel
theorem dX11_joining_15 : decode cX11_joining 15 = .ok (.aload_n 0, 1) := by decide +kernel
theorem dX11_joining_16 : decode cX11_joining 16 = .ok (.getfield 10, 3) := by decide +kernel
theorem dX11_joining_19 : decode cX11_joining 19 = .ok (.getfield 118, 3) := by decide +kernel
theorem dX11_joining_22 : decode cX11_joining 22 = .ok (.invokevirtual 108, 3) := by decide +kernel
theorem dX11_joining_25 : decode cX11_joining 25 = .ok (.ifCond .eq 6, 3) := by decide +kernel
theorem dX11_joining_28 : decode cX11_joining 28 = .ok (.bipush (-5), 2) := by decide +kernel
theorem dX11_joining_30 : decode cX11_joining 30 = .ok (.ireturn, 1) := by decide +kernel
theorem dX11_joining_31 : decode cX11_joining 31 = .ok (.aload_n 0, 1) := by decide +kernel
theorem dX11_joining_32 : decode cX11_joining 32 = .ok (.getfield 48, 3) := by decide +kernel
theorem dX11_joining_35 : decode cX11_joining 35 = .ok (.invokevirtual 97, 3) := by decide +kernel
theorem dX11_joining_38 : decode cX11_joining 38 = .ok (.aload_n 0, 1) := by decide +kernel
theorem dX11_joining_39 : decode cX11_joining 39 = .ok (.getfield 10, 3) := by decide +kernel
theorem dX11_joining_42 : decode cX11_joining 42 = .ok (.getfield 118, 3) := by decide +kernel
theorem dX11_joining_45 : decode cX11_joining 45 = .ok (.iload_n 1, 1) := by decide +kernel
theorem dX11_joining_46 : decode cX11_joining 46 = .ok (.invokevirtual 114, 3) := by decide +kernel
theorem dX11_joining_49 : decode cX11_joining 49 = .ok (.ireturn, 1) := by decide +kernel
theorem dX11_join_0 : decode cX11_join 0 = .ok (.iload_n 1, 1) := by decide +kernel
theorem dX11_join_1 : decode cX11_join 1 = .ok (.invokestatic 82, 3) := by decide +kernel
theorem dX11_join_4 : decode cX11_join 4 = .ok (.ifCond .ne 6, 3) := by decide +kernel
theorem dX11_join_7 : decode cX11_join 7 = .ok (.bipush (-2), 2) := by decide +kernel
theorem dX11_join_9 : decode cX11_join 9 = .ok (.ireturn, 1) := by decide +kernel
theorem dX11_join_10 : decode cX11_join 10 = .ok (.aload_n 0, 1) := by decide +kernel
theorem dX11_join_11 : decode cX11_join 11 = .ok (.getfield 38, 3) := by decide +kernel
theorem dX11_join_14 : decode cX11_join 14 = .ok (.invokevirtual 121, 3) := by decide +kernel
theorem dX11_join_17 : decode cX11_join 17 = .ok (.ifCond .eq 6, 3) := by decide +kernel
theorem dX11_join_20 : decode cX11_join 20 = .ok (.bipush (-5), 2) := by decide +kernel
theorem dX11_join_22 : decode cX11_join 22 = .ok (.ireturn, 1) := by decide +kernel
theorem dX11_join_23 : decode cX11_join 23 = .ok (.aload_n 0, 1) := by decide +kernel
theorem dX11_join_24 : decode cX11_join 24 = .ok (.getfield 48, 3) := by decide +kernel
theorem dX11_join_27 : decode cX11_join 27 = .ok (.invokevirtual 97, 3) := by decide +kernel
theorem dX11_join_30 : decode cX11_join 30 = .ok (.aload_n 0, 1) := by decide +kernel
theorem dX11_join_31 : decode cX11_join 31 = .ok (.getfield 38, 3) := by decide +kernel
theorem dX11_join_34 : decode cX11_join 34 = .ok (.iload_n 1, 1) := by decide +kernel
theorem dX11_join_35 : decode cX11_join 35 = .ok (.invokevirtual 122, 3) := by decide +kernel
theorem dX11_join_38 : decode cX11_join 38 = .ok (.aload_n 0, 1) := by decide +kernel
theorem dX11_join_39 : decode cX11_join 39 = .ok (.getfield 38, 3) := by decide +kernel
theorem dX11_join_42 : decode cX11_join 42 = .ok (.getfield 125, 3) := by decide +kernel
theorem dX11_join_45 : decode cX11_join 45 = .ok (.ireturn, 1) := by decide +kernel
theorem dX11_run_0 : decode cX11_run 0 = .ok (.iload_n 1, 1) := by decide +kernel
theorem dX11_run_1 : decode cX11_run 1 = .ok (.iconst 1, 1) := by decide +kernel
theorem dX11_run_2 : decode cX11_run 2 = .ok (.bipush 100, 2) := by decide +kernel
theorem dX11_run_4 : decode cX11_run 4 = .ok (.invokestatic 89, 3) := by decide +kernel
theorem dX11_run_7 : decode cX11_run 7 = .ok (.ifCond .eq 18, 3) := by decide +kernel
theorem dX11_run_10 : decode cX11_run 10 = .ok (.aload_n 0, 1) := by decide +kernel
theorem dX11_run_11 : decode cX11_run 11 = .ok (.getfield 38, 3) := by decide +kernel
theorem dX11_run_14 : decode cX11_run 14 = .ok (.getfield 129, 3) := by decide +kernel
theorem dX11_run_17 : decode cX11_run 17 = .ok (.iload_n 1, 1) := by decide +kernel
theorem dX11_run_18 : decode cX11_run 18 = .ok (.iadd, 1) := by decide +kernel
theorem dX11_run_19 : decode cX11_run 19 = .ok (.sipush 2000, 3) := by decide +kernel
theorem dX11_run_22 : decode cX11_run 22 = .ok (.if_icmp .le 6, 3) := by decide +kernel
theorem dX11_run_25 : decode cX11_run 25 = .ok (.bipush (-3), 2) := by decide +kernel
theorem dX11_run_27 : decode cX11_run 27 = .ok (.ireturn, 1) := by decide +kernel
theorem dX11_run_28 : decode cX11_run 28 = .ok (.aload_n 0, 1) := by decide +kernel
theorem dX11_run_29 : decode cX11_run 29 = .ok (.getfield 48, 3) := by decide +kernel
theorem dX11_run_32 : decode cX11_run 32 = .ok (.invokevirtual 97, 3) := by decide +kernel
theorem dX11_run_35 : decode cX11_run 35 = .ok (.aload_n 0, 1) := by decide +kernel
theorem dX11_run_36 : decode cX11_run 36 = .ok (.getfield 38, 3) := by decide +kernel
theorem dX11_run_39 : decode cX11_run 39 = .ok (.iload_n 1, 1) := by decide +kernel
theorem dX11_run_40 : decode cX11_run 40 = .ok (.aload_n 0, 1) := by decide +kernel
theorem dX11_run_41 : decode cX11_run 41 = .ok (.getfield 19, 3) := by decide +kernel
theorem dX11_run_44 : decode cX11_run 44 = .ok (.invokevirtual 132, 3) := by decide +kernel
theorem dX11_run_47 : decode cX11_run 47 = .ok (.aload_n 0, 1) := by decide +kernel
theorem dX11_run_48 : decode cX11_run 48 = .ok (.getfield 38, 3) := by decide +kernel
theorem dX11_run_51 : decode cX11_run 51 = .ok (.getfield 129, 3) := by decide +kernel
theorem dX11_run_54 : decode cX11_run 54 = .ok (.ireturn, 1) := by decide +kernel
end
section
theorem dX11_person_0 : decode cX11_person 0 = .ok (.iload_n 1, 1) := by decide +kernel
theorem dX11_person_1 : decode cX11_person 1 = .ok (.iconst 0, 1) := by decide +kernel
theorem dX11_person_2 : decode cX11_person 2 = .ok (.aload_n 0, 1) := by decide +kernel
theorem dX11_person_3 : decode cX11_person 3 = .ok (.getfield 38, 3) := by decide +kernel
theorem dX11_person_6 : decode cX11_person 6 = .ok (.getfield 125, 3) := by decide +kernel
theorem dX11_person_9 : decode cX11_person 9 = .ok (.iconst 1, 1) := by decide +kernel
theorem dX11_person_10 : decode cX11_person 10 = .ok (.isub, 1) := by decide +kernel
theorem dX11_person_11 : decode cX11_person 11 = .ok (.invokestatic 89, 3) := by decide +kernel
theorem dX11_person_14 : decode cX11_person 14 = .ok (.ifCond .ne 6, 3) := by decide +kernel
theorem dX11_person_17 : decode cX11_person 17 = .ok (.bipush (-2), 2) := by decide +kernel
theorem dX11_person_19 : decode cX11_person 19 = .ok (.ireturn, 1) := by decide +kernel
theorem dX11_person_20 : decode cX11_person 20 = .ok (.aload_n 0, 1) := by decide +kernel
theorem dX11_person_21 : decode cX11_person 21 = .ok (.getfield 38, 3) := by decide +kernel
theorem dX11_person_24 : decode cX11_person 24 = .ok (.aload_n 0, 1) := by decide +kernel
theorem dX11_person_25 : decode cX11_person 25 = .ok (.getfield 19, 3) := by decide +kernel
theorem dX11_person_28 : decode cX11_person 28 = .ok (.getfield 136, 3) := by decide +kernel
theorem dX11_person_31 : decode cX11_person 31 = .ok (.invokevirtual 139, 3) := by decide +kernel
theorem dX11_person_34 : decode cX11_person 34 = .ok (.aload_n 0, 1) := by decide +kernel
theorem dX11_person_35 : decode cX11_person 35 = .ok (.getfield 38, 3) := by decide +kernel
theorem dX11_person_38 : decode cX11_person 38 = .ok (.getfield 142, 3) := by decide +kernel
theorem dX11_person_41 : decode cX11_person 41 = .ok (.iload_n 1, 1) := by decide +kernel
theorem dX11_person_42 : decode cX11_person 42 = .ok (.aaload, 1) := by decide +kernel
theorem dX11_person_43 : decode cX11_person 43 = .ok (.astore_n 3, 1) := by decide +kernel
theorem dX11_person_44 : decode cX11_person 44 = .ok (.iload_n 2, 1) := by decide +kernel
theorem dX11_person_45 : decode cX11_person 45 = .ok (.tableswitch 60 0 4 #[35, 40, 45, 50, 55], 35) := by decide +kernel
theorem dX11_person_80 : decode cX11_person 80 = .ok (.aload_n 3, 1) := by decide +kernel
theorem dX11_person_81 : decode cX11_person 81 = .ok (.getfield 146, 3) := by decide +kernel
theorem dX11_person_84 : decode cX11_person 84 = .ok (.ireturn, 1) := by decide +kernel
theorem dX11_person_85 : decode cX11_person 85 = .ok (.aload_n 3, 1) := by decide +kernel
theorem dX11_person_86 : decode cX11_person 86 = .ok (.getfield 151, 3) := by decide +kernel
theorem dX11_person_89 : decode cX11_person 89 = .ok (.ireturn, 1) := by decide +kernel
theorem dX11_person_90 : decode cX11_person 90 = .ok (.aload_n 3, 1) := by decide +kernel
theorem dX11_person_91 : decode cX11_person 91 = .ok (.getfield 154, 3) := by decide +kernel
theorem dX11_person_94 : decode cX11_person 94 = .ok (.ireturn, 1) := by decide +kernel
theorem dX11_person_95 : decode cX11_person 95 = .ok (.aload_n 3, 1) := by decide +kernel
theorem dX11_person_96 : decode cX11_person 96 = .ok (.getfield 157, 3) := by decide +kernel
theorem dX11_person_99 : decode cX11_person 99 = .ok (.ireturn, 1) := by decide +kernel
theorem dX11_person_100 : decode cX11_person 100 = .ok (.aload_n 3, 1) := by decide +kernel
theorem dX11_person_101 : decode cX11_person 101 = .ok (.getfield 160, 3) := by decide +kernel
theorem dX11_person_104 : decode cX11_person 104 = .ok (.ireturn, 1) := by decide +kernel
theorem dX11_person_105 : decode cX11_person 105 = .ok (.bipush (-3), 2) := by decide +kernel
theorem dX11_person_107 : decode cX11_person 107 = .ok (.ireturn, 1) := by decide +kernel
theorem dX11_of_0 : decode cX11_of 0 = .ok (.iload_n 1, 1) := by decide +kernel
theorem dX11_of_1 : decode cX11_of 1 = .ok (.invokestatic 82, 3) := by decide +kernel
theorem dX11_of_4 : decode cX11_of 4 = .ok (.ifCond .ne 6, 3) := by decide +kernel
theorem dX11_of_7 : decode cX11_of 7 = .ok (.bipush (-2), 2) := by decide +kernel
theorem dX11_of_9 : decode cX11_of 9 = .ok (.ireturn, 1) := by decide +kernel
theorem dX11_of_10 : decode cX11_of 10 = .ok (.iload_n 2, 1) := by decide +kernel
theorem dX11_of_11 : decode cX11_of 11 = .ok (.iconst 0, 1) := by decide +kernel
theorem dX11_of_12 : decode cX11_of 12 = .ok (.iconst 5, 1) := by decide +kernel
theorem dX11_of_13 : decode cX11_of 13 = .ok (.invokestatic 89, 3) := by decide +kernel
theorem dX11_of_16 : decode cX11_of 16 = .ok (.ifCond .ne 6, 3) := by decide +kernel
theorem dX11_of_19 : decode cX11_of 19 = .ok (.bipush (-3), 2) := by decide +kernel
theorem dX11_of_21 : decode cX11_of 21 = .ok (.ireturn, 1) := by decide +kernel
theorem dX11_of_22 : decode cX11_of 22 = .ok (.aload_n 0, 1) := by decide +kernel
theorem dX11_of_23 : decode cX11_of 23 = .ok (.getfield 38, 3) := by decide +kernel
theorem dX11_of_26 : decode cX11_of 26 = .ok (.getfield 163, 3) := by decide +kernel
theorem dX11_of_29 : decode cX11_of 29 = .ok (.iload_n 2, 1) := by decide +kernel
theorem dX11_of_30 : decode cX11_of 30 = .ok (.aaload, 1) := by decide +kernel
theorem dX11_of_31 : decode cX11_of 31 = .ok (.iload_n 1, 1) := by decide +kernel
theorem dX11_of_32 : decode cX11_of 32 = .ok (.iaload, 1) := by decide +kernel
theorem dX11_of_33 : decode cX11_of 33 = .ok (.ireturn, 1) := by decide +kernel
theorem dX11_empty_0 : decode cX11_empty 0 = .ok (.aload_n 0, 1) := by decide +kernel
theorem dX11_empty_1 : decode cX11_empty 1 = .ok (.getfield 38, 3) := by decide +kernel
theorem dX11_empty_4 : decode cX11_empty 4 = .ok (.getfield 166, 3) := by decide +kernel
theorem dX11_empty_7 : decode cX11_empty 7 = .ok (.ireturn, 1) := by decide +kernel
theorem dX11_write_0 : decode cX11_write 0 = .ok (.iload_n 3, 1) := by decide +kernel
theorem dX11_write_1 : decode cX11_write 1 = .ok (.iconst 1, 1) := by decide +kernel
theorem dX11_write_2 : decode cX11_write 2 = .ok (.bipush 8, 2) := by decide +kernel
theorem dX11_write_4 : decode cX11_write 4 = .ok (.invokestatic 89, 3) := by decide +kernel
theorem dX11_write_7 : decode cX11_write 7 = .ok (.ifCond .ne 6, 3) := by decide +kernel
theorem dX11_write_10 : decode cX11_write 10 = .ok (.bipush (-3), 2) := by decide +kernel
theorem dX11_write_12 : decode cX11_write 12 = .ok (.ireturn, 1) := by decide +kernel
theorem dX11_write_13 : decode cX11_write 13 = .ok (.aload_n 0, 1) := by decide +kernel
theorem dX11_write_14 : decode cX11_write 14 = .ok (.getfield 29, 3) := by decide +kernel
theorem dX11_write_17 : decode cX11_write 17 = .ok (.getfield 169, 3) := by decide +kernel
theorem dX11_write_20 : decode cX11_write 20 = .ok (.iload_n 3, 1) := by decide +kernel
theorem dX11_write_21 : decode cX11_write 21 = .ok (.iadd, 1) := by decide +kernel
theorem dX11_write_22 : decode cX11_write 22 = .ok (.sipush 160, 3) := by decide +kernel
theorem dX11_write_25 : decode cX11_write 25 = .ok (.if_icmp .le 6, 3) := by decide +kernel
theorem dX11_write_28 : decode cX11_write 28 = .ok (.bipush (-5), 2) := by decide +kernel
theorem dX11_write_30 : decode cX11_write 30 = .ok (.ireturn, 1) := by decide +kernel
theorem dX11_write_31 : decode cX11_write 31 = .ok (.iconst 0, 1) := by decide +kernel
theorem dX11_write_32 : decode cX11_write 32 = .ok (.istore 4, 2) := by decide +kernel
theorem dX11_write_34 : decode cX11_write 34 = .ok (.iload 4, 2) := by decide +kernel
theorem dX11_write_36 : decode cX11_write 36 = .ok (.iload_n 3, 1) := by decide +kernel
theorem dX11_write_37 : decode cX11_write 37 = .ok (.if_icmp .ge 29, 3) := by decide +kernel
theorem dX11_write_40 : decode cX11_write 40 = .ok (.aload_n 0, 1) := by decide +kernel
theorem dX11_write_41 : decode cX11_write 41 = .ok (.getfield 29, 3) := by decide +kernel
theorem dX11_write_44 : decode cX11_write 44 = .ok (.lload_n 1, 1) := by decide +kernel
theorem dX11_write_45 : decode cX11_write 45 = .ok (.bipush 8, 2) := by decide +kernel
theorem dX11_write_47 : decode cX11_write 47 = .ok (.iload 4, 2) := by decide +kernel
theorem dX11_write_49 : decode cX11_write 49 = .ok (.imul, 1) := by decide +kernel
theorem dX11_write_50 : decode cX11_write 50 = .ok (.lshr, 1) := by decide +kernel
theorem dX11_write_51 : decode cX11_write 51 = .ok (.ldc2_w 172, 3) := by decide +kernel
theorem dX11_write_54 : decode cX11_write 54 = .ok (.land, 1) := by decide +kernel
theorem dX11_write_55 : decode cX11_write 55 = .ok (.l2i, 1) := by decide +kernel
theorem dX11_write_56 : decode cX11_write 56 = .ok (.i2c, 1) := by decide +kernel
theorem dX11_write_57 : decode cX11_write 57 = .ok (.invokevirtual 174, 3) := by decide +kernel
theorem dX11_write_60 : decode cX11_write 60 = .ok (.iinc 4 1, 3) := by decide +kernel
theorem dX11_write_63 : decode cX11_write 63 = .ok (.goto (-29), 3) := by decide +kernel
theorem dX11_write_66 : decode cX11_write 66 = .ok (.aload_n 0, 1) := by decide +kernel
theorem dX11_write_67 : decode cX11_write 67 = .ok (.getfield 29, 3) := by decide +kernel
theorem dX11_write_70 : decode cX11_write 70 = .ok (.getfield 169, 3) := by decide +kernel
theorem dX11_write_73 : decode cX11_write 73 = .ok (.ireturn, 1) := by decide +kernel
theorem dX11_erase_0 : decode cX11_erase 0 = .ok (.aload_n 0, 1) := by decide +kernel
theorem dX11_erase_1 : decode cX11_erase 1 = .ok (.getfield 29, 3) := by decide +kernel
theorem dX11_erase_4 : decode cX11_erase 4 = .ok (.getfield 169, 3) := by decide +kernel
theorem dX11_erase_7 : decode cX11_erase 7 = .ok (.istore_n 1, 1) := by decide +kernel
theorem dX11_erase_8 : decode cX11_erase 8 = .ok (.aload_n 0, 1) := by decide +kernel
theorem dX11_erase_9 : decode cX11_erase 9 = .ok (.getfield 29, 3) := by decide +kernel
theorem dX11_erase_12 : decode cX11_erase 12 = .ok (.iconst 0, 1) := by decide +kernel
theorem dX11_erase_13 : decode cX11_erase 13 = .ok (.putfield 169, 3) := by decide +kernel
theorem dX11_erase_16 : decode cX11_erase 16 = .ok (.iload_n 1, 1) := by decide +kernel
theorem dX11_erase_17 : decode cX11_erase 17 = .ok (.ireturn, 1) := by decide +kernel
theorem dX11_fault_0 : decode cX11_fault 0 = .ok (.aload_n 0, 1) := by decide +kernel
theorem dX11_fault_1 : decode cX11_fault 1 = .ok (.getfield 29, 3) := by decide +kernel
theorem dX11_fault_4 : decode cX11_fault 4 = .ok (.aload_n 0, 1) := by decide +kernel
theorem dX11_fault_5 : decode cX11_fault 5 = .ok (.getfield 23, 3) := by decide +kernel
theorem dX11_fault_8 : decode cX11_fault 8 = .ok (.invokevirtual 177, 3) := by decide +kernel
theorem dX11_fault_11 : decode cX11_fault 11 = .ok (.ireturn, 1) := by decide +kernel
theorem dX11_rules_0 : decode cX11_rules 0 = .ok (.aload_n 0, 1) := by decide +kernel
theorem dX11_rules_1 : decode cX11_rules 1 = .ok (.getfield 29, 3) := by decide +kernel
theorem dX11_rules_4 : decode cX11_rules 4 = .ok (.aload_n 0, 1) := by decide +kernel
theorem dX11_rules_5 : decode cX11_rules 5 = .ok (.getfield 23, 3) := by decide +kernel
theorem dX11_rules_8 : decode cX11_rules 8 = .ok (.invokevirtual 177, 3) := by decide +kernel
theorem dX11_rules_11 : decode cX11_rules 11 = .ok (.iconst (-1), 1) := by decide +kernel
theorem dX11_rules_12 : decode cX11_rules 12 = .ok (.if_icmp .eq 6, 3) := by decide +kernel
theorem dX11_rules_15 : decode cX11_rules 15 = .ok (.bipush (-4), 2) := by decide +kernel
theorem dX11_rules_17 : decode cX11_rules 17 = .ok (.ireturn, 1) := by decide +kernel
theorem dX11_rules_18 : decode cX11_rules 18 = .ok (.aload_n 0, 1) := by decide +kernel
theorem dX11_rules_19 : decode cX11_rules 19 = .ok (.getfield 19, 3) := by decide +kernel
theorem dX11_rules_22 : decode cX11_rules 22 = .ok (.aload_n 0, 1) := by decide +kernel
theorem dX11_rules_23 : decode cX11_rules 23 = .ok (.getfield 23, 3) := by decide +kernel
theorem dX11_rules_26 : decode cX11_rules 26 = .ok (.invokevirtual 181, 3) := by decide +kernel
theorem dX11_rules_29 : decode cX11_rules 29 = .ok (.aload_n 0, 1) := by decide +kernel
theorem dX11_rules_30 : decode cX11_rules 30 = .ok (.getfield 29, 3) := by decide +kernel
theorem dX11_rules_33 : decode cX11_rules 33 = .ok (.iconst 0, 1) := by decide +kernel
theorem dX11_rules_34 : decode cX11_rules 34 = .ok (.putfield 169, 3) := by decide +kernel
theorem dX11_rules_37 : decode cX11_rules 37 = .ok (.aload_n 0, 1) := by decide +kernel
theorem dX11_rules_38 : decode cX11_rules 38 = .ok (.getfield 48, 3) := by decide +kernel
theorem dX11_rules_41 : decode cX11_rules 41 = .ok (.invokevirtual 97, 3) := by decide +kernel
theorem dX11_rules_44 : decode cX11_rules 44 = .ok (.aload_n 0, 1) := by decide +kernel
theorem dX11_rules_45 : decode cX11_rules 45 = .ok (.getfield 29, 3) := by decide +kernel
theorem dX11_rules_48 : decode cX11_rules 48 = .ok (.getfield 185, 3) := by decide +kernel
theorem dX11_rules_51 : decode cX11_rules 51 = .ok (.ireturn, 1) := by decide +kernel
theorem dX11_rule_0 : decode cX11_rule 0 = .ok (.iload_n 1, 1) := by decide +kernel
theorem dX11_rule_1 : decode cX11_rule 1 = .ok (.tableswitch 63 0 3 #[31, 39, 47, 55], 31) := by decide +kernel
theorem dX11_rule_32 : decode cX11_rule 32 = .ok (.aload_n 0, 1) := by decide +kernel
theorem dX11_rule_33 : decode cX11_rule 33 = .ok (.getfield 19, 3) := by decide +kernel
theorem dX11_rule_36 : decode cX11_rule 36 = .ok (.getfield 136, 3) := by decide +kernel
theorem dX11_rule_39 : decode cX11_rule 39 = .ok (.ireturn, 1) := by decide +kernel
theorem dX11_rule_40 : decode cX11_rule 40 = .ok (.aload_n 0, 1) := by decide +kernel
theorem dX11_rule_41 : decode cX11_rule 41 = .ok (.getfield 19, 3) := by decide +kernel
theorem dX11_rule_44 : decode cX11_rule 44 = .ok (.getfield 188, 3) := by decide +kernel
theorem dX11_rule_47 : decode cX11_rule 47 = .ok (.ireturn, 1) := by decide +kernel
theorem dX11_rule_48 : decode cX11_rule 48 = .ok (.aload_n 0, 1) := by decide +kernel
theorem dX11_rule_49 : decode cX11_rule 49 = .ok (.getfield 19, 3) := by decide +kernel
theorem dX11_rule_52 : decode cX11_rule 52 = .ok (.getfield 189, 3) := by decide +kernel
theorem dX11_rule_55 : decode cX11_rule 55 = .ok (.ireturn, 1) := by decide +kernel
theorem dX11_rule_56 : decode cX11_rule 56 = .ok (.aload_n 0, 1) := by decide +kernel
theorem dX11_rule_57 : decode cX11_rule 57 = .ok (.getfield 19, 3) := by decide +kernel
theorem dX11_rule_60 : decode cX11_rule 60 = .ok (.getfield 192, 3) := by decide +kernel
theorem dX11_rule_63 : decode cX11_rule 63 = .ok (.ireturn, 1) := by decide +kernel
theorem dX11_rule_64 : decode cX11_rule 64 = .ok (.bipush (-3), 2) := by decide +kernel
theorem dX11_rule_66 : decode cX11_rule 66 = .ok (.ireturn, 1) := by decide +kernel
theorem dX11_way_0 : decode cX11_way 0 = .ok (.iload_n 1, 1) := by decide +kernel
theorem dX11_way_1 : decode cX11_way 1 = .ok (.invokestatic 82, 3) := by decide +kernel
theorem dX11_way_4 : decode cX11_way 4 = .ok (.ifCond .ne 6, 3) := by decide +kernel
theorem dX11_way_7 : decode cX11_way 7 = .ok (.bipush (-2), 2) := by decide +kernel
theorem dX11_way_9 : decode cX11_way 9 = .ok (.ireturn, 1) := by decide +kernel
theorem dX11_way_10 : decode cX11_way 10 = .ok (.iload_n 2, 1) := by decide +kernel
theorem dX11_way_11 : decode cX11_way 11 = .ok (.tableswitch 55 0 2 #[25, 35, 45], 25) := by decide +kernel
theorem dX11_way_36 : decode cX11_way 36 = .ok (.aload_n 0, 1) := by decide +kernel
theorem dX11_way_37 : decode cX11_way 37 = .ok (.getfield 19, 3) := by decide +kernel
theorem dX11_way_40 : decode cX11_way 40 = .ok (.getfield 195, 3) := by decide +kernel
theorem dX11_way_43 : decode cX11_way 43 = .ok (.iload_n 1, 1) := by decide +kernel
theorem dX11_way_44 : decode cX11_way 44 = .ok (.iaload, 1) := by decide +kernel
theorem dX11_way_45 : decode cX11_way 45 = .ok (.ireturn, 1) := by decide +kernel
theorem dX11_way_46 : decode cX11_way 46 = .ok (.aload_n 0, 1) := by decide +kernel
theorem dX11_way_47 : decode cX11_way 47 = .ok (.getfield 19, 3) := by decide +kernel
theorem dX11_way_50 : decode cX11_way 50 = .ok (.getfield 198, 3) := by decide +kernel
theorem dX11_way_53 : decode cX11_way 53 = .ok (.iload_n 1, 1) := by decide +kernel
theorem dX11_way_54 : decode cX11_way 54 = .ok (.iaload, 1) := by decide +kernel
theorem dX11_way_55 : decode cX11_way 55 = .ok (.ireturn, 1) := by decide +kernel
theorem dX11_way_56 : decode cX11_way 56 = .ok (.aload_n 0, 1) := by decide +kernel
theorem dX11_way_57 : decode cX11_way 57 = .ok (.getfield 19, 3) := by decide +kernel
theorem dX11_way_60 : decode cX11_way 60 = .ok (.getfield 201, 3) := by decide +kernel
theorem dX11_way_63 : decode cX11_way 63 = .ok (.iload_n 1, 1) := by decide +kernel
theorem dX11_way_64 : decode cX11_way 64 = .ok (.iaload, 1) := by decide +kernel
theorem dX11_way_65 : decode cX11_way 65 = .ok (.ireturn, 1) := by decide +kernel
theorem dX11_way_66 : decode cX11_way 66 = .ok (.bipush (-3), 2) := by decide +kernel
theorem dX11_way_68 : decode cX11_way 68 = .ok (.ireturn, 1) := by decide +kernel
theorem dX11_would_0 : decode cX11_would 0 = .ok (.iload_n 1, 1) := by decide +kernel
theorem dX11_would_1 : decode cX11_would 1 = .ok (.iconst 1, 1) := by decide +kernel
theorem dX11_would_2 : decode cX11_would 2 = .ok (.bipush 60, 2) := by decide +kernel
theorem dX11_would_4 : decode cX11_would 4 = .ok (.invokestatic 89, 3) := by decide +kernel
theorem dX11_would_7 : decode cX11_would 7 = .ok (.ifCond .eq 12, 3) := by decide +kernel
theorem dX11_would_10 : decode cX11_would 10 = .ok (.iload_n 2, 1) := by decide +kernel
theorem dX11_would_11 : decode cX11_would 11 = .ok (.iconst 0, 1) := by decide +kernel
theorem dX11_would_12 : decode cX11_would 12 = .ok (.iconst 4, 1) := by decide +kernel
theorem dX11_would_13 : decode cX11_would 13 = .ok (.invokestatic 89, 3) := by decide +kernel
theorem dX11_would_16 : decode cX11_would 16 = .ok (.ifCond .ne 6, 3) := by decide +kernel
theorem dX11_would_19 : decode cX11_would 19 = .ok (.bipush (-3), 2) := by decide +kernel
theorem dX11_would_21 : decode cX11_would 21 = .ok (.ireturn, 1) := by decide +kernel
theorem dX11_would_22 : decode cX11_would 22 = .ok (.aload_n 0, 1) := by decide +kernel
theorem dX11_would_23 : decode cX11_would 23 = .ok (.iload_n 1, 1) := by decide +kernel
theorem dX11_would_24 : decode cX11_would 24 = .ok (.aload_n 0, 1) := by decide +kernel
theorem dX11_would_25 : decode cX11_would 25 = .ok (.getfield 19, 3) := by decide +kernel
theorem dX11_would_28 : decode cX11_would 28 = .ok (.invokevirtual 204, 3) := by decide +kernel
theorem dX11_would_31 : decode cX11_would 31 = .ok (.iload_n 2, 1) := by decide +kernel
theorem dX11_would_32 : decode cX11_would 32 = .ok (.tableswitch 67 0 3 #[32, 41, 50, 58], 32) := by decide +kernel
theorem dX11_would_64 : decode cX11_would 64 = .ok (.aload_n 0, 1) := by decide +kernel
theorem dX11_would_65 : decode cX11_would 65 = .ok (.getfield 42, 3) := by decide +kernel
theorem dX11_would_68 : decode cX11_would 68 = .ok (.iconst 5, 1) := by decide +kernel
theorem dX11_would_69 : decode cX11_would 69 = .ok (.invokevirtual 207, 3) := by decide +kernel
theorem dX11_would_72 : decode cX11_would 72 = .ok (.ireturn, 1) := by decide +kernel
theorem dX11_would_73 : decode cX11_would 73 = .ok (.aload_n 0, 1) := by decide +kernel
theorem dX11_would_74 : decode cX11_would 74 = .ok (.getfield 42, 3) := by decide +kernel
theorem dX11_would_77 : decode cX11_would 77 = .ok (.iconst 0, 1) := by decide +kernel
theorem dX11_would_78 : decode cX11_would 78 = .ok (.invokevirtual 207, 3) := by decide +kernel
theorem dX11_would_81 : decode cX11_would 81 = .ok (.ireturn, 1) := by decide +kernel
theorem dX11_would_82 : decode cX11_would 82 = .ok (.aload_n 0, 1) := by decide +kernel
theorem dX11_would_83 : decode cX11_would 83 = .ok (.getfield 42, 3) := by decide +kernel
theorem dX11_would_86 : decode cX11_would 86 = .ok (.getfield 166, 3) := by decide +kernel
theorem dX11_would_89 : decode cX11_would 89 = .ok (.ireturn, 1) := by decide +kernel
theorem dX11_would_90 : decode cX11_would 90 = .ok (.aload_n 0, 1) := by decide +kernel
theorem dX11_would_91 : decode cX11_would 91 = .ok (.getfield 42, 3) := by decide +kernel
theorem dX11_would_94 : decode cX11_would 94 = .ok (.iconst 3, 1) := by decide +kernel
theorem dX11_would_95 : decode cX11_would 95 = .ok (.invokevirtual 207, 3) := by decide +kernel
theorem dX11_would_98 : decode cX11_would 98 = .ok (.ireturn, 1) := by decide +kernel
theorem dX11_would_99 : decode cX11_would 99 = .ok (.aload_n 0, 1) := by decide +kernel
theorem dX11_would_100 : decode cX11_would 100 = .ok (.getfield 42, 3) := by decide +kernel
theorem dX11_would_103 : decode cX11_would 103 = .ok (.iconst 4, 1) := by decide +kernel
theorem dX11_would_104 : decode cX11_would 104 = .ok (.invokevirtual 207, 3) := by decide +kernel
theorem dX11_would_107 : decode cX11_would 107 = .ok (.ireturn, 1) := by decide +kernel
theorem dX11_gain_0 : decode cX11_gain 0 = .ok (.iload_n 1, 1) := by decide +kernel
theorem dX11_gain_1 : decode cX11_gain 1 = .ok (.invokestatic 82, 3) := by decide +kernel
theorem dX11_gain_4 : decode cX11_gain 4 = .ok (.ifCond .eq 13, 3) := by decide +kernel
theorem dX11_gain_7 : decode cX11_gain 7 = .ok (.iload_n 2, 1) := by decide +kernel
theorem dX11_gain_8 : decode cX11_gain 8 = .ok (.iconst 1, 1) := by decide +kernel
theorem dX11_gain_9 : decode cX11_gain 9 = .ok (.bipush 60, 2) := by decide +kernel
theorem dX11_gain_11 : decode cX11_gain 11 = .ok (.invokestatic 89, 3) := by decide +kernel
theorem dX11_gain_14 : decode cX11_gain 14 = .ok (.ifCond .ne 6, 3) := by decide +kernel
theorem dX11_gain_17 : decode cX11_gain 17 = .ok (.ldc 210, 2) := by decide +kernel
theorem dX11_gain_19 : decode cX11_gain 19 = .ok (.ireturn, 1) := by decide +kernel
theorem dX11_gain_20 : decode cX11_gain 20 = .ok (.aload_n 0, 1) := by decide +kernel
theorem dX11_gain_21 : decode cX11_gain 21 = .ok (.iload_n 2, 1) := by decide +kernel
theorem dX11_gain_22 : decode cX11_gain 22 = .ok (.aload_n 0, 1) := by decide +kernel
theorem dX11_gain_23 : decode cX11_gain 23 = .ok (.getfield 19, 3) := by decide +kernel
theorem dX11_gain_26 : decode cX11_gain 26 = .ok (.invokevirtual 204, 3) := by decide +kernel
theorem dX11_gain_29 : decode cX11_gain 29 = .ok (.aload_n 0, 1) := by decide +kernel
theorem dX11_gain_30 : decode cX11_gain 30 = .ok (.getfield 42, 3) := by decide +kernel
theorem dX11_gain_33 : decode cX11_gain 33 = .ok (.iload_n 1, 1) := by decide +kernel
theorem dX11_gain_34 : decode cX11_gain 34 = .ok (.invokevirtual 211, 3) := by decide +kernel
theorem dX11_gain_37 : decode cX11_gain 37 = .ok (.ireturn, 1) := by decide +kernel
theorem dX11_best_0 : decode cX11_best 0 = .ok (.iload_n 1, 1) := by decide +kernel
theorem dX11_best_1 : decode cX11_best 1 = .ok (.iconst 1, 1) := by decide +kernel
theorem dX11_best_2 : decode cX11_best 2 = .ok (.bipush 60, 2) := by decide +kernel
theorem dX11_best_4 : decode cX11_best 4 = .ok (.invokestatic 89, 3) := by decide +kernel
theorem dX11_best_7 : decode cX11_best 7 = .ok (.ifCond .eq 12, 3) := by decide +kernel
theorem dX11_best_10 : decode cX11_best 10 = .ok (.iload_n 2, 1) := by decide +kernel
theorem dX11_best_11 : decode cX11_best 11 = .ok (.iconst 0, 1) := by decide +kernel
theorem dX11_best_12 : decode cX11_best 12 = .ok (.iconst 1, 1) := by decide +kernel
theorem dX11_best_13 : decode cX11_best 13 = .ok (.invokestatic 89, 3) := by decide +kernel
theorem dX11_best_16 : decode cX11_best 16 = .ok (.ifCond .ne 6, 3) := by decide +kernel
theorem dX11_best_19 : decode cX11_best 19 = .ok (.bipush (-3), 2) := by decide +kernel
theorem dX11_best_21 : decode cX11_best 21 = .ok (.ireturn, 1) := by decide +kernel
theorem dX11_best_22 : decode cX11_best 22 = .ok (.aload_n 0, 1) := by decide +kernel
theorem dX11_best_23 : decode cX11_best 23 = .ok (.getfield 23, 3) := by decide +kernel
theorem dX11_best_26 : decode cX11_best 26 = .ok (.aload_n 0, 1) := by decide +kernel
theorem dX11_best_27 : decode cX11_best 27 = .ok (.getfield 19, 3) := by decide +kernel
theorem dX11_best_30 : decode cX11_best 30 = .ok (.invokevirtual 181, 3) := by decide +kernel
theorem dX11_best_33 : decode cX11_best 33 = .ok (.iconst (-1), 1) := by decide +kernel
theorem dX11_best_34 : decode cX11_best 34 = .ok (.istore_n 3, 1) := by decide +kernel
theorem dX11_best_35 : decode cX11_best 35 = .ok (.iconst 0, 1) := by decide +kernel
theorem dX11_best_36 : decode cX11_best 36 = .ok (.istore 4, 2) := by decide +kernel
theorem dX11_best_38 : decode cX11_best 38 = .ok (.iconst 0, 1) := by decide +kernel
theorem dX11_best_39 : decode cX11_best 39 = .ok (.istore 5, 2) := by decide +kernel
theorem dX11_best_41 : decode cX11_best 41 = .ok (.iload 5, 2) := by decide +kernel
theorem dX11_best_43 : decode cX11_best 43 = .ok (.bipush 36, 2) := by decide +kernel
theorem dX11_best_45 : decode cX11_best 45 = .ok (.if_icmp .ge 83, 3) := by decide +kernel
theorem dX11_best_48 : decode cX11_best 48 = .ok (.aload_n 0, 1) := by decide +kernel
theorem dX11_best_49 : decode cX11_best 49 = .ok (.getfield 23, 3) := by decide +kernel
theorem dX11_best_52 : decode cX11_best 52 = .ok (.iload 5, 2) := by decide +kernel
theorem dX11_best_54 : decode cX11_best 54 = .ok (.bipush 12, 2) := by decide +kernel
theorem dX11_best_56 : decode cX11_best 56 = .ok (.idiv, 1) := by decide +kernel
theorem dX11_best_57 : decode cX11_best 57 = .ok (.putfield 136, 3) := by decide +kernel
theorem dX11_best_60 : decode cX11_best 60 = .ok (.aload_n 0, 1) := by decide +kernel
theorem dX11_best_61 : decode cX11_best 61 = .ok (.getfield 23, 3) := by decide +kernel
theorem dX11_best_64 : decode cX11_best 64 = .ok (.iload 5, 2) := by decide +kernel
theorem dX11_best_66 : decode cX11_best 66 = .ok (.iconst 3, 1) := by decide +kernel
theorem dX11_best_67 : decode cX11_best 67 = .ok (.idiv, 1) := by decide +kernel
theorem dX11_best_68 : decode cX11_best 68 = .ok (.iconst 4, 1) := by decide +kernel
theorem dX11_best_69 : decode cX11_best 69 = .ok (.irem, 1) := by decide +kernel
theorem dX11_best_70 : decode cX11_best 70 = .ok (.putfield 188, 3) := by decide +kernel
theorem dX11_best_73 : decode cX11_best 73 = .ok (.aload_n 0, 1) := by decide +kernel
theorem dX11_best_74 : decode cX11_best 74 = .ok (.getfield 23, 3) := by decide +kernel
theorem dX11_best_77 : decode cX11_best 77 = .ok (.iload 5, 2) := by decide +kernel
theorem dX11_best_79 : decode cX11_best 79 = .ok (.iconst 3, 1) := by decide +kernel
theorem dX11_best_80 : decode cX11_best 80 = .ok (.irem, 1) := by decide +kernel
theorem dX11_best_81 : decode cX11_best 81 = .ok (.putfield 189, 3) := by decide +kernel
theorem dX11_best_84 : decode cX11_best 84 = .ok (.aload_n 0, 1) := by decide +kernel
theorem dX11_best_85 : decode cX11_best 85 = .ok (.iload_n 1, 1) := by decide +kernel
theorem dX11_best_86 : decode cX11_best 86 = .ok (.aload_n 0, 1) := by decide +kernel
theorem dX11_best_87 : decode cX11_best 87 = .ok (.getfield 23, 3) := by decide +kernel
theorem dX11_best_90 : decode cX11_best 90 = .ok (.invokevirtual 204, 3) := by decide +kernel
theorem dX11_best_93 : decode cX11_best 93 = .ok (.aload_n 0, 1) := by decide +kernel
theorem dX11_best_94 : decode cX11_best 94 = .ok (.getfield 42, 3) := by decide +kernel
theorem dX11_best_97 : decode cX11_best 97 = .ok (.iconst 5, 1) := by decide +kernel
theorem dX11_best_98 : decode cX11_best 98 = .ok (.invokevirtual 207, 3) := by decide +kernel
theorem dX11_best_101 : decode cX11_best 101 = .ok (.istore 6, 2) := by decide +kernel
theorem dX11_best_103 : decode cX11_best 103 = .ok (.iload_n 3, 1) := by decide +kernel
theorem dX11_best_104 : decode cX11_best 104 = .ok (.iconst (-1), 1) := by decide +kernel
theorem dX11_best_105 : decode cX11_best 105 = .ok (.if_icmp .eq 10, 3) := by decide +kernel
theorem dX11_best_108 : decode cX11_best 108 = .ok (.iload 6, 2) := by decide +kernel
theorem dX11_best_110 : decode cX11_best 110 = .ok (.iload 4, 2) := by decide +kernel
theorem dX11_best_112 : decode cX11_best 112 = .ok (.if_icmp .ge 10, 3) := by decide +kernel
theorem dX11_best_115 : decode cX11_best 115 = .ok (.iload 6, 2) := by decide +kernel
theorem dX11_best_117 : decode cX11_best 117 = .ok (.istore 4, 2) := by decide +kernel
theorem dX11_best_119 : decode cX11_best 119 = .ok (.iload 5, 2) := by decide +kernel
theorem dX11_best_121 : decode cX11_best 121 = .ok (.istore_n 3, 1) := by decide +kernel
theorem dX11_best_122 : decode cX11_best 122 = .ok (.iinc 5 1, 3) := by decide +kernel
theorem dX11_best_125 : decode cX11_best 125 = .ok (.goto (-84), 3) := by decide +kernel
theorem dX11_best_128 : decode cX11_best 128 = .ok (.iload_n 2, 1) := by decide +kernel
theorem dX11_best_129 : decode cX11_best 129 = .ok (.ifCond .ne 7, 3) := by decide +kernel
theorem dX11_best_132 : decode cX11_best 132 = .ok (.iload_n 3, 1) := by decide +kernel
theorem dX11_best_133 : decode cX11_best 133 = .ok (.goto 5, 3) := by decide +kernel
theorem dX11_best_136 : decode cX11_best 136 = .ok (.iload 4, 2) := by decide +kernel
theorem dX11_best_138 : decode cX11_best 138 = .ok (.ireturn, 1) := by decide +kernel
theorem dX11_rest_0 : decode cX11_rest 0 = .ok (.iload_n 1, 1) := by decide +kernel
theorem dX11_rest_1 : decode cX11_rest 1 = .ok (.iconst 1, 1) := by decide +kernel
theorem dX11_rest_2 : decode cX11_rest 2 = .ok (.bipush 40, 2) := by decide +kernel
theorem dX11_rest_4 : decode cX11_rest 4 = .ok (.invokestatic 89, 3) := by decide +kernel
theorem dX11_rest_7 : decode cX11_rest 7 = .ok (.ifCond .eq 8, 3) := by decide +kernel
theorem dX11_rest_10 : decode cX11_rest 10 = .ok (.iload_n 2, 1) := by decide +kernel
theorem dX11_rest_11 : decode cX11_rest 11 = .ok (.iconst (-1), 1) := by decide +kernel
theorem dX11_rest_12 : decode cX11_rest 12 = .ok (.if_icmp .ge 6, 3) := by decide +kernel
theorem dX11_rest_15 : decode cX11_rest 15 = .ok (.bipush (-3), 2) := by decide +kernel
theorem dX11_rest_17 : decode cX11_rest 17 = .ok (.ireturn, 1) := by decide +kernel
theorem dX11_rest_18 : decode cX11_rest 18 = .ok (.aload_n 0, 1) := by decide +kernel
theorem dX11_rest_19 : decode cX11_rest 19 = .ok (.getfield 48, 3) := by decide +kernel
theorem dX11_rest_22 : decode cX11_rest 22 = .ok (.iload_n 1, 1) := by decide +kernel
theorem dX11_rest_23 : decode cX11_rest 23 = .ok (.invokevirtual 214, 3) := by decide +kernel
theorem dX11_rest_26 : decode cX11_rest 26 = .ok (.ifCond .ne 34, 3) := by decide +kernel
theorem dX11_rest_29 : decode cX11_rest 29 = .ok (.aload_n 0, 1) := by decide +kernel
theorem dX11_rest_30 : decode cX11_rest 30 = .ok (.getfield 23, 3) := by decide +kernel
theorem dX11_rest_33 : decode cX11_rest 33 = .ok (.aload_n 0, 1) := by decide +kernel
theorem dX11_rest_34 : decode cX11_rest 34 = .ok (.getfield 19, 3) := by decide +kernel
theorem dX11_rest_37 : decode cX11_rest 37 = .ok (.invokevirtual 181, 3) := by decide +kernel
theorem dX11_rest_40 : decode cX11_rest 40 = .ok (.aload_n 0, 1) := by decide +kernel
theorem dX11_rest_41 : decode cX11_rest 41 = .ok (.getfield 48, 3) := by decide +kernel
theorem dX11_rest_44 : decode cX11_rest 44 = .ok (.iload_n 1, 1) := by decide +kernel
theorem dX11_rest_45 : decode cX11_rest 45 = .ok (.aload_n 0, 1) := by decide +kernel
theorem dX11_rest_46 : decode cX11_rest 46 = .ok (.getfield 38, 3) := by decide +kernel
theorem dX11_rest_49 : decode cX11_rest 49 = .ok (.aload_n 0, 1) := by decide +kernel
theorem dX11_rest_50 : decode cX11_rest 50 = .ok (.getfield 42, 3) := by decide +kernel
theorem dX11_rest_53 : decode cX11_rest 53 = .ok (.aload_n 0, 1) := by decide +kernel
theorem dX11_rest_54 : decode cX11_rest 54 = .ok (.getfield 23, 3) := by decide +kernel
theorem dX11_rest_57 : decode cX11_rest 57 = .ok (.invokevirtual 217, 3) := by decide +kernel
theorem dX11_rest_60 : decode cX11_rest 60 = .ok (.iload_n 2, 1) := by decide +kernel
theorem dX11_rest_61 : decode cX11_rest 61 = .ok (.iconst (-1), 1) := by decide +kernel
theorem dX11_rest_62 : decode cX11_rest 62 = .ok (.if_icmp .ne 11, 3) := by decide +kernel
theorem dX11_rest_65 : decode cX11_rest 65 = .ok (.aload_n 0, 1) := by decide +kernel
theorem dX11_rest_66 : decode cX11_rest 66 = .ok (.getfield 48, 3) := by decide +kernel
theorem dX11_rest_69 : decode cX11_rest 69 = .ok (.getfield 221, 3) := by decide +kernel
theorem dX11_rest_72 : decode cX11_rest 72 = .ok (.ireturn, 1) := by decide +kernel
theorem dX11_rest_73 : decode cX11_rest 73 = .ok (.iload_n 2, 1) := by decide +kernel
theorem dX11_rest_74 : decode cX11_rest 74 = .ok (.aload_n 0, 1) := by decide +kernel
theorem dX11_rest_75 : decode cX11_rest 75 = .ok (.getfield 48, 3) := by decide +kernel
theorem dX11_rest_78 : decode cX11_rest 78 = .ok (.getfield 221, 3) := by decide +kernel
theorem dX11_rest_81 : decode cX11_rest 81 = .ok (.if_icmp .ge 15, 3) := by decide +kernel
theorem dX11_rest_84 : decode cX11_rest 84 = .ok (.aload_n 0, 1) := by decide +kernel
theorem dX11_rest_85 : decode cX11_rest 85 = .ok (.getfield 48, 3) := by decide +kernel
theorem dX11_rest_88 : decode cX11_rest 88 = .ok (.getfield 224, 3) := by decide +kernel
theorem dX11_rest_91 : decode cX11_rest 91 = .ok (.iload_n 2, 1) := by decide +kernel
theorem dX11_rest_92 : decode cX11_rest 92 = .ok (.iaload, 1) := by decide +kernel
theorem dX11_rest_93 : decode cX11_rest 93 = .ok (.goto 4, 3) := by decide +kernel
theorem dX11_rest_96 : decode cX11_rest 96 = .ok (.iconst (-1), 1) := by decide +kernel
theorem dX11_rest_97 : decode cX11_rest 97 = .ok (.ireturn, 1) := by decide +kernel
theorem dX11_lot_0 : decode cX11_lot 0 = .ok (.aload_n 0, 1) := by decide +kernel
theorem dX11_lot_1 : decode cX11_lot 1 = .ok (.getfield 38, 3) := by decide +kernel
theorem dX11_lot_4 : decode cX11_lot 4 = .ok (.getfield 125, 3) := by decide +kernel
theorem dX11_lot_7 : decode cX11_lot 7 = .ok (.bipush 6, 2) := by decide +kernel
theorem dX11_lot_9 : decode cX11_lot 9 = .ok (.invokestatic 227, 3) := by decide +kernel
theorem dX11_lot_12 : decode cX11_lot 12 = .ok (.istore 6, 2) := by decide +kernel
theorem dX11_lot_14 : decode cX11_lot 14 = .ok (.iload_n 1, 1) := by decide +kernel
theorem dX11_lot_15 : decode cX11_lot 15 = .ok (.iconst 0, 1) := by decide +kernel
theorem dX11_lot_16 : decode cX11_lot 16 = .ok (.iload 6, 2) := by decide +kernel
theorem dX11_lot_18 : decode cX11_lot 18 = .ok (.iconst 1, 1) := by decide +kernel
theorem dX11_lot_19 : decode cX11_lot 19 = .ok (.isub, 1) := by decide +kernel
theorem dX11_lot_20 : decode cX11_lot 20 = .ok (.invokestatic 89, 3) := by decide +kernel
theorem dX11_lot_23 : decode cX11_lot 23 = .ok (.ifCond .eq 17, 3) := by decide +kernel
theorem dX11_lot_26 : decode cX11_lot 26 = .ok (.iload 4, 2) := by decide +kernel
theorem dX11_lot_28 : decode cX11_lot 28 = .ok (.iconst (-1), 1) := by decide +kernel
theorem dX11_lot_29 : decode cX11_lot 29 = .ok (.if_icmp .eq 14, 3) := by decide +kernel
theorem dX11_lot_32 : decode cX11_lot 32 = .ok (.iload 4, 2) := by decide +kernel
theorem dX11_lot_34 : decode cX11_lot 34 = .ok (.invokestatic 86, 3) := by decide +kernel
theorem dX11_lot_37 : decode cX11_lot 37 = .ok (.ifCond .ne 6, 3) := by decide +kernel
theorem dX11_lot_40 : decode cX11_lot 40 = .ok (.bipush (-2), 2) := by decide +kernel
theorem dX11_lot_42 : decode cX11_lot 42 = .ok (.ireturn, 1) := by decide +kernel
theorem dX11_lot_43 : decode cX11_lot 43 = .ok (.iload_n 3, 1) := by decide +kernel
theorem dX11_lot_44 : decode cX11_lot 44 = .ok (.iconst 1, 1) := by decide +kernel
theorem dX11_lot_45 : decode cX11_lot 45 = .ok (.iconst 4, 1) := by decide +kernel
theorem dX11_lot_46 : decode cX11_lot 46 = .ok (.invokestatic 89, 3) := by decide +kernel
theorem dX11_lot_49 : decode cX11_lot 49 = .ok (.ifCond .eq 13, 3) := by decide +kernel
theorem dX11_lot_52 : decode cX11_lot 52 = .ok (.iload 5, 2) := by decide +kernel
theorem dX11_lot_54 : decode cX11_lot 54 = .ok (.iconst 0, 1) := by decide +kernel
theorem dX11_lot_55 : decode cX11_lot 55 = .ok (.iconst 1, 1) := by decide +kernel
theorem dX11_lot_56 : decode cX11_lot 56 = .ok (.invokestatic 89, 3) := by decide +kernel
theorem dX11_lot_59 : decode cX11_lot 59 = .ok (.ifCond .ne 6, 3) := by decide +kernel
theorem dX11_lot_62 : decode cX11_lot 62 = .ok (.bipush (-3), 2) := by decide +kernel
theorem dX11_lot_64 : decode cX11_lot 64 = .ok (.ireturn, 1) := by decide +kernel
theorem dX11_lot_65 : decode cX11_lot 65 = .ok (.aload_n 0, 1) := by decide +kernel
theorem dX11_lot_66 : decode cX11_lot 66 = .ok (.getfield 38, 3) := by decide +kernel
theorem dX11_lot_69 : decode cX11_lot 69 = .ok (.aload_n 0, 1) := by decide +kernel
theorem dX11_lot_70 : decode cX11_lot 70 = .ok (.getfield 19, 3) := by decide +kernel
theorem dX11_lot_73 : decode cX11_lot 73 = .ok (.getfield 136, 3) := by decide +kernel
theorem dX11_lot_76 : decode cX11_lot 76 = .ok (.invokevirtual 139, 3) := by decide +kernel
theorem dX11_lot_79 : decode cX11_lot 79 = .ok (.aload_n 0, 1) := by decide +kernel
theorem dX11_lot_80 : decode cX11_lot 80 = .ok (.getfield 55, 3) := by decide +kernel
theorem dX11_lot_83 : decode cX11_lot 83 = .ok (.aload_n 0, 1) := by decide +kernel
theorem dX11_lot_84 : decode cX11_lot 84 = .ok (.getfield 38, 3) := by decide +kernel
theorem dX11_lot_87 : decode cX11_lot 87 = .ok (.iload 6, 2) := by decide +kernel
theorem dX11_lot_89 : decode cX11_lot 89 = .ok (.invokevirtual 233, 3) := by decide +kernel
theorem dX11_lot_92 : decode cX11_lot 92 = .ok (.aload_n 0, 1) := by decide +kernel
theorem dX11_lot_93 : decode cX11_lot 93 = .ok (.getfield 55, 3) := by decide +kernel
theorem dX11_lot_96 : decode cX11_lot 96 = .ok (.iload_n 2, 1) := by decide +kernel
theorem dX11_lot_97 : decode cX11_lot 97 = .ok (.iload_n 3, 1) := by decide +kernel
theorem dX11_lot_98 : decode cX11_lot 98 = .ok (.invokevirtual 237, 3) := by decide +kernel
theorem dX11_lot_101 : decode cX11_lot 101 = .ok (.aload_n 0, 1) := by decide +kernel
theorem dX11_lot_102 : decode cX11_lot 102 = .ok (.getfield 55, 3) := by decide +kernel
theorem dX11_lot_105 : decode cX11_lot 105 = .ok (.iload_n 1, 1) := by decide +kernel
theorem dX11_lot_106 : decode cX11_lot 106 = .ok (.iload 4, 2) := by decide +kernel
theorem dX11_lot_108 : decode cX11_lot 108 = .ok (.invokevirtual 241, 3) := by decide +kernel
theorem dX11_lot_111 : decode cX11_lot 111 = .ok (.i2l, 1) := by decide +kernel
theorem dX11_lot_112 : decode cX11_lot 112 = .ok (.getstatic 244, 3) := by decide +kernel
theorem dX11_lot_115 : decode cX11_lot 115 = .ok (.iload 6, 2) := by decide +kernel
theorem dX11_lot_117 : decode cX11_lot 117 = .ok (.iaload, 1) := by decide +kernel
theorem dX11_lot_118 : decode cX11_lot 118 = .ok (.i2l, 1) := by decide +kernel
theorem dX11_lot_119 : decode cX11_lot 119 = .ok (.iload 5, 2) := by decide +kernel
theorem dX11_lot_121 : decode cX11_lot 121 = .ok (.invokestatic 247, 3) := by decide +kernel
theorem dX11_lot_124 : decode cX11_lot 124 = .ok (.l2i, 1) := by decide +kernel
theorem dX11_lot_125 : decode cX11_lot 125 = .ok (.ireturn, 1) := by decide +kernel
theorem dX11_holder_0 : decode cX11_holder 0 = .ok (.iload_n 1, 1) := by decide +kernel
theorem dX11_holder_1 : decode cX11_holder 1 = .ok (.invokestatic 82, 3) := by decide +kernel
theorem dX11_holder_4 : decode cX11_holder 4 = .ok (.ifCond .eq 10, 3) := by decide +kernel
theorem dX11_holder_7 : decode cX11_holder 7 = .ok (.iload_n 2, 1) := by decide +kernel
theorem dX11_holder_8 : decode cX11_holder 8 = .ok (.invokestatic 86, 3) := by decide +kernel
theorem dX11_holder_11 : decode cX11_holder 11 = .ok (.ifCond .ne 6, 3) := by decide +kernel
theorem dX11_holder_14 : decode cX11_holder 14 = .ok (.bipush (-2), 2) := by decide +kernel
theorem dX11_holder_16 : decode cX11_holder 16 = .ok (.ireturn, 1) := by decide +kernel
theorem dX11_holder_17 : decode cX11_holder 17 = .ok (.aload_n 0, 1) := by decide +kernel
theorem dX11_holder_18 : decode cX11_holder 18 = .ok (.getfield 62, 3) := by decide +kernel
theorem dX11_holder_21 : decode cX11_holder 21 = .ok (.getfield 251, 3) := by decide +kernel
theorem dX11_holder_24 : decode cX11_holder 24 = .ok (.bipush 8, 2) := by decide +kernel
theorem dX11_holder_26 : decode cX11_holder 26 = .ok (.if_icmp .ne 6, 3) := by decide +kernel
theorem dX11_holder_29 : decode cX11_holder 29 = .ok (.bipush (-5), 2) := by decide +kernel
theorem dX11_holder_31 : decode cX11_holder 31 = .ok (.ireturn, 1) := by decide +kernel
theorem dX11_holder_32 : decode cX11_holder 32 = .ok (.aload_n 0, 1) := by decide +kernel
theorem dX11_holder_33 : decode cX11_holder 33 = .ok (.getfield 62, 3) := by decide +kernel
theorem dX11_holder_36 : decode cX11_holder 36 = .ok (.iload_n 1, 1) := by decide +kernel
theorem dX11_holder_37 : decode cX11_holder 37 = .ok (.iload_n 2, 1) := by decide +kernel
theorem dX11_holder_38 : decode cX11_holder 38 = .ok (.invokevirtual 252, 3) := by decide +kernel
theorem dX11_holder_41 : decode cX11_holder 41 = .ok (.ireturn, 1) := by decide +kernel
theorem dX11_swaps_0 : decode cX11_swaps 0 = .ok (.iload_n 1, 1) := by decide +kernel
theorem dX11_swaps_1 : decode cX11_swaps 1 = .ok (.iconst 0, 1) := by decide +kernel
theorem dX11_swaps_2 : decode cX11_swaps 2 = .ok (.aload_n 0, 1) := by decide +kernel
theorem dX11_swaps_3 : decode cX11_swaps 3 = .ok (.getfield 62, 3) := by decide +kernel
theorem dX11_swaps_6 : decode cX11_swaps 6 = .ok (.getfield 251, 3) := by decide +kernel
theorem dX11_swaps_9 : decode cX11_swaps 9 = .ok (.iconst 1, 1) := by decide +kernel
theorem dX11_swaps_10 : decode cX11_swaps 10 = .ok (.isub, 1) := by decide +kernel
theorem dX11_swaps_11 : decode cX11_swaps 11 = .ok (.invokestatic 89, 3) := by decide +kernel
theorem dX11_swaps_14 : decode cX11_swaps 14 = .ok (.ifCond .ne 6, 3) := by decide +kernel
theorem dX11_swaps_17 : decode cX11_swaps 17 = .ok (.bipush (-2), 2) := by decide +kernel
theorem dX11_swaps_19 : decode cX11_swaps 19 = .ok (.ireturn, 1) := by decide +kernel
theorem dX11_swaps_20 : decode cX11_swaps 20 = .ok (.aload_n 0, 1) := by decide +kernel
theorem dX11_swaps_21 : decode cX11_swaps 21 = .ok (.getfield 71, 3) := by decide +kernel
theorem dX11_swaps_24 : decode cX11_swaps 24 = .ok (.invokevirtual 254, 3) := by decide +kernel
theorem dX11_swaps_27 : decode cX11_swaps 27 = .ok (.aload_n 0, 1) := by decide +kernel
theorem dX11_swaps_28 : decode cX11_swaps 28 = .ok (.getfield 71, 3) := by decide +kernel
theorem dX11_swaps_31 : decode cX11_swaps 31 = .ok (.getfield 257, 3) := by decide +kernel
theorem dX11_swaps_34 : decode cX11_swaps 34 = .ok (.iload_n 1, 1) := by decide +kernel
theorem dX11_swaps_35 : decode cX11_swaps 35 = .ok (.iaload, 1) := by decide +kernel
theorem dX11_swaps_36 : decode cX11_swaps 36 = .ok (.ireturn, 1) := by decide +kernel
theorem dX11_rings_0 : decode cX11_rings 0 = .ok (.aload_n 0, 1) := by decide +kernel
theorem dX11_rings_1 : decode cX11_rings 1 = .ok (.getfield 71, 3) := by decide +kernel
theorem dX11_rings_4 : decode cX11_rings 4 = .ok (.invokevirtual 254, 3) := by decide +kernel
theorem dX11_rings_7 : decode cX11_rings 7 = .ok (.aload_n 0, 1) := by decide +kernel
theorem dX11_rings_8 : decode cX11_rings 8 = .ok (.getfield 71, 3) := by decide +kernel
theorem dX11_rings_11 : decode cX11_rings 11 = .ok (.getfield 260, 3) := by decide +kernel
theorem dX11_rings_14 : decode cX11_rings 14 = .ok (.ireturn, 1) := by decide +kernel
theorem dX11_chain_0 : decode cX11_chain 0 = .ok (.iload_n 1, 1) := by decide +kernel
theorem dX11_chain_1 : decode cX11_chain 1 = .ok (.invokestatic 86, 3) := by decide +kernel
theorem dX11_chain_4 : decode cX11_chain 4 = .ok (.ifCond .ne 6, 3) := by decide +kernel
theorem dX11_chain_7 : decode cX11_chain 7 = .ok (.bipush (-2), 2) := by decide +kernel
theorem dX11_chain_9 : decode cX11_chain 9 = .ok (.ireturn, 1) := by decide +kernel
theorem dX11_chain_10 : decode cX11_chain 10 = .ok (.iload_n 2, 1) := by decide +kernel
theorem dX11_chain_11 : decode cX11_chain 11 = .ok (.iconst (-1), 1) := by decide +kernel
theorem dX11_chain_12 : decode cX11_chain 12 = .ok (.if_icmp .ge 6, 3) := by decide +kernel
theorem dX11_chain_15 : decode cX11_chain 15 = .ok (.bipush (-3), 2) := by decide +kernel
theorem dX11_chain_17 : decode cX11_chain 17 = .ok (.ireturn, 1) := by decide +kernel
theorem dX11_chain_18 : decode cX11_chain 18 = .ok (.aload_n 0, 1) := by decide +kernel
theorem dX11_chain_19 : decode cX11_chain 19 = .ok (.getfield 78, 3) := by decide +kernel
theorem dX11_chain_22 : decode cX11_chain 22 = .ok (.iload_n 1, 1) := by decide +kernel
theorem dX11_chain_23 : decode cX11_chain 23 = .ok (.invokevirtual 263, 3) := by decide +kernel
theorem dX11_chain_26 : decode cX11_chain 26 = .ok (.iload_n 2, 1) := by decide +kernel
theorem dX11_chain_27 : decode cX11_chain 27 = .ok (.iconst (-1), 1) := by decide +kernel
theorem dX11_chain_28 : decode cX11_chain 28 = .ok (.if_icmp .ne 11, 3) := by decide +kernel
theorem dX11_chain_31 : decode cX11_chain 31 = .ok (.aload_n 0, 1) := by decide +kernel
theorem dX11_chain_32 : decode cX11_chain 32 = .ok (.getfield 78, 3) := by decide +kernel
theorem dX11_chain_35 : decode cX11_chain 35 = .ok (.getfield 265, 3) := by decide +kernel
theorem dX11_chain_38 : decode cX11_chain 38 = .ok (.ireturn, 1) := by decide +kernel
theorem dX11_chain_39 : decode cX11_chain 39 = .ok (.iload_n 2, 1) := by decide +kernel
theorem dX11_chain_40 : decode cX11_chain 40 = .ok (.aload_n 0, 1) := by decide +kernel
theorem dX11_chain_41 : decode cX11_chain 41 = .ok (.getfield 78, 3) := by decide +kernel
theorem dX11_chain_44 : decode cX11_chain 44 = .ok (.getfield 265, 3) := by decide +kernel
theorem dX11_chain_47 : decode cX11_chain 47 = .ok (.if_icmp .ge 15, 3) := by decide +kernel
theorem dX11_chain_50 : decode cX11_chain 50 = .ok (.aload_n 0, 1) := by decide +kernel
theorem dX11_chain_51 : decode cX11_chain 51 = .ok (.getfield 78, 3) := by decide +kernel
theorem dX11_chain_54 : decode cX11_chain 54 = .ok (.getfield 266, 3) := by decide +kernel
theorem dX11_chain_57 : decode cX11_chain 57 = .ok (.iload_n 2, 1) := by decide +kernel
theorem dX11_chain_58 : decode cX11_chain 58 = .ok (.iaload, 1) := by decide +kernel
theorem dX11_chain_59 : decode cX11_chain 59 = .ok (.goto 4, 3) := by decide +kernel
theorem dX11_chain_62 : decode cX11_chain 62 = .ok (.iconst (-1), 1) := by decide +kernel
theorem dX11_chain_63 : decode cX11_chain 63 = .ok (.ireturn, 1) := by decide +kernel
theorem dX11_mean_0 : decode cX11_mean 0 = .ok (.iload_n 1, 1) := by decide +kernel
theorem dX11_mean_1 : decode cX11_mean 1 = .ok (.iconst 1, 1) := by decide +kernel
theorem dX11_mean_2 : decode cX11_mean 2 = .ok (.bipush 9, 2) := by decide +kernel
theorem dX11_mean_4 : decode cX11_mean 4 = .ok (.invokestatic 89, 3) := by decide +kernel
theorem dX11_mean_7 : decode cX11_mean 7 = .ok (.ifCond .eq 13, 3) := by decide +kernel
theorem dX11_mean_10 : decode cX11_mean 10 = .ok (.iload_n 2, 1) := by decide +kernel
theorem dX11_mean_11 : decode cX11_mean 11 = .ok (.iconst 1, 1) := by decide +kernel
theorem dX11_mean_12 : decode cX11_mean 12 = .ok (.bipush 9, 2) := by decide +kernel
theorem dX11_mean_14 : decode cX11_mean 14 = .ok (.invokestatic 89, 3) := by decide +kernel
theorem dX11_mean_17 : decode cX11_mean 17 = .ok (.ifCond .ne 7, 3) := by decide +kernel
theorem dX11_mean_20 : decode cX11_mean 20 = .ok (.ldc2_w 269, 3) := by decide +kernel
theorem dX11_mean_23 : decode cX11_mean 23 = .ok (.lreturn, 1) := by decide +kernel
theorem dX11_mean_24 : decode cX11_mean 24 = .ok (.iload_n 3, 1) := by decide +kernel
theorem dX11_mean_25 : decode cX11_mean 25 = .ok (.iconst 1, 1) := by decide +kernel
theorem dX11_mean_26 : decode cX11_mean 26 = .ok (.bipush 6, 2) := by decide +kernel
theorem dX11_mean_28 : decode cX11_mean 28 = .ok (.invokestatic 89, 3) := by decide +kernel
theorem dX11_mean_31 : decode cX11_mean 31 = .ok (.ifCond .eq 13, 3) := by decide +kernel
theorem dX11_mean_34 : decode cX11_mean 34 = .ok (.iload 4, 2) := by decide +kernel
theorem dX11_mean_36 : decode cX11_mean 36 = .ok (.iconst 0, 1) := by decide +kernel
theorem dX11_mean_37 : decode cX11_mean 37 = .ok (.iconst 1, 1) := by decide +kernel
theorem dX11_mean_38 : decode cX11_mean 38 = .ok (.invokestatic 89, 3) := by decide +kernel
theorem dX11_mean_41 : decode cX11_mean 41 = .ok (.ifCond .ne 7, 3) := by decide +kernel
theorem dX11_mean_44 : decode cX11_mean 44 = .ok (.ldc2_w 269, 3) := by decide +kernel
theorem dX11_mean_47 : decode cX11_mean 47 = .ok (.lreturn, 1) := by decide +kernel
theorem dX11_mean_48 : decode cX11_mean 48 = .ok (.iload_n 1, 1) := by decide +kernel
theorem dX11_mean_49 : decode cX11_mean 49 = .ok (.i2l, 1) := by decide +kernel
theorem dX11_mean_50 : decode cX11_mean 50 = .ok (.bipush 10, 2) := by decide +kernel
theorem dX11_mean_52 : decode cX11_mean 52 = .ok (.iload_n 2, 1) := by decide +kernel
theorem dX11_mean_53 : decode cX11_mean 53 = .ok (.isub, 1) := by decide +kernel
theorem dX11_mean_54 : decode cX11_mean 54 = .ok (.i2l, 1) := by decide +kernel
theorem dX11_mean_55 : decode cX11_mean 55 = .ok (.lmul, 1) := by decide +kernel
theorem dX11_mean_56 : decode cX11_mean 56 = .ok (.lstore 5, 2) := by decide +kernel
theorem dX11_mean_58 : decode cX11_mean 58 = .ok (.iload_n 2, 1) := by decide +kernel
theorem dX11_mean_59 : decode cX11_mean 59 = .ok (.i2l, 1) := by decide +kernel
theorem dX11_mean_60 : decode cX11_mean 60 = .ok (.bipush 10, 2) := by decide +kernel
theorem dX11_mean_62 : decode cX11_mean 62 = .ok (.iload_n 1, 1) := by decide +kernel
theorem dX11_mean_63 : decode cX11_mean 63 = .ok (.isub, 1) := by decide +kernel
theorem dX11_mean_64 : decode cX11_mean 64 = .ok (.i2l, 1) := by decide +kernel
theorem dX11_mean_65 : decode cX11_mean 65 = .ok (.lmul, 1) := by decide +kernel
theorem dX11_mean_66 : decode cX11_mean 66 = .ok (.lstore 7, 2) := by decide +kernel
theorem dX11_mean_68 : decode cX11_mean 68 = .ok (.lconst 0, 1) := by decide +kernel
theorem dX11_mean_69 : decode cX11_mean 69 = .ok (.lstore 9, 2) := by decide +kernel
theorem dX11_mean_71 : decode cX11_mean 71 = .ok (.lconst 0, 1) := by decide +kernel
theorem dX11_mean_72 : decode cX11_mean 72 = .ok (.lstore 11, 2) := by decide +kernel
theorem dX11_mean_74 : decode cX11_mean 74 = .ok (.iconst 0, 1) := by decide +kernel
theorem dX11_mean_75 : decode cX11_mean 75 = .ok (.istore 13, 2) := by decide +kernel
theorem dX11_mean_77 : decode cX11_mean 77 = .ok (.iload 13, 2) := by decide +kernel
theorem dX11_mean_79 : decode cX11_mean 79 = .ok (.iload_n 3, 1) := by decide +kernel
theorem dX11_mean_80 : decode cX11_mean 80 = .ok (.if_icmp .gt 46, 3) := by decide +kernel
theorem dX11_mean_83 : decode cX11_mean 83 = .ok (.lload 5, 2) := by decide +kernel
theorem dX11_mean_85 : decode cX11_mean 85 = .ok (.iload 13, 2) := by decide +kernel
theorem dX11_mean_87 : decode cX11_mean 87 = .ok (.invokestatic 271, 3) := by decide +kernel
theorem dX11_mean_90 : decode cX11_mean 90 = .ok (.lload 7, 2) := by decide +kernel
theorem dX11_mean_92 : decode cX11_mean 92 = .ok (.iload_n 3, 1) := by decide +kernel
theorem dX11_mean_93 : decode cX11_mean 93 = .ok (.iload 13, 2) := by decide +kernel
theorem dX11_mean_95 : decode cX11_mean 95 = .ok (.isub, 1) := by decide +kernel
theorem dX11_mean_96 : decode cX11_mean 96 = .ok (.invokestatic 271, 3) := by decide +kernel
theorem dX11_mean_99 : decode cX11_mean 99 = .ok (.lmul, 1) := by decide +kernel
theorem dX11_mean_100 : decode cX11_mean 100 = .ok (.lstore 14, 2) := by decide +kernel
theorem dX11_mean_102 : decode cX11_mean 102 = .ok (.lload 9, 2) := by decide +kernel
theorem dX11_mean_104 : decode cX11_mean 104 = .ok (.iload 13, 2) := by decide +kernel
theorem dX11_mean_106 : decode cX11_mean 106 = .ok (.i2l, 1) := by decide +kernel
theorem dX11_mean_107 : decode cX11_mean 107 = .ok (.lload 14, 2) := by decide +kernel
theorem dX11_mean_109 : decode cX11_mean 109 = .ok (.lmul, 1) := by decide +kernel
theorem dX11_mean_110 : decode cX11_mean 110 = .ok (.ladd, 1) := by decide +kernel
theorem dX11_mean_111 : decode cX11_mean 111 = .ok (.lstore 9, 2) := by decide +kernel
theorem dX11_mean_113 : decode cX11_mean 113 = .ok (.lload 11, 2) := by decide +kernel
theorem dX11_mean_115 : decode cX11_mean 115 = .ok (.lload 14, 2) := by decide +kernel
theorem dX11_mean_117 : decode cX11_mean 117 = .ok (.ladd, 1) := by decide +kernel
theorem dX11_mean_118 : decode cX11_mean 118 = .ok (.lstore 11, 2) := by decide +kernel
theorem dX11_mean_120 : decode cX11_mean 120 = .ok (.iinc 13 1, 3) := by decide +kernel
theorem dX11_mean_123 : decode cX11_mean 123 = .ok (.goto (-46), 3) := by decide +kernel
theorem dX11_mean_126 : decode cX11_mean 126 = .ok (.lload 9, 2) := by decide +kernel
theorem dX11_mean_128 : decode cX11_mean 128 = .ok (.lload 11, 2) := by decide +kernel
theorem dX11_mean_130 : decode cX11_mean 130 = .ok (.iload 4, 2) := by decide +kernel
theorem dX11_mean_132 : decode cX11_mean 132 = .ok (.invokestatic 247, 3) := by decide +kernel
theorem dX11_mean_135 : decode cX11_mean 135 = .ok (.lreturn, 1) := by decide +kernel
theorem dX11_count_0 : decode cX11_count 0 = .ok (.iload_n 1, 1) := by decide +kernel
theorem dX11_count_1 : decode cX11_count 1 = .ok (.tableswitch 105 0 6 #[43, 51, 59, 70, 81, 89, 97], 43) := by decide +kernel
theorem dX11_count_44 : decode cX11_count 44 = .ok (.aload_n 0, 1) := by decide +kernel
theorem dX11_count_45 : decode cX11_count 45 = .ok (.getfield 38, 3) := by decide +kernel
theorem dX11_count_48 : decode cX11_count 48 = .ok (.getfield 129, 3) := by decide +kernel
theorem dX11_count_51 : decode cX11_count 51 = .ok (.ireturn, 1) := by decide +kernel
theorem dX11_count_52 : decode cX11_count 52 = .ok (.aload_n 0, 1) := by decide +kernel
theorem dX11_count_53 : decode cX11_count 53 = .ok (.getfield 38, 3) := by decide +kernel
theorem dX11_count_56 : decode cX11_count 56 = .ok (.getfield 125, 3) := by decide +kernel
theorem dX11_count_59 : decode cX11_count 59 = .ok (.ireturn, 1) := by decide +kernel
theorem dX11_count_60 : decode cX11_count 60 = .ok (.aload_n 0, 1) := by decide +kernel
theorem dX11_count_61 : decode cX11_count 61 = .ok (.getfield 10, 3) := by decide +kernel
theorem dX11_count_64 : decode cX11_count 64 = .ok (.getfield 104, 3) := by decide +kernel
theorem dX11_count_67 : decode cX11_count 67 = .ok (.getfield 275, 3) := by decide +kernel
theorem dX11_count_70 : decode cX11_count 70 = .ok (.ireturn, 1) := by decide +kernel
theorem dX11_count_71 : decode cX11_count 71 = .ok (.aload_n 0, 1) := by decide +kernel
theorem dX11_count_72 : decode cX11_count 72 = .ok (.getfield 10, 3) := by decide +kernel
theorem dX11_count_75 : decode cX11_count 75 = .ok (.getfield 118, 3) := by decide +kernel
theorem dX11_count_78 : decode cX11_count 78 = .ok (.getfield 275, 3) := by decide +kernel
theorem dX11_count_81 : decode cX11_count 81 = .ok (.ireturn, 1) := by decide +kernel
theorem dX11_count_82 : decode cX11_count 82 = .ok (.aload_n 0, 1) := by decide +kernel
theorem dX11_count_83 : decode cX11_count 83 = .ok (.getfield 29, 3) := by decide +kernel
theorem dX11_count_86 : decode cX11_count 86 = .ok (.getfield 169, 3) := by decide +kernel
theorem dX11_count_89 : decode cX11_count 89 = .ok (.ireturn, 1) := by decide +kernel
theorem dX11_count_90 : decode cX11_count 90 = .ok (.aload_n 0, 1) := by decide +kernel
theorem dX11_count_91 : decode cX11_count 91 = .ok (.getfield 62, 3) := by decide +kernel
theorem dX11_count_94 : decode cX11_count 94 = .ok (.getfield 251, 3) := by decide +kernel
theorem dX11_count_97 : decode cX11_count 97 = .ok (.ireturn, 1) := by decide +kernel
theorem dX11_count_98 : decode cX11_count 98 = .ok (.aload_n 0, 1) := by decide +kernel
theorem dX11_count_99 : decode cX11_count 99 = .ok (.getfield 38, 3) := by decide +kernel
theorem dX11_count_102 : decode cX11_count 102 = .ok (.getfield 276, 3) := by decide +kernel
theorem dX11_count_105 : decode cX11_count 105 = .ok (.ireturn, 1) := by decide +kernel
theorem dX11_count_106 : decode cX11_count 106 = .ok (.bipush (-3), 2) := by decide +kernel
theorem dX11_count_108 : decode cX11_count 108 = .ok (.ireturn, 1) := by decide +kernel
theorem dX11_tryOut_0 : decode cX11_tryOut 0 = .ok (.aload_n 0, 1) := by decide +kernel
theorem dX11_tryOut_1 : decode cX11_tryOut 1 = .ok (.getfield 42, 3) := by decide +kernel
theorem dX11_tryOut_4 : decode cX11_tryOut 4 = .ok (.aload_n 0, 1) := by decide +kernel
theorem dX11_tryOut_5 : decode cX11_tryOut 5 = .ok (.getfield 38, 3) := by decide +kernel
theorem dX11_tryOut_8 : decode cX11_tryOut 8 = .ok (.invokevirtual 279, 3) := by decide +kernel
theorem dX11_tryOut_11 : decode cX11_tryOut 11 = .ok (.aload_n 0, 1) := by decide +kernel
theorem dX11_tryOut_12 : decode cX11_tryOut 12 = .ok (.getfield 42, 3) := by decide +kernel
theorem dX11_tryOut_15 : decode cX11_tryOut 15 = .ok (.iload_n 1, 1) := by decide +kernel
theorem dX11_tryOut_16 : decode cX11_tryOut 16 = .ok (.aload_n 2, 1) := by decide +kernel
theorem dX11_tryOut_17 : decode cX11_tryOut 17 = .ok (.invokevirtual 132, 3) := by decide +kernel
theorem dX11_tryOut_20 : decode cX11_tryOut 20 = .ok (.return_, 1) := by decide +kernel
theorem dX11_within_0 : decode cX11_within 0 = .ok (.iload_n 0, 1) := by decide +kernel
theorem dX11_within_1 : decode cX11_within 1 = .ok (.iload_n 1, 1) := by decide +kernel
theorem dX11_within_2 : decode cX11_within 2 = .ok (.if_icmp .lt 12, 3) := by decide +kernel
theorem dX11_within_5 : decode cX11_within 5 = .ok (.iload_n 0, 1) := by decide +kernel
theorem dX11_within_6 : decode cX11_within 6 = .ok (.iload_n 2, 1) := by decide +kernel
theorem dX11_within_7 : decode cX11_within 7 = .ok (.if_icmp .gt 7, 3) := by decide +kernel
theorem dX11_within_10 : decode cX11_within 10 = .ok (.iconst 1, 1) := by decide +kernel
theorem dX11_within_11 : decode cX11_within 11 = .ok (.goto 4, 3) := by decide +kernel
theorem dX11_within_14 : decode cX11_within 14 = .ok (.iconst 0, 1) := by decide +kernel
theorem dX11_within_15 : decode cX11_within 15 = .ok (.ireturn, 1) := by decide +kernel
theorem dX11_isSort_0 : decode cX11_isSort 0 = .ok (.iload_n 0, 1) := by decide +kernel
theorem dX11_isSort_1 : decode cX11_isSort 1 = .ok (.iconst 0, 1) := by decide +kernel
theorem dX11_isSort_2 : decode cX11_isSort 2 = .ok (.iconst 3, 1) := by decide +kernel
theorem dX11_isSort_3 : decode cX11_isSort 3 = .ok (.invokestatic 89, 3) := by decide +kernel
theorem dX11_isSort_6 : decode cX11_isSort 6 = .ok (.ireturn, 1) := by decide +kernel
theorem dX11_isKind_0 : decode cX11_isKind 0 = .ok (.iload_n 0, 1) := by decide +kernel
theorem dX11_isKind_1 : decode cX11_isKind 1 = .ok (.iconst 0, 1) := by decide +kernel
theorem dX11_isKind_2 : decode cX11_isKind 2 = .ok (.iconst 3, 1) := by decide +kernel
theorem dX11_isKind_3 : decode cX11_isKind 3 = .ok (.invokestatic 89, 3) := by decide +kernel
theorem dX11_isKind_6 : decode cX11_isKind 6 = .ok (.ireturn, 1) := by decide +kernel
theorem dX11_power_0 : decode cX11_power 0 = .ok (.lconst 1, 1) := by decide +kernel
theorem dX11_power_1 : decode cX11_power 1 = .ok (.lstore_n 3, 1) := by decide +kernel
theorem dX11_power_2 : decode cX11_power 2 = .ok (.iconst 0, 1) := by decide +kernel
theorem dX11_power_3 : decode cX11_power 3 = .ok (.istore 5, 2) := by decide +kernel
theorem dX11_power_5 : decode cX11_power 5 = .ok (.iload 5, 2) := by decide +kernel
theorem dX11_power_7 : decode cX11_power 7 = .ok (.iload_n 2, 1) := by decide +kernel
theorem dX11_power_8 : decode cX11_power 8 = .ok (.if_icmp .ge 13, 3) := by decide +kernel
theorem dX11_power_11 : decode cX11_power 11 = .ok (.lload_n 3, 1) := by decide +kernel
theorem dX11_power_12 : decode cX11_power 12 = .ok (.lload_n 0, 1) := by decide +kernel
theorem dX11_power_13 : decode cX11_power 13 = .ok (.lmul, 1) := by decide +kernel
theorem dX11_power_14 : decode cX11_power 14 = .ok (.lstore_n 3, 1) := by decide +kernel
theorem dX11_power_15 : decode cX11_power 15 = .ok (.iinc 5 1, 3) := by decide +kernel
theorem dX11_power_18 : decode cX11_power 18 = .ok (.goto (-13), 3) := by decide +kernel
theorem dX11_power_21 : decode cX11_power 21 = .ok (.lload_n 3, 1) := by decide +kernel
theorem dX11_power_22 : decode cX11_power 22 = .ok (.lreturn, 1) := by decide +kernel
theorem dX11_lowest_0 : decode cX11_lowest 0 = .ok (.lload_n 0, 1) := by decide +kernel
theorem dX11_lowest_1 : decode cX11_lowest 1 = .ok (.lload_n 2, 1) := by decide +kernel
theorem dX11_lowest_2 : decode cX11_lowest 2 = .ok (.invokestatic 283, 3) := by decide +kernel
theorem dX11_lowest_5 : decode cX11_lowest 5 = .ok (.lstore 5, 2) := by decide +kernel
theorem dX11_lowest_7 : decode cX11_lowest 7 = .ok (.lload 5, 2) := by decide +kernel
theorem dX11_lowest_9 : decode cX11_lowest 9 = .ok (.lconst 0, 1) := by decide +kernel
theorem dX11_lowest_10 : decode cX11_lowest 10 = .ok (.lcmp, 1) := by decide +kernel
theorem dX11_lowest_11 : decode cX11_lowest 11 = .ok (.ifCond .ne 5, 3) := by decide +kernel
theorem dX11_lowest_14 : decode cX11_lowest 14 = .ok (.lconst 0, 1) := by decide +kernel
theorem dX11_lowest_15 : decode cX11_lowest 15 = .ok (.lreturn, 1) := by decide +kernel
theorem dX11_lowest_16 : decode cX11_lowest 16 = .ok (.iload 4, 2) := by decide +kernel
theorem dX11_lowest_18 : decode cX11_lowest 18 = .ok (.ifCond .ne 10, 3) := by decide +kernel
theorem dX11_lowest_21 : decode cX11_lowest 21 = .ok (.lload_n 0, 1) := by decide +kernel
theorem dX11_lowest_22 : decode cX11_lowest 22 = .ok (.lload 5, 2) := by decide +kernel
theorem dX11_lowest_24 : decode cX11_lowest 24 = .ok (.ldiv, 1) := by decide +kernel
theorem dX11_lowest_25 : decode cX11_lowest 25 = .ok (.goto 7, 3) := by decide +kernel
theorem dX11_lowest_28 : decode cX11_lowest 28 = .ok (.lload_n 2, 1) := by decide +kernel
theorem dX11_lowest_29 : decode cX11_lowest 29 = .ok (.lload 5, 2) := by decide +kernel
theorem dX11_lowest_31 : decode cX11_lowest 31 = .ok (.ldiv, 1) := by decide +kernel
theorem dX11_lowest_32 : decode cX11_lowest 32 = .ok (.lreturn, 1) := by decide +kernel
theorem dX11_commonDivisor_0 : decode cX11_commonDivisor 0 = .ok (.iconst 0, 1) := by decide +kernel
theorem dX11_commonDivisor_1 : decode cX11_commonDivisor 1 = .ok (.istore 4, 2) := by decide +kernel
theorem dX11_commonDivisor_3 : decode cX11_commonDivisor 3 = .ok (.iload 4, 2) := by decide +kernel
theorem dX11_commonDivisor_5 : decode cX11_commonDivisor 5 = .ok (.sipush 128, 3) := by decide +kernel
theorem dX11_commonDivisor_8 : decode cX11_commonDivisor 8 = .ok (.if_icmp .ge 25, 3) := by decide +kernel
theorem dX11_commonDivisor_11 : decode cX11_commonDivisor 11 = .ok (.lload_n 2, 1) := by decide +kernel
theorem dX11_commonDivisor_12 : decode cX11_commonDivisor 12 = .ok (.lconst 0, 1) := by decide +kernel
theorem dX11_commonDivisor_13 : decode cX11_commonDivisor 13 = .ok (.lcmp, 1) := by decide +kernel
theorem dX11_commonDivisor_14 : decode cX11_commonDivisor 14 = .ok (.ifCond .eq 19, 3) := by decide +kernel
theorem dX11_commonDivisor_17 : decode cX11_commonDivisor 17 = .ok (.lload_n 0, 1) := by decide +kernel
theorem dX11_commonDivisor_18 : decode cX11_commonDivisor 18 = .ok (.lload_n 2, 1) := by decide +kernel
theorem dX11_commonDivisor_19 : decode cX11_commonDivisor 19 = .ok (.lrem, 1) := by decide +kernel
theorem dX11_commonDivisor_20 : decode cX11_commonDivisor 20 = .ok (.lstore 5, 2) := by decide +kernel
theorem dX11_commonDivisor_22 : decode cX11_commonDivisor 22 = .ok (.lload_n 2, 1) := by decide +kernel
theorem dX11_commonDivisor_23 : decode cX11_commonDivisor 23 = .ok (.lstore_n 0, 1) := by decide +kernel
theorem dX11_commonDivisor_24 : decode cX11_commonDivisor 24 = .ok (.lload 5, 2) := by decide +kernel
theorem dX11_commonDivisor_26 : decode cX11_commonDivisor 26 = .ok (.lstore_n 2, 1) := by decide +kernel
theorem dX11_commonDivisor_27 : decode cX11_commonDivisor 27 = .ok (.iinc 4 1, 3) := by decide +kernel
theorem dX11_commonDivisor_30 : decode cX11_commonDivisor 30 = .ok (.goto (-27), 3) := by decide +kernel
theorem dX11_commonDivisor_33 : decode cX11_commonDivisor 33 = .ok (.lload_n 0, 1) := by decide +kernel
theorem dX11_commonDivisor_34 : decode cX11_commonDivisor 34 = .ok (.lreturn, 1) := by decide +kernel
theorem dX12_init_0 : decode cX12_init 0 = .ok (.aload_n 0, 1) := by decide +kernel
theorem dX12_init_1 : decode cX12_init 1 = .ok (.invokespecial 1, 3) := by decide +kernel
theorem dX12_init_4 : decode cX12_init 4 = .ok (.aload_n 0, 1) := by decide +kernel
theorem dX12_init_5 : decode cX12_init 5 = .ok (.bipush 16, 2) := by decide +kernel
theorem dX12_init_7 : decode cX12_init 7 = .ok (.newarray .int, 2) := by decide +kernel
theorem dX12_init_9 : decode cX12_init 9 = .ok (.putfield 7, 3) := by decide +kernel
theorem dX12_init_12 : decode cX12_init 12 = .ok (.aload_n 0, 1) := by decide +kernel
theorem dX12_init_13 : decode cX12_init 13 = .ok (.iconst 4, 1) := by decide +kernel
theorem dX12_init_14 : decode cX12_init 14 = .ok (.newarray .int, 2) := by decide +kernel
theorem dX12_init_16 : decode cX12_init 16 = .ok (.putfield 13, 3) := by decide +kernel
theorem dX12_init_19 : decode cX12_init 19 = .ok (.aload_n 0, 1) := by decide +kernel
theorem dX12_init_20 : decode cX12_init 20 = .ok (.bipush 24, 2) := by decide +kernel
theorem dX12_init_22 : decode cX12_init 22 = .ok (.newarray .int, 2) := by decide +kernel
theorem dX12_init_24 : decode cX12_init 24 = .ok (.putfield 16, 3) := by decide +kernel
theorem dX12_init_27 : decode cX12_init 27 = .ok (.aload_n 0, 1) := by decide +kernel
theorem dX12_init_28 : decode cX12_init 28 = .ok (.bipush 24, 2) := by decide +kernel
theorem dX12_init_30 : decode cX12_init 30 = .ok (.newarray .int, 2) := by decide +kernel
theorem dX12_init_32 : decode cX12_init 32 = .ok (.putfield 19, 3) := by decide +kernel
theorem dX12_init_35 : decode cX12_init 35 = .ok (.aload_n 0, 1) := by decide +kernel
theorem dX12_init_36 : decode cX12_init 36 = .ok (.bipush 88, 2) := by decide +kernel
theorem dX12_init_38 : decode cX12_init 38 = .ok (.newarray .int, 2) := by decide +kernel
theorem dX12_init_40 : decode cX12_init 40 = .ok (.putfield 22, 3) := by decide +kernel
theorem dX12_init_43 : decode cX12_init 43 = .ok (.aload_n 0, 1) := by decide +kernel
theorem dX12_init_44 : decode cX12_init 44 = .ok (.bipush 88, 2) := by decide +kernel
theorem dX12_init_46 : decode cX12_init 46 = .ok (.newarray .int, 2) := by decide +kernel
theorem dX12_init_48 : decode cX12_init 48 = .ok (.putfield 25, 3) := by decide +kernel
theorem dX12_init_51 : decode cX12_init 51 = .ok (.aload_n 0, 1) := by decide +kernel
theorem dX12_init_52 : decode cX12_init 52 = .ok (.bipush 12, 2) := by decide +kernel
theorem dX12_init_54 : decode cX12_init 54 = .ok (.newarray .int, 2) := by decide +kernel
theorem dX12_init_56 : decode cX12_init 56 = .ok (.putfield 28, 3) := by decide +kernel
theorem dX12_init_59 : decode cX12_init 59 = .ok (.aload_n 0, 1) := by decide +kernel
theorem dX12_init_60 : decode cX12_init 60 = .ok (.bipush 12, 2) := by decide +kernel
theorem dX12_init_62 : decode cX12_init 62 = .ok (.newarray .boolean, 2) := by decide +kernel
theorem dX12_init_64 : decode cX12_init 64 = .ok (.putfield 31, 3) := by decide +kernel
theorem dX12_init_67 : decode cX12_init 67 = .ok (.aload_n 0, 1) := by decide +kernel
theorem dX12_init_68 : decode cX12_init 68 = .ok (.sipush 160, 3) := by decide +kernel
theorem dX12_init_71 : decode cX12_init 71 = .ok (.newarray .int, 2) := by decide +kernel
theorem dX12_init_73 : decode cX12_init 73 = .ok (.putfield 35, 3) := by decide +kernel
theorem dX12_init_76 : decode cX12_init 76 = .ok (.aload_n 0, 1) := by decide +kernel
theorem dX12_init_77 : decode cX12_init 77 = .ok (.bipush 16, 2) := by decide +kernel
theorem dX12_init_79 : decode cX12_init 79 = .ok (.newarray .int, 2) := by decide +kernel
theorem dX12_init_81 : decode cX12_init 81 = .ok (.putfield 38, 3) := by decide +kernel
theorem dX12_init_84 : decode cX12_init 84 = .ok (.aload_n 0, 1) := by decide +kernel
theorem dX12_init_85 : decode cX12_init 85 = .ok (.bipush 16, 2) := by decide +kernel
theorem dX12_init_87 : decode cX12_init 87 = .ok (.newarray .int, 2) := by decide +kernel
theorem dX12_init_89 : decode cX12_init 89 = .ok (.putfield 41, 3) := by decide +kernel
theorem dX12_init_92 : decode cX12_init 92 = .ok (.aload_n 0, 1) := by decide +kernel
theorem dX12_init_93 : decode cX12_init 93 = .ok (.bipush 16, 2) := by decide +kernel
theorem dX12_init_95 : decode cX12_init 95 = .ok (.newarray .int, 2) := by decide +kernel
theorem dX12_init_97 : decode cX12_init 97 = .ok (.putfield 44, 3) := by decide +kernel
theorem dX12_init_100 : decode cX12_init 100 = .ok (.aload_n 0, 1) := by decide +kernel
theorem dX12_init_101 : decode cX12_init 101 = .ok (.sipush 2500, 3) := by decide +kernel
theorem dX12_init_104 : decode cX12_init 104 = .ok (.newarray .int, 2) := by decide +kernel
theorem dX12_init_106 : decode cX12_init 106 = .ok (.putfield 47, 3) := by decide +kernel
theorem dX12_init_109 : decode cX12_init 109 = .ok (.aload_n 0, 1) := by decide +kernel
theorem dX12_init_110 : decode cX12_init 110 = .ok (.bipush 6, 2) := by decide +kernel
theorem dX12_init_112 : decode cX12_init 112 = .ok (.newarray .int, 2) := by decide +kernel
theorem dX12_init_114 : decode cX12_init 114 = .ok (.putfield 50, 3) := by decide +kernel
theorem dX12_init_117 : decode cX12_init 117 = .ok (.aload_n 0, 1) := by decide +kernel
theorem dX12_init_118 : decode cX12_init 118 = .ok (.iconst 4, 1) := by decide +kernel
theorem dX12_init_119 : decode cX12_init 119 = .ok (.newarray .int, 2) := by decide +kernel
theorem dX12_init_121 : decode cX12_init 121 = .ok (.putfield 53, 3) := by decide +kernel
theorem dX12_init_124 : decode cX12_init 124 = .ok (.aload_n 0, 1) := by decide +kernel
theorem dX12_init_125 : decode cX12_init 125 = .ok (.bipush 8, 2) := by decide +kernel
theorem dX12_init_127 : decode cX12_init 127 = .ok (.newarray .int, 2) := by decide +kernel
theorem dX12_init_129 : decode cX12_init 129 = .ok (.putfield 56, 3) := by decide +kernel
theorem dX12_init_132 : decode cX12_init 132 = .ok (.aload_n 0, 1) := by decide +kernel
theorem dX12_init_133 : decode cX12_init 133 = .ok (.bipush 8, 2) := by decide +kernel
theorem dX12_init_135 : decode cX12_init 135 = .ok (.newarray .int, 2) := by decide +kernel
theorem dX12_init_137 : decode cX12_init 137 = .ok (.putfield 59, 3) := by decide +kernel
theorem dX12_init_140 : decode cX12_init 140 = .ok (.aload_n 0, 1) := by decide +kernel
theorem dX12_init_141 : decode cX12_init 141 = .ok (.bipush 8, 2) := by decide +kernel
theorem dX12_init_143 : decode cX12_init 143 = .ok (.newarray .int, 2) := by decide +kernel
theorem dX12_init_145 : decode cX12_init 145 = .ok (.putfield 62, 3) := by decide +kernel
theorem dX12_init_148 : decode cX12_init 148 = .ok (.aload_n 0, 1) := by decide +kernel
theorem dX12_init_149 : decode cX12_init 149 = .ok (.bipush 8, 2) := by decide +kernel
theorem dX12_init_151 : decode cX12_init 151 = .ok (.newarray .int, 2) := by decide +kernel
theorem dX12_init_153 : decode cX12_init 153 = .ok (.putfield 65, 3) := by decide +kernel
theorem dX12_init_156 : decode cX12_init 156 = .ok (.aload_n 0, 1) := by decide +kernel
theorem dX12_init_157 : decode cX12_init 157 = .ok (.sipush 2048, 3) := by decide +kernel
theorem dX12_init_160 : decode cX12_init 160 = .ok (.newarray .int, 2) := by decide +kernel
theorem dX12_init_162 : decode cX12_init 162 = .ok (.putfield 68, 3) := by decide +kernel
theorem dX12_init_165 : decode cX12_init 165 = .ok (.iconst 0, 1) := by decide +kernel
theorem dX12_init_166 : decode cX12_init 166 = .ok (.istore_n 1, 1) := by decide +kernel
theorem dX12_init_167 : decode cX12_init 167 = .ok (.iload_n 1, 1) := by decide +kernel
theorem dX12_init_168 : decode cX12_init 168 = .ok (.iconst 4, 1) := by decide +kernel
theorem dX12_init_169 : decode cX12_init 169 = .ok (.if_icmp .ge 16, 3) := by decide +kernel
theorem dX12_init_172 : decode cX12_init 172 = .ok (.aload_n 0, 1) := by decide +kernel
theorem dX12_init_173 : decode cX12_init 173 = .ok (.getfield 13, 3) := by decide +kernel
theorem dX12_init_176 : decode cX12_init 176 = .ok (.iload_n 1, 1) := by decide +kernel
theorem dX12_init_177 : decode cX12_init 177 = .ok (.iconst 1, 1) := by decide +kernel
theorem dX12_init_178 : decode cX12_init 178 = .ok (.iastore, 1) := by decide +kernel
theorem dX12_init_179 : decode cX12_init 179 = .ok (.iinc 1 1, 3) := by decide +kernel
theorem dX12_init_182 : decode cX12_init 182 = .ok (.goto (-15), 3) := by decide +kernel
theorem dX12_init_185 : decode cX12_init 185 = .ok (.aload_n 0, 1) := by decide +kernel
theorem dX12_init_186 : decode cX12_init 186 = .ok (.getfield 41, 3) := by decide +kernel
theorem dX12_init_189 : decode cX12_init 189 = .ok (.invokestatic 71, 3) := by decide +kernel
theorem dX12_init_192 : decode cX12_init 192 = .ok (.return_, 1) := by decide +kernel
theorem dX12_firstRules_0 : decode cX12_firstRules 0 = .ok (.iconst 0, 1) := by decide +kernel
theorem dX12_firstRules_1 : decode cX12_firstRules 1 = .ok (.istore_n 1, 1) := by decide +kernel
theorem dX12_firstRules_2 : decode cX12_firstRules 2 = .ok (.iload_n 1, 1) := by decide +kernel
theorem dX12_firstRules_3 : decode cX12_firstRules 3 = .ok (.bipush 16, 2) := by decide +kernel
theorem dX12_firstRules_5 : decode cX12_firstRules 5 = .ok (.if_icmp .ge 31, 3) := by decide +kernel
theorem dX12_firstRules_8 : decode cX12_firstRules 8 = .ok (.aload_n 0, 1) := by decide +kernel
theorem dX12_firstRules_9 : decode cX12_firstRules 9 = .ok (.iload_n 1, 1) := by decide +kernel
theorem dX12_firstRules_10 : decode cX12_firstRules 10 = .ok (.iload_n 1, 1) := by decide +kernel
theorem dX12_firstRules_11 : decode cX12_firstRules 11 = .ok (.iconst 1, 1) := by decide +kernel
theorem dX12_firstRules_12 : decode cX12_firstRules 12 = .ok (.if_icmp .ne 7, 3) := by decide +kernel
theorem dX12_firstRules_15 : decode cX12_firstRules 15 = .ok (.iconst 2, 1) := by decide +kernel
theorem dX12_firstRules_16 : decode cX12_firstRules 16 = .ok (.goto 13, 3) := by decide +kernel
theorem dX12_firstRules_19 : decode cX12_firstRules 19 = .ok (.iload_n 1, 1) := by decide +kernel
theorem dX12_firstRules_20 : decode cX12_firstRules 20 = .ok (.iconst 3, 1) := by decide +kernel
theorem dX12_firstRules_21 : decode cX12_firstRules 21 = .ok (.if_icmp .ne 7, 3) := by decide +kernel
theorem dX12_firstRules_24 : decode cX12_firstRules 24 = .ok (.iconst 1, 1) := by decide +kernel
theorem dX12_firstRules_25 : decode cX12_firstRules 25 = .ok (.goto 4, 3) := by decide +kernel
theorem dX12_firstRules_28 : decode cX12_firstRules 28 = .ok (.iconst 0, 1) := by decide +kernel
theorem dX12_firstRules_29 : decode cX12_firstRules 29 = .ok (.iastore, 1) := by decide +kernel
theorem dX12_firstRules_30 : decode cX12_firstRules 30 = .ok (.iinc 1 1, 3) := by decide +kernel
theorem dX12_firstRules_33 : decode cX12_firstRules 33 = .ok (.goto (-31), 3) := by decide +kernel
theorem dX12_firstRules_36 : decode cX12_firstRules 36 = .ok (.return_, 1) := by decide +kernel
theorem dX12_in_0 : decode cX12_in 0 = .ok (.iload_n 0, 1) := by decide +kernel
theorem dX12_in_1 : decode cX12_in 1 = .ok (.iload_n 1, 1) := by decide +kernel
theorem dX12_in_2 : decode cX12_in 2 = .ok (.if_icmp .lt 12, 3) := by decide +kernel
theorem dX12_in_5 : decode cX12_in 5 = .ok (.iload_n 0, 1) := by decide +kernel
theorem dX12_in_6 : decode cX12_in 6 = .ok (.iload_n 2, 1) := by decide +kernel
theorem dX12_in_7 : decode cX12_in 7 = .ok (.if_icmp .gt 7, 3) := by decide +kernel
theorem dX12_in_10 : decode cX12_in 10 = .ok (.iconst 1, 1) := by decide +kernel
theorem dX12_in_11 : decode cX12_in 11 = .ok (.goto 4, 3) := by decide +kernel
theorem dX12_in_14 : decode cX12_in 14 = .ok (.iconst 0, 1) := by decide +kernel
theorem dX12_in_15 : decode cX12_in 15 = .ok (.ireturn, 1) := by decide +kernel
theorem dX12_isFour_0 : decode cX12_isFour 0 = .ok (.iload_n 0, 1) := by decide +kernel
theorem dX12_isFour_1 : decode cX12_isFour 1 = .ok (.iconst 0, 1) := by decide +kernel
theorem dX12_isFour_2 : decode cX12_isFour 2 = .ok (.iconst 3, 1) := by decide +kernel
theorem dX12_isFour_3 : decode cX12_isFour 3 = .ok (.invokestatic 75, 3) := by decide +kernel
theorem dX12_isFour_6 : decode cX12_isFour 6 = .ok (.ireturn, 1) := by decide +kernel
theorem dX12_worth_0 : decode cX12_worth 0 = .ok (.iload_n 1, 1) := by decide +kernel
theorem dX12_worth_1 : decode cX12_worth 1 = .ok (.invokestatic 79, 3) := by decide +kernel
theorem dX12_worth_4 : decode cX12_worth 4 = .ok (.ifCond .eq 10, 3) := by decide +kernel
theorem dX12_worth_7 : decode cX12_worth 7 = .ok (.iload_n 2, 1) := by decide +kernel
theorem dX12_worth_8 : decode cX12_worth 8 = .ok (.invokestatic 79, 3) := by decide +kernel
theorem dX12_worth_11 : decode cX12_worth 11 = .ok (.ifCond .ne 6, 3) := by decide +kernel
theorem dX12_worth_14 : decode cX12_worth 14 = .ok (.bipush (-2), 2) := by decide +kernel
theorem dX12_worth_16 : decode cX12_worth 16 = .ok (.ireturn, 1) := by decide +kernel
theorem dX12_worth_17 : decode cX12_worth 17 = .ok (.iload_n 3, 1) := by decide +kernel
theorem dX12_worth_18 : decode cX12_worth 18 = .ok (.iconst 0, 1) := by decide +kernel
theorem dX12_worth_19 : decode cX12_worth 19 = .ok (.bipush 99, 2) := by decide +kernel
theorem dX12_worth_21 : decode cX12_worth 21 = .ok (.invokestatic 75, 3) := by decide +kernel
theorem dX12_worth_24 : decode cX12_worth 24 = .ok (.ifCond .ne 6, 3) := by decide +kernel
theorem dX12_worth_27 : decode cX12_worth 27 = .ok (.bipush (-3), 2) := by decide +kernel
theorem dX12_worth_29 : decode cX12_worth 29 = .ok (.ireturn, 1) := by decide +kernel
theorem dX12_worth_30 : decode cX12_worth 30 = .ok (.aload_n 0, 1) := by decide +kernel
theorem dX12_worth_31 : decode cX12_worth 31 = .ok (.getfield 7, 3) := by decide +kernel
theorem dX12_worth_34 : decode cX12_worth 34 = .ok (.iconst 4, 1) := by decide +kernel
theorem dX12_worth_35 : decode cX12_worth 35 = .ok (.iload_n 1, 1) := by decide +kernel
theorem dX12_worth_36 : decode cX12_worth 36 = .ok (.imul, 1) := by decide +kernel
theorem dX12_worth_37 : decode cX12_worth 37 = .ok (.iload_n 2, 1) := by decide +kernel
theorem dX12_worth_38 : decode cX12_worth 38 = .ok (.iadd, 1) := by decide +kernel
theorem dX12_worth_39 : decode cX12_worth 39 = .ok (.iaload, 1) := by decide +kernel
theorem dX12_worth_40 : decode cX12_worth 40 = .ok (.istore 4, 2) := by decide +kernel
theorem dX12_worth_42 : decode cX12_worth 42 = .ok (.aload_n 0, 1) := by decide +kernel
theorem dX12_worth_43 : decode cX12_worth 43 = .ok (.getfield 7, 3) := by decide +kernel
theorem dX12_worth_46 : decode cX12_worth 46 = .ok (.iconst 4, 1) := by decide +kernel
theorem dX12_worth_47 : decode cX12_worth 47 = .ok (.iload_n 1, 1) := by decide +kernel
theorem dX12_worth_48 : decode cX12_worth 48 = .ok (.imul, 1) := by decide +kernel
theorem dX12_worth_49 : decode cX12_worth 49 = .ok (.iload_n 2, 1) := by decide +kernel
theorem dX12_worth_50 : decode cX12_worth 50 = .ok (.iadd, 1) := by decide +kernel
theorem dX12_worth_51 : decode cX12_worth 51 = .ok (.iload_n 3, 1) := by decide +kernel
theorem dX12_worth_52 : decode cX12_worth 52 = .ok (.iastore, 1) := by decide +kernel
theorem dX12_worth_53 : decode cX12_worth 53 = .ok (.iload 4, 2) := by decide +kernel
theorem dX12_worth_55 : decode cX12_worth 55 = .ok (.ireturn, 1) := by decide +kernel
theorem dX12_need_0 : decode cX12_need 0 = .ok (.iload_n 1, 1) := by decide +kernel
theorem dX12_need_1 : decode cX12_need 1 = .ok (.invokestatic 79, 3) := by decide +kernel
theorem dX12_need_4 : decode cX12_need 4 = .ok (.ifCond .ne 6, 3) := by decide +kernel
theorem dX12_need_7 : decode cX12_need 7 = .ok (.bipush (-2), 2) := by decide +kernel
theorem dX12_need_9 : decode cX12_need 9 = .ok (.ireturn, 1) := by decide +kernel
theorem dX12_need_10 : decode cX12_need 10 = .ok (.iload_n 2, 1) := by decide +kernel
theorem dX12_need_11 : decode cX12_need 11 = .ok (.iconst 1, 1) := by decide +kernel
theorem dX12_need_12 : decode cX12_need 12 = .ok (.bipush 9, 2) := by decide +kernel
theorem dX12_need_14 : decode cX12_need 14 = .ok (.invokestatic 75, 3) := by decide +kernel
theorem dX12_need_17 : decode cX12_need 17 = .ok (.ifCond .ne 6, 3) := by decide +kernel
theorem dX12_need_20 : decode cX12_need 20 = .ok (.bipush (-3), 2) := by decide +kernel
theorem dX12_need_22 : decode cX12_need 22 = .ok (.ireturn, 1) := by decide +kernel
theorem dX12_need_23 : decode cX12_need 23 = .ok (.aload_n 0, 1) := by decide +kernel
theorem dX12_need_24 : decode cX12_need 24 = .ok (.getfield 13, 3) := by decide +kernel
theorem dX12_need_27 : decode cX12_need 27 = .ok (.iload_n 1, 1) := by decide +kernel
theorem dX12_need_28 : decode cX12_need 28 = .ok (.iaload, 1) := by decide +kernel
theorem dX12_need_29 : decode cX12_need 29 = .ok (.istore_n 3, 1) := by decide +kernel
theorem dX12_need_30 : decode cX12_need 30 = .ok (.aload_n 0, 1) := by decide +kernel
theorem dX12_need_31 : decode cX12_need 31 = .ok (.getfield 13, 3) := by decide +kernel
theorem dX12_need_34 : decode cX12_need 34 = .ok (.iload_n 1, 1) := by decide +kernel
theorem dX12_need_35 : decode cX12_need 35 = .ok (.iload_n 2, 1) := by decide +kernel
theorem dX12_need_36 : decode cX12_need 36 = .ok (.iastore, 1) := by decide +kernel
theorem dX12_need_37 : decode cX12_need 37 = .ok (.iload_n 3, 1) := by decide +kernel
theorem dX12_need_38 : decode cX12_need 38 = .ok (.ireturn, 1) := by decide +kernel
theorem dX12_coming_0 : decode cX12_coming 0 = .ok (.iload_n 1, 1) := by decide +kernel
theorem dX12_coming_1 : decode cX12_coming 1 = .ok (.iconst (-1), 1) := by decide +kernel
theorem dX12_coming_2 : decode cX12_coming 2 = .ok (.iconst 3, 1) := by decide +kernel
theorem dX12_coming_3 : decode cX12_coming 3 = .ok (.invokestatic 75, 3) := by decide +kernel
theorem dX12_coming_6 : decode cX12_coming 6 = .ok (.ifCond .ne 6, 3) := by decide +kernel
theorem dX12_coming_9 : decode cX12_coming 9 = .ok (.bipush (-2), 2) := by decide +kernel
theorem dX12_coming_11 : decode cX12_coming 11 = .ok (.ireturn, 1) := by decide +kernel
theorem dX12_coming_12 : decode cX12_coming 12 = .ok (.aload_n 0, 1) := by decide +kernel
theorem dX12_coming_13 : decode cX12_coming 13 = .ok (.getfield 83, 3) := by decide +kernel
theorem dX12_coming_16 : decode cX12_coming 16 = .ok (.bipush 24, 2) := by decide +kernel
theorem dX12_coming_18 : decode cX12_coming 18 = .ok (.if_icmp .ne 6, 3) := by decide +kernel
theorem dX12_coming_21 : decode cX12_coming 21 = .ok (.bipush (-5), 2) := by decide +kernel
theorem dX12_coming_23 : decode cX12_coming 23 = .ok (.ireturn, 1) := by decide +kernel
theorem dX12_coming_24 : decode cX12_coming 24 = .ok (.aload_n 0, 1) := by decide +kernel
theorem dX12_coming_25 : decode cX12_coming 25 = .ok (.getfield 16, 3) := by decide +kernel
theorem dX12_coming_28 : decode cX12_coming 28 = .ok (.aload_n 0, 1) := by decide +kernel
theorem dX12_coming_29 : decode cX12_coming 29 = .ok (.getfield 83, 3) := by decide +kernel
theorem dX12_coming_32 : decode cX12_coming 32 = .ok (.iload_n 1, 1) := by decide +kernel
theorem dX12_coming_33 : decode cX12_coming 33 = .ok (.iastore, 1) := by decide +kernel
theorem dX12_coming_34 : decode cX12_coming 34 = .ok (.aload_n 0, 1) := by decide +kernel
theorem dX12_coming_35 : decode cX12_coming 35 = .ok (.dup, 1) := by decide +kernel
theorem dX12_coming_36 : decode cX12_coming 36 = .ok (.getfield 83, 3) := by decide +kernel
theorem dX12_coming_39 : decode cX12_coming 39 = .ok (.iconst 1, 1) := by decide +kernel
theorem dX12_coming_40 : decode cX12_coming 40 = .ok (.iadd, 1) := by decide +kernel
theorem dX12_coming_41 : decode cX12_coming 41 = .ok (.putfield 83, 3) := by decide +kernel
theorem dX12_coming_44 : decode cX12_coming 44 = .ok (.aload_n 0, 1) := by decide +kernel
theorem dX12_coming_45 : decode cX12_coming 45 = .ok (.getfield 83, 3) := by decide +kernel
theorem dX12_coming_48 : decode cX12_coming 48 = .ok (.ireturn, 1) := by decide +kernel
theorem dX12_joining_0 : decode cX12_joining 0 = .ok (.iload_n 1, 1) := by decide +kernel
theorem dX12_joining_1 : decode cX12_joining 1 = .ok (.iconst (-1), 1) := by decide +kernel
theorem dX12_joining_2 : decode cX12_joining 2 = .ok (.iconst 3, 1) := by decide +kernel
theorem dX12_joining_3 : decode cX12_joining 3 = .ok (.invokestatic 75, 3) := by decide +kernel
theorem dX12_joining_6 : decode cX12_joining 6 = .ok (.ifCond .ne 6, 3) := by decide +kernel
theorem dX12_joining_9 : decode cX12_joining 9 = .ok (.bipush (-2), 2) := by decide +kernel
theorem dX12_joining_11 : decode cX12_joining 11 = .ok (.ireturn, 1) := by decide +kernel
theorem dX12_joining_12 : decode cX12_joining 12 = .ok (.aload_n 0, 1) := by decide +kernel
theorem dX12_joining_13 : decode cX12_joining 13 = .ok (.getfield 87, 3) := by decide +kernel
theorem dX12_joining_16 : decode cX12_joining 16 = .ok (.bipush 24, 2) := by decide +kernel
theorem dX12_joining_18 : decode cX12_joining 18 = .ok (.if_icmp .ne 6, 3) := by decide +kernel
theorem dX12_joining_21 : decode cX12_joining 21 = .ok (.bipush (-5), 2) := by decide +kernel
theorem dX12_joining_23 : decode cX12_joining 23 = .ok (.ireturn, 1) := by decide +kernel
theorem dX12_joining_24 : decode cX12_joining 24 = .ok (.aload_n 0, 1) := by decide +kernel
theorem dX12_joining_25 : decode cX12_joining 25 = .ok (.getfield 19, 3) := by decide +kernel
theorem dX12_joining_28 : decode cX12_joining 28 = .ok (.aload_n 0, 1) := by decide +kernel
theorem dX12_joining_29 : decode cX12_joining 29 = .ok (.getfield 87, 3) := by decide +kernel
theorem dX12_joining_32 : decode cX12_joining 32 = .ok (.iload_n 1, 1) := by decide +kernel
theorem dX12_joining_33 : decode cX12_joining 33 = .ok (.iastore, 1) := by decide +kernel
theorem dX12_joining_34 : decode cX12_joining 34 = .ok (.aload_n 0, 1) := by decide +kernel
theorem dX12_joining_35 : decode cX12_joining 35 = .ok (.dup, 1) := by decide +kernel
theorem dX12_joining_36 : decode cX12_joining 36 = .ok (.getfield 87, 3) := by decide +kernel
theorem dX12_joining_39 : decode cX12_joining 39 = .ok (.iconst 1, 1) := by decide +kernel
theorem dX12_joining_40 : decode cX12_joining 40 = .ok (.iadd, 1) := by decide +kernel
theorem dX12_joining_41 : decode cX12_joining 41 = .ok (.putfield 87, 3) := by decide +kernel
theorem dX12_joining_44 : decode cX12_joining 44 = .ok (.aload_n 0, 1) := by decide +kernel
theorem dX12_joining_45 : decode cX12_joining 45 = .ok (.getfield 87, 3) := by decide +kernel
theorem dX12_joining_48 : decode cX12_joining 48 = .ok (.ireturn, 1) := by decide +kernel
theorem dX12_add_0 : decode cX12_add 0 = .ok (.aload_n 0, 1) := by decide +kernel
theorem dX12_add_1 : decode cX12_add 1 = .ok (.getfield 22, 3) := by decide +kernel
theorem dX12_add_4 : decode cX12_add 4 = .ok (.bipush 84, 2) := by decide +kernel
theorem dX12_add_6 : decode cX12_add 6 = .ok (.iaload, 1) := by decide +kernel
theorem dX12_add_7 : decode cX12_add 7 = .ok (.istore_n 2, 1) := by decide +kernel
theorem dX12_add_8 : decode cX12_add 8 = .ok (.aload_n 0, 1) := by decide +kernel
theorem dX12_add_9 : decode cX12_add 9 = .ok (.getfield 22, 3) := by decide +kernel
theorem dX12_add_12 : decode cX12_add 12 = .ok (.iconst 0, 1) := by decide +kernel
theorem dX12_add_13 : decode cX12_add 13 = .ok (.iload_n 2, 1) := by decide +kernel
theorem dX12_add_14 : decode cX12_add 14 = .ok (.iadd, 1) := by decide +kernel
theorem dX12_add_15 : decode cX12_add 15 = .ok (.iload_n 1, 1) := by decide +kernel
theorem dX12_add_16 : decode cX12_add 16 = .ok (.iastore, 1) := by decide +kernel
theorem dX12_add_17 : decode cX12_add 17 = .ok (.aload_n 0, 1) := by decide +kernel
theorem dX12_add_18 : decode cX12_add 18 = .ok (.getfield 22, 3) := by decide +kernel
theorem dX12_add_21 : decode cX12_add 21 = .ok (.bipush 12, 2) := by decide +kernel
theorem dX12_add_23 : decode cX12_add 23 = .ok (.iload_n 2, 1) := by decide +kernel
theorem dX12_add_24 : decode cX12_add 24 = .ok (.iadd, 1) := by decide +kernel
theorem dX12_add_25 : decode cX12_add 25 = .ok (.aload_n 0, 1) := by decide +kernel
theorem dX12_add_26 : decode cX12_add 26 = .ok (.getfield 22, 3) := by decide +kernel
theorem dX12_add_29 : decode cX12_add 29 = .ok (.bipush 85, 2) := by decide +kernel
theorem dX12_add_31 : decode cX12_add 31 = .ok (.iaload, 1) := by decide +kernel
theorem dX12_add_32 : decode cX12_add 32 = .ok (.iastore, 1) := by decide +kernel
theorem dX12_add_33 : decode cX12_add 33 = .ok (.aload_n 0, 1) := by decide +kernel
theorem dX12_add_34 : decode cX12_add 34 = .ok (.getfield 22, 3) := by decide +kernel
theorem dX12_add_37 : decode cX12_add 37 = .ok (.bipush 24, 2) := by decide +kernel
theorem dX12_add_39 : decode cX12_add 39 = .ok (.iload_n 2, 1) := by decide +kernel
theorem dX12_add_40 : decode cX12_add 40 = .ok (.iadd, 1) := by decide +kernel
theorem dX12_add_41 : decode cX12_add 41 = .ok (.iconst 0, 1) := by decide +kernel
theorem dX12_add_42 : decode cX12_add 42 = .ok (.iastore, 1) := by decide +kernel
theorem dX12_add_43 : decode cX12_add 43 = .ok (.aload_n 0, 1) := by decide +kernel
theorem dX12_add_44 : decode cX12_add 44 = .ok (.getfield 22, 3) := by decide +kernel
theorem dX12_add_47 : decode cX12_add 47 = .ok (.bipush 36, 2) := by decide +kernel
theorem dX12_add_49 : decode cX12_add 49 = .ok (.iload_n 2, 1) := by decide +kernel
theorem dX12_add_50 : decode cX12_add 50 = .ok (.iadd, 1) := by decide +kernel
theorem dX12_add_51 : decode cX12_add 51 = .ok (.iconst 0, 1) := by decide +kernel
theorem dX12_add_52 : decode cX12_add 52 = .ok (.iastore, 1) := by decide +kernel
theorem dX12_add_53 : decode cX12_add 53 = .ok (.aload_n 0, 1) := by decide +kernel
theorem dX12_add_54 : decode cX12_add 54 = .ok (.getfield 22, 3) := by decide +kernel
theorem dX12_add_57 : decode cX12_add 57 = .ok (.bipush 48, 2) := by decide +kernel
theorem dX12_add_59 : decode cX12_add 59 = .ok (.iload_n 2, 1) := by decide +kernel
theorem dX12_add_60 : decode cX12_add 60 = .ok (.iadd, 1) := by decide +kernel
theorem dX12_add_61 : decode cX12_add 61 = .ok (.iconst 0, 1) := by decide +kernel
theorem dX12_add_62 : decode cX12_add 62 = .ok (.iastore, 1) := by decide +kernel
theorem dX12_add_63 : decode cX12_add 63 = .ok (.aload_n 0, 1) := by decide +kernel
theorem dX12_add_64 : decode cX12_add 64 = .ok (.getfield 22, 3) := by decide +kernel
theorem dX12_add_67 : decode cX12_add 67 = .ok (.bipush 85, 2) := by decide +kernel
theorem dX12_add_69 : decode cX12_add 69 = .ok (.dup2, 1) := by decide +kernel
theorem dX12_add_70 : decode cX12_add 70 = .ok (.iaload, 1) := by decide +kernel
theorem dX12_add_71 : decode cX12_add 71 = .ok (.iconst 1, 1) := by decide +kernel
theorem dX12_add_72 : decode cX12_add 72 = .ok (.iadd, 1) := by decide +kernel
theorem dX12_add_73 : decode cX12_add 73 = .ok (.iastore, 1) := by decide +kernel
theorem dX12_add_74 : decode cX12_add 74 = .ok (.aload_n 0, 1) := by decide +kernel
theorem dX12_add_75 : decode cX12_add 75 = .ok (.getfield 22, 3) := by decide +kernel
theorem dX12_add_78 : decode cX12_add 78 = .ok (.bipush 84, 2) := by decide +kernel
theorem dX12_add_80 : decode cX12_add 80 = .ok (.dup2, 1) := by decide +kernel
theorem dX12_add_81 : decode cX12_add 81 = .ok (.iaload, 1) := by decide +kernel
theorem dX12_add_82 : decode cX12_add 82 = .ok (.iconst 1, 1) := by decide +kernel
theorem dX12_add_83 : decode cX12_add 83 = .ok (.iadd, 1) := by decide +kernel
theorem dX12_add_84 : decode cX12_add 84 = .ok (.iastore, 1) := by decide +kernel
theorem dX12_add_85 : decode cX12_add 85 = .ok (.return_, 1) := by decide +kernel
theorem dX12_join_0 : decode cX12_join 0 = .ok (.iload_n 1, 1) := by decide +kernel
theorem dX12_join_1 : decode cX12_join 1 = .ok (.invokestatic 79, 3) := by decide +kernel
theorem dX12_join_4 : decode cX12_join 4 = .ok (.ifCond .ne 6, 3) := by decide +kernel
theorem dX12_join_7 : decode cX12_join 7 = .ok (.bipush (-2), 2) := by decide +kernel
theorem dX12_join_9 : decode cX12_join 9 = .ok (.ireturn, 1) := by decide +kernel
theorem dX12_join_10 : decode cX12_join 10 = .ok (.aload_n 0, 1) := by decide +kernel
theorem dX12_join_11 : decode cX12_join 11 = .ok (.getfield 22, 3) := by decide +kernel
theorem dX12_join_14 : decode cX12_join 14 = .ok (.bipush 84, 2) := by decide +kernel
theorem dX12_join_16 : decode cX12_join 16 = .ok (.iaload, 1) := by decide +kernel
theorem dX12_join_17 : decode cX12_join 17 = .ok (.bipush 12, 2) := by decide +kernel
theorem dX12_join_19 : decode cX12_join 19 = .ok (.if_icmp .ne 6, 3) := by decide +kernel
theorem dX12_join_22 : decode cX12_join 22 = .ok (.bipush (-5), 2) := by decide +kernel
theorem dX12_join_24 : decode cX12_join 24 = .ok (.ireturn, 1) := by decide +kernel
theorem dX12_join_25 : decode cX12_join 25 = .ok (.aload_n 0, 1) := by decide +kernel
theorem dX12_join_26 : decode cX12_join 26 = .ok (.iload_n 1, 1) := by decide +kernel
theorem dX12_join_27 : decode cX12_join 27 = .ok (.invokevirtual 90, 3) := by decide +kernel
theorem dX12_join_30 : decode cX12_join 30 = .ok (.aload_n 0, 1) := by decide +kernel
theorem dX12_join_31 : decode cX12_join 31 = .ok (.getfield 22, 3) := by decide +kernel
theorem dX12_join_34 : decode cX12_join 34 = .ok (.bipush 84, 2) := by decide +kernel
theorem dX12_join_36 : decode cX12_join 36 = .ok (.iaload, 1) := by decide +kernel
theorem dX12_join_37 : decode cX12_join 37 = .ok (.ireturn, 1) := by decide +kernel
theorem dX12_isAhead_0 : decode cX12_isAhead 0 = .ok (.aload_n 0, 1) := by decide +kernel
theorem dX12_isAhead_1 : decode cX12_isAhead 1 = .ok (.getfield 41, 3) := by decide +kernel
theorem dX12_isAhead_4 : decode cX12_isAhead 4 = .ok (.iconst 0, 1) := by decide +kernel
theorem dX12_isAhead_5 : decode cX12_isAhead 5 = .ok (.iaload, 1) := by decide +kernel
theorem dX12_isAhead_6 : decode cX12_isAhead 6 = .ok (.iconst 1, 1) := by decide +kernel
theorem dX12_isAhead_7 : decode cX12_isAhead 7 = .ok (.if_icmp .ne 19, 3) := by decide +kernel
theorem dX12_isAhead_10 : decode cX12_isAhead 10 = .ok (.aload_n 0, 1) := by decide +kernel
theorem dX12_isAhead_11 : decode cX12_isAhead 11 = .ok (.getfield 13, 3) := by decide +kernel
theorem dX12_isAhead_14 : decode cX12_isAhead 14 = .ok (.aload_n 0, 1) := by decide +kernel
theorem dX12_isAhead_15 : decode cX12_isAhead 15 = .ok (.getfield 22, 3) := by decide +kernel
theorem dX12_isAhead_18 : decode cX12_isAhead 18 = .ok (.iconst 0, 1) := by decide +kernel
theorem dX12_isAhead_19 : decode cX12_isAhead 19 = .ok (.iload_n 1, 1) := by decide +kernel
theorem dX12_isAhead_20 : decode cX12_isAhead 20 = .ok (.iadd, 1) := by decide +kernel
theorem dX12_isAhead_21 : decode cX12_isAhead 21 = .ok (.iaload, 1) := by decide +kernel
theorem dX12_isAhead_22 : decode cX12_isAhead 22 = .ok (.iaload, 1) := by decide +kernel
theorem dX12_isAhead_23 : decode cX12_isAhead 23 = .ok (.goto 26, 3) := by decide +kernel
theorem dX12_isAhead_26 : decode cX12_isAhead 26 = .ok (.aload_n 0, 1) := by decide +kernel
theorem dX12_isAhead_27 : decode cX12_isAhead 27 = .ok (.getfield 41, 3) := by decide +kernel
theorem dX12_isAhead_30 : decode cX12_isAhead 30 = .ok (.iconst 0, 1) := by decide +kernel
theorem dX12_isAhead_31 : decode cX12_isAhead 31 = .ok (.iaload, 1) := by decide +kernel
theorem dX12_isAhead_32 : decode cX12_isAhead 32 = .ok (.iconst 2, 1) := by decide +kernel
theorem dX12_isAhead_33 : decode cX12_isAhead 33 = .ok (.if_icmp .ne 15, 3) := by decide +kernel
theorem dX12_isAhead_36 : decode cX12_isAhead 36 = .ok (.aload_n 0, 1) := by decide +kernel
theorem dX12_isAhead_37 : decode cX12_isAhead 37 = .ok (.getfield 22, 3) := by decide +kernel
theorem dX12_isAhead_40 : decode cX12_isAhead 40 = .ok (.bipush 24, 2) := by decide +kernel
theorem dX12_isAhead_42 : decode cX12_isAhead 42 = .ok (.iload_n 1, 1) := by decide +kernel
theorem dX12_isAhead_43 : decode cX12_isAhead 43 = .ok (.iadd, 1) := by decide +kernel
theorem dX12_isAhead_44 : decode cX12_isAhead 44 = .ok (.iaload, 1) := by decide +kernel
theorem dX12_isAhead_45 : decode cX12_isAhead 45 = .ok (.goto 4, 3) := by decide +kernel
theorem dX12_isAhead_48 : decode cX12_isAhead 48 = .ok (.iconst 0, 1) := by decide +kernel
theorem dX12_isAhead_49 : decode cX12_isAhead 49 = .ok (.istore_n 3, 1) := by decide +kernel
theorem dX12_isAhead_50 : decode cX12_isAhead 50 = .ok (.aload_n 0, 1) := by decide +kernel
theorem dX12_isAhead_51 : decode cX12_isAhead 51 = .ok (.getfield 41, 3) := by decide +kernel
theorem dX12_isAhead_54 : decode cX12_isAhead 54 = .ok (.iconst 0, 1) := by decide +kernel
theorem dX12_isAhead_55 : decode cX12_isAhead 55 = .ok (.iaload, 1) := by decide +kernel
theorem dX12_isAhead_56 : decode cX12_isAhead 56 = .ok (.iconst 1, 1) := by decide +kernel
theorem dX12_isAhead_57 : decode cX12_isAhead 57 = .ok (.if_icmp .ne 19, 3) := by decide +kernel
theorem dX12_isAhead_60 : decode cX12_isAhead 60 = .ok (.aload_n 0, 1) := by decide +kernel
theorem dX12_isAhead_61 : decode cX12_isAhead 61 = .ok (.getfield 13, 3) := by decide +kernel
theorem dX12_isAhead_64 : decode cX12_isAhead 64 = .ok (.aload_n 0, 1) := by decide +kernel
theorem dX12_isAhead_65 : decode cX12_isAhead 65 = .ok (.getfield 22, 3) := by decide +kernel
theorem dX12_isAhead_68 : decode cX12_isAhead 68 = .ok (.iconst 0, 1) := by decide +kernel
theorem dX12_isAhead_69 : decode cX12_isAhead 69 = .ok (.iload_n 2, 1) := by decide +kernel
theorem dX12_isAhead_70 : decode cX12_isAhead 70 = .ok (.iadd, 1) := by decide +kernel
theorem dX12_isAhead_71 : decode cX12_isAhead 71 = .ok (.iaload, 1) := by decide +kernel
theorem dX12_isAhead_72 : decode cX12_isAhead 72 = .ok (.iaload, 1) := by decide +kernel
theorem dX12_isAhead_73 : decode cX12_isAhead 73 = .ok (.goto 26, 3) := by decide +kernel
theorem dX12_isAhead_76 : decode cX12_isAhead 76 = .ok (.aload_n 0, 1) := by decide +kernel
theorem dX12_isAhead_77 : decode cX12_isAhead 77 = .ok (.getfield 41, 3) := by decide +kernel
theorem dX12_isAhead_80 : decode cX12_isAhead 80 = .ok (.iconst 0, 1) := by decide +kernel
theorem dX12_isAhead_81 : decode cX12_isAhead 81 = .ok (.iaload, 1) := by decide +kernel
theorem dX12_isAhead_82 : decode cX12_isAhead 82 = .ok (.iconst 2, 1) := by decide +kernel
theorem dX12_isAhead_83 : decode cX12_isAhead 83 = .ok (.if_icmp .ne 15, 3) := by decide +kernel
theorem dX12_isAhead_86 : decode cX12_isAhead 86 = .ok (.aload_n 0, 1) := by decide +kernel
theorem dX12_isAhead_87 : decode cX12_isAhead 87 = .ok (.getfield 22, 3) := by decide +kernel
theorem dX12_isAhead_90 : decode cX12_isAhead 90 = .ok (.bipush 24, 2) := by decide +kernel
theorem dX12_isAhead_92 : decode cX12_isAhead 92 = .ok (.iload_n 2, 1) := by decide +kernel
theorem dX12_isAhead_93 : decode cX12_isAhead 93 = .ok (.iadd, 1) := by decide +kernel
theorem dX12_isAhead_94 : decode cX12_isAhead 94 = .ok (.iaload, 1) := by decide +kernel
theorem dX12_isAhead_95 : decode cX12_isAhead 95 = .ok (.goto 4, 3) := by decide +kernel
theorem dX12_isAhead_98 : decode cX12_isAhead 98 = .ok (.iconst 0, 1) := by decide +kernel
theorem dX12_isAhead_99 : decode cX12_isAhead 99 = .ok (.istore 4, 2) := by decide +kernel
theorem dX12_isAhead_101 : decode cX12_isAhead 101 = .ok (.iload_n 3, 1) := by decide +kernel
theorem dX12_isAhead_102 : decode cX12_isAhead 102 = .ok (.iload 4, 2) := by decide +kernel
theorem dX12_isAhead_104 : decode cX12_isAhead 104 = .ok (.if_icmp .gt 30, 3) := by decide +kernel
theorem dX12_isAhead_107 : decode cX12_isAhead 107 = .ok (.iload_n 3, 1) := by decide +kernel
theorem dX12_isAhead_108 : decode cX12_isAhead 108 = .ok (.iload 4, 2) := by decide +kernel
theorem dX12_isAhead_110 : decode cX12_isAhead 110 = .ok (.if_icmp .ne 28, 3) := by decide +kernel
theorem dX12_isAhead_113 : decode cX12_isAhead 113 = .ok (.aload_n 0, 1) := by decide +kernel
theorem dX12_isAhead_114 : decode cX12_isAhead 114 = .ok (.getfield 22, 3) := by decide +kernel
theorem dX12_isAhead_117 : decode cX12_isAhead 117 = .ok (.bipush 12, 2) := by decide +kernel
theorem dX12_isAhead_119 : decode cX12_isAhead 119 = .ok (.iload_n 1, 1) := by decide +kernel
theorem dX12_isAhead_120 : decode cX12_isAhead 120 = .ok (.iadd, 1) := by decide +kernel
theorem dX12_isAhead_121 : decode cX12_isAhead 121 = .ok (.iaload, 1) := by decide +kernel
theorem dX12_isAhead_122 : decode cX12_isAhead 122 = .ok (.aload_n 0, 1) := by decide +kernel
theorem dX12_isAhead_123 : decode cX12_isAhead 123 = .ok (.getfield 22, 3) := by decide +kernel
theorem dX12_isAhead_126 : decode cX12_isAhead 126 = .ok (.bipush 12, 2) := by decide +kernel
theorem dX12_isAhead_128 : decode cX12_isAhead 128 = .ok (.iload_n 2, 1) := by decide +kernel
theorem dX12_isAhead_129 : decode cX12_isAhead 129 = .ok (.iadd, 1) := by decide +kernel
theorem dX12_isAhead_130 : decode cX12_isAhead 130 = .ok (.iaload, 1) := by decide +kernel
theorem dX12_isAhead_131 : decode cX12_isAhead 131 = .ok (.if_icmp .ge 7, 3) := by decide +kernel
theorem dX12_isAhead_134 : decode cX12_isAhead 134 = .ok (.iconst 1, 1) := by decide +kernel
theorem dX12_isAhead_135 : decode cX12_isAhead 135 = .ok (.goto 4, 3) := by decide +kernel
theorem dX12_isAhead_138 : decode cX12_isAhead 138 = .ok (.iconst 0, 1) := by decide +kernel
theorem dX12_isAhead_139 : decode cX12_isAhead 139 = .ok (.ireturn, 1) := by decide +kernel
end
section
theorem dX12_findOrder_0 : decode cX12_findOrder 0 = .ok (.iconst 0, 1) := by decide +kernel
theorem dX12_findOrder_1 : decode cX12_findOrder 1 = .ok (.istore_n 1, 1) := by decide +kernel
theorem dX12_findOrder_2 : decode cX12_findOrder 2 = .ok (.iload_n 1, 1) := by decide +kernel
theorem dX12_findOrder_3 : decode cX12_findOrder 3 = .ok (.aload_n 0, 1) := by decide +kernel
theorem dX12_findOrder_4 : decode cX12_findOrder 4 = .ok (.getfield 22, 3) := by decide +kernel
theorem dX12_findOrder_7 : decode cX12_findOrder 7 = .ok (.bipush 84, 2) := by decide +kernel
theorem dX12_findOrder_9 : decode cX12_findOrder 9 = .ok (.iaload, 1) := by decide +kernel
theorem dX12_findOrder_10 : decode cX12_findOrder 10 = .ok (.if_icmp .ge 59, 3) := by decide +kernel
theorem dX12_findOrder_13 : decode cX12_findOrder 13 = .ok (.iconst 0, 1) := by decide +kernel
theorem dX12_findOrder_14 : decode cX12_findOrder 14 = .ok (.istore_n 2, 1) := by decide +kernel
theorem dX12_findOrder_15 : decode cX12_findOrder 15 = .ok (.iconst 0, 1) := by decide +kernel
theorem dX12_findOrder_16 : decode cX12_findOrder 16 = .ok (.istore_n 3, 1) := by decide +kernel
theorem dX12_findOrder_17 : decode cX12_findOrder 17 = .ok (.iload_n 3, 1) := by decide +kernel
theorem dX12_findOrder_18 : decode cX12_findOrder 18 = .ok (.aload_n 0, 1) := by decide +kernel
theorem dX12_findOrder_19 : decode cX12_findOrder 19 = .ok (.getfield 22, 3) := by decide +kernel
theorem dX12_findOrder_22 : decode cX12_findOrder 22 = .ok (.bipush 84, 2) := by decide +kernel
theorem dX12_findOrder_24 : decode cX12_findOrder 24 = .ok (.iaload, 1) := by decide +kernel
theorem dX12_findOrder_25 : decode cX12_findOrder 25 = .ok (.if_icmp .ge 31, 3) := by decide +kernel
theorem dX12_findOrder_28 : decode cX12_findOrder 28 = .ok (.iload_n 2, 1) := by decide +kernel
theorem dX12_findOrder_29 : decode cX12_findOrder 29 = .ok (.iload_n 3, 1) := by decide +kernel
theorem dX12_findOrder_30 : decode cX12_findOrder 30 = .ok (.iload_n 1, 1) := by decide +kernel
theorem dX12_findOrder_31 : decode cX12_findOrder 31 = .ok (.if_icmp .eq 16, 3) := by decide +kernel
theorem dX12_findOrder_34 : decode cX12_findOrder 34 = .ok (.aload_n 0, 1) := by decide +kernel
theorem dX12_findOrder_35 : decode cX12_findOrder 35 = .ok (.iload_n 3, 1) := by decide +kernel
theorem dX12_findOrder_36 : decode cX12_findOrder 36 = .ok (.iload_n 1, 1) := by decide +kernel
theorem dX12_findOrder_37 : decode cX12_findOrder 37 = .ok (.invokevirtual 94, 3) := by decide +kernel
theorem dX12_findOrder_40 : decode cX12_findOrder 40 = .ok (.ifCond .eq 7, 3) := by decide +kernel
theorem dX12_findOrder_43 : decode cX12_findOrder 43 = .ok (.iconst 1, 1) := by decide +kernel
theorem dX12_findOrder_44 : decode cX12_findOrder 44 = .ok (.goto 4, 3) := by decide +kernel
theorem dX12_findOrder_47 : decode cX12_findOrder 47 = .ok (.iconst 0, 1) := by decide +kernel
theorem dX12_findOrder_48 : decode cX12_findOrder 48 = .ok (.iadd, 1) := by decide +kernel
theorem dX12_findOrder_49 : decode cX12_findOrder 49 = .ok (.istore_n 2, 1) := by decide +kernel
theorem dX12_findOrder_50 : decode cX12_findOrder 50 = .ok (.iinc 3 1, 3) := by decide +kernel
theorem dX12_findOrder_53 : decode cX12_findOrder 53 = .ok (.goto (-36), 3) := by decide +kernel
theorem dX12_findOrder_56 : decode cX12_findOrder 56 = .ok (.aload_n 0, 1) := by decide +kernel
theorem dX12_findOrder_57 : decode cX12_findOrder 57 = .ok (.getfield 28, 3) := by decide +kernel
theorem dX12_findOrder_60 : decode cX12_findOrder 60 = .ok (.iload_n 2, 1) := by decide +kernel
theorem dX12_findOrder_61 : decode cX12_findOrder 61 = .ok (.iload_n 1, 1) := by decide +kernel
theorem dX12_findOrder_62 : decode cX12_findOrder 62 = .ok (.iastore, 1) := by decide +kernel
theorem dX12_findOrder_63 : decode cX12_findOrder 63 = .ok (.iinc 1 1, 3) := by decide +kernel
theorem dX12_findOrder_66 : decode cX12_findOrder 66 = .ok (.goto (-64), 3) := by decide +kernel
theorem dX12_findOrder_69 : decode cX12_findOrder 69 = .ok (.return_, 1) := by decide +kernel
theorem dX12_doesTake_0 : decode cX12_doesTake 0 = .ok (.aload_n 0, 1) := by decide +kernel
theorem dX12_doesTake_1 : decode cX12_doesTake 1 = .ok (.getfield 22, 3) := by decide +kernel
theorem dX12_doesTake_4 : decode cX12_doesTake 4 = .ok (.iconst 0, 1) := by decide +kernel
theorem dX12_doesTake_5 : decode cX12_doesTake 5 = .ok (.iload_n 1, 1) := by decide +kernel
theorem dX12_doesTake_6 : decode cX12_doesTake 6 = .ok (.iadd, 1) := by decide +kernel
theorem dX12_doesTake_7 : decode cX12_doesTake 7 = .ok (.iaload, 1) := by decide +kernel
theorem dX12_doesTake_8 : decode cX12_doesTake 8 = .ok (.istore_n 3, 1) := by decide +kernel
theorem dX12_doesTake_9 : decode cX12_doesTake 9 = .ok (.aload_n 0, 1) := by decide +kernel
theorem dX12_doesTake_10 : decode cX12_doesTake 10 = .ok (.getfield 7, 3) := by decide +kernel
theorem dX12_doesTake_13 : decode cX12_doesTake 13 = .ok (.iconst 4, 1) := by decide +kernel
theorem dX12_doesTake_14 : decode cX12_doesTake 14 = .ok (.iload_n 3, 1) := by decide +kernel
theorem dX12_doesTake_15 : decode cX12_doesTake 15 = .ok (.imul, 1) := by decide +kernel
theorem dX12_doesTake_16 : decode cX12_doesTake 16 = .ok (.iload_n 2, 1) := by decide +kernel
theorem dX12_doesTake_17 : decode cX12_doesTake 17 = .ok (.iadd, 1) := by decide +kernel
theorem dX12_doesTake_18 : decode cX12_doesTake 18 = .ok (.iaload, 1) := by decide +kernel
theorem dX12_doesTake_19 : decode cX12_doesTake 19 = .ok (.istore 4, 2) := by decide +kernel
theorem dX12_doesTake_21 : decode cX12_doesTake 21 = .ok (.aload_n 0, 1) := by decide +kernel
theorem dX12_doesTake_22 : decode cX12_doesTake 22 = .ok (.getfield 41, 3) := by decide +kernel
theorem dX12_doesTake_25 : decode cX12_doesTake 25 = .ok (.iconst 4, 1) := by decide +kernel
theorem dX12_doesTake_26 : decode cX12_doesTake 26 = .ok (.iconst 3, 1) := by decide +kernel
theorem dX12_doesTake_27 : decode cX12_doesTake 27 = .ok (.iload_n 3, 1) := by decide +kernel
theorem dX12_doesTake_28 : decode cX12_doesTake 28 = .ok (.imul, 1) := by decide +kernel
theorem dX12_doesTake_29 : decode cX12_doesTake 29 = .ok (.iadd, 1) := by decide +kernel
theorem dX12_doesTake_30 : decode cX12_doesTake 30 = .ok (.iaload, 1) := by decide +kernel
theorem dX12_doesTake_31 : decode cX12_doesTake 31 = .ok (.istore 5, 2) := by decide +kernel
theorem dX12_doesTake_33 : decode cX12_doesTake 33 = .ok (.iload 5, 2) := by decide +kernel
theorem dX12_doesTake_35 : decode cX12_doesTake 35 = .ok (.ifCond .eq 50, 3) := by decide +kernel
theorem dX12_doesTake_38 : decode cX12_doesTake 38 = .ok (.iload 4, 2) := by decide +kernel
theorem dX12_doesTake_40 : decode cX12_doesTake 40 = .ok (.aload_n 0, 1) := by decide +kernel
theorem dX12_doesTake_41 : decode cX12_doesTake 41 = .ok (.getfield 41, 3) := by decide +kernel
theorem dX12_doesTake_44 : decode cX12_doesTake 44 = .ok (.iconst 5, 1) := by decide +kernel
theorem dX12_doesTake_45 : decode cX12_doesTake 45 = .ok (.iconst 3, 1) := by decide +kernel
theorem dX12_doesTake_46 : decode cX12_doesTake 46 = .ok (.iload_n 3, 1) := by decide +kernel
theorem dX12_doesTake_47 : decode cX12_doesTake 47 = .ok (.imul, 1) := by decide +kernel
theorem dX12_doesTake_48 : decode cX12_doesTake 48 = .ok (.iadd, 1) := by decide +kernel
theorem dX12_doesTake_49 : decode cX12_doesTake 49 = .ok (.iaload, 1) := by decide +kernel
theorem dX12_doesTake_50 : decode cX12_doesTake 50 = .ok (.iload 5, 2) := by decide +kernel
theorem dX12_doesTake_52 : decode cX12_doesTake 52 = .ok (.iconst 2, 1) := by decide +kernel
theorem dX12_doesTake_53 : decode cX12_doesTake 53 = .ok (.if_icmp .ne 27, 3) := by decide +kernel
theorem dX12_doesTake_56 : decode cX12_doesTake 56 = .ok (.aload_n 0, 1) := by decide +kernel
theorem dX12_doesTake_57 : decode cX12_doesTake 57 = .ok (.getfield 41, 3) := by decide +kernel
theorem dX12_doesTake_60 : decode cX12_doesTake 60 = .ok (.bipush 6, 2) := by decide +kernel
theorem dX12_doesTake_62 : decode cX12_doesTake 62 = .ok (.iconst 3, 1) := by decide +kernel
theorem dX12_doesTake_63 : decode cX12_doesTake 63 = .ok (.iload_n 3, 1) := by decide +kernel
theorem dX12_doesTake_64 : decode cX12_doesTake 64 = .ok (.imul, 1) := by decide +kernel
theorem dX12_doesTake_65 : decode cX12_doesTake 65 = .ok (.iadd, 1) := by decide +kernel
theorem dX12_doesTake_66 : decode cX12_doesTake 66 = .ok (.iaload, 1) := by decide +kernel
theorem dX12_doesTake_67 : decode cX12_doesTake 67 = .ok (.aload_n 0, 1) := by decide +kernel
theorem dX12_doesTake_68 : decode cX12_doesTake 68 = .ok (.getfield 22, 3) := by decide +kernel
theorem dX12_doesTake_71 : decode cX12_doesTake 71 = .ok (.bipush 48, 2) := by decide +kernel
theorem dX12_doesTake_73 : decode cX12_doesTake 73 = .ok (.iload_n 1, 1) := by decide +kernel
theorem dX12_doesTake_74 : decode cX12_doesTake 74 = .ok (.iadd, 1) := by decide +kernel
theorem dX12_doesTake_75 : decode cX12_doesTake 75 = .ok (.iaload, 1) := by decide +kernel
theorem dX12_doesTake_76 : decode cX12_doesTake 76 = .ok (.imul, 1) := by decide +kernel
theorem dX12_doesTake_77 : decode cX12_doesTake 77 = .ok (.goto 4, 3) := by decide +kernel
theorem dX12_doesTake_80 : decode cX12_doesTake 80 = .ok (.iconst 0, 1) := by decide +kernel
theorem dX12_doesTake_81 : decode cX12_doesTake 81 = .ok (.isub, 1) := by decide +kernel
theorem dX12_doesTake_82 : decode cX12_doesTake 82 = .ok (.if_icmp .lt 7, 3) := by decide +kernel
theorem dX12_doesTake_85 : decode cX12_doesTake 85 = .ok (.iconst 1, 1) := by decide +kernel
theorem dX12_doesTake_86 : decode cX12_doesTake 86 = .ok (.goto 4, 3) := by decide +kernel
theorem dX12_doesTake_89 : decode cX12_doesTake 89 = .ok (.iconst 0, 1) := by decide +kernel
theorem dX12_doesTake_90 : decode cX12_doesTake 90 = .ok (.ireturn, 1) := by decide +kernel
theorem dX12_offer_0 : decode cX12_offer 0 = .ok (.aload_n 0, 1) := by decide +kernel
theorem dX12_offer_1 : decode cX12_offer 1 = .ok (.invokevirtual 98, 3) := by decide +kernel
theorem dX12_offer_4 : decode cX12_offer 4 = .ok (.iconst 0, 1) := by decide +kernel
theorem dX12_offer_5 : decode cX12_offer 5 = .ok (.istore_n 2, 1) := by decide +kernel
theorem dX12_offer_6 : decode cX12_offer 6 = .ok (.iconst 0, 1) := by decide +kernel
theorem dX12_offer_7 : decode cX12_offer 7 = .ok (.istore_n 3, 1) := by decide +kernel
theorem dX12_offer_8 : decode cX12_offer 8 = .ok (.iload_n 3, 1) := by decide +kernel
theorem dX12_offer_9 : decode cX12_offer 9 = .ok (.aload_n 0, 1) := by decide +kernel
theorem dX12_offer_10 : decode cX12_offer 10 = .ok (.getfield 22, 3) := by decide +kernel
theorem dX12_offer_13 : decode cX12_offer 13 = .ok (.bipush 84, 2) := by decide +kernel
theorem dX12_offer_15 : decode cX12_offer 15 = .ok (.iaload, 1) := by decide +kernel
theorem dX12_offer_16 : decode cX12_offer 16 = .ok (.if_icmp .ge 262, 3) := by decide +kernel
theorem dX12_offer_19 : decode cX12_offer 19 = .ok (.iload_n 2, 1) := by decide +kernel
theorem dX12_offer_20 : decode cX12_offer 20 = .ok (.ifCond .ne 258, 3) := by decide +kernel
theorem dX12_offer_23 : decode cX12_offer 23 = .ok (.aload_n 0, 1) := by decide +kernel
theorem dX12_offer_24 : decode cX12_offer 24 = .ok (.getfield 28, 3) := by decide +kernel
theorem dX12_offer_27 : decode cX12_offer 27 = .ok (.iload_n 3, 1) := by decide +kernel
theorem dX12_offer_28 : decode cX12_offer 28 = .ok (.iaload, 1) := by decide +kernel
theorem dX12_offer_29 : decode cX12_offer 29 = .ok (.istore 4, 2) := by decide +kernel
theorem dX12_offer_31 : decode cX12_offer 31 = .ok (.aload_n 0, 1) := by decide +kernel
theorem dX12_offer_32 : decode cX12_offer 32 = .ok (.getfield 22, 3) := by decide +kernel
theorem dX12_offer_35 : decode cX12_offer 35 = .ok (.iconst 0, 1) := by decide +kernel
theorem dX12_offer_36 : decode cX12_offer 36 = .ok (.iload 4, 2) := by decide +kernel
theorem dX12_offer_38 : decode cX12_offer 38 = .ok (.iadd, 1) := by decide +kernel
theorem dX12_offer_39 : decode cX12_offer 39 = .ok (.iaload, 1) := by decide +kernel
theorem dX12_offer_40 : decode cX12_offer 40 = .ok (.istore 5, 2) := by decide +kernel
theorem dX12_offer_42 : decode cX12_offer 42 = .ok (.aload_n 0, 1) := by decide +kernel
theorem dX12_offer_43 : decode cX12_offer 43 = .ok (.iload 4, 2) := by decide +kernel
theorem dX12_offer_45 : decode cX12_offer 45 = .ok (.iload_n 1, 1) := by decide +kernel
theorem dX12_offer_46 : decode cX12_offer 46 = .ok (.invokevirtual 101, 3) := by decide +kernel
theorem dX12_offer_49 : decode cX12_offer 49 = .ok (.ifCond .eq 77, 3) := by decide +kernel
theorem dX12_offer_52 : decode cX12_offer 52 = .ok (.iconst 1, 1) := by decide +kernel
theorem dX12_offer_53 : decode cX12_offer 53 = .ok (.istore_n 2, 1) := by decide +kernel
theorem dX12_offer_54 : decode cX12_offer 54 = .ok (.aload_n 0, 1) := by decide +kernel
theorem dX12_offer_55 : decode cX12_offer 55 = .ok (.getfield 31, 3) := by decide +kernel
theorem dX12_offer_58 : decode cX12_offer 58 = .ok (.iload 4, 2) := by decide +kernel
theorem dX12_offer_60 : decode cX12_offer 60 = .ok (.iconst 1, 1) := by decide +kernel
theorem dX12_offer_61 : decode cX12_offer 61 = .ok (.bastore, 1) := by decide +kernel
theorem dX12_offer_62 : decode cX12_offer 62 = .ok (.aload_n 0, 1) := by decide +kernel
theorem dX12_offer_63 : decode cX12_offer 63 = .ok (.getfield 22, 3) := by decide +kernel
theorem dX12_offer_66 : decode cX12_offer 66 = .ok (.bipush 60, 2) := by decide +kernel
theorem dX12_offer_68 : decode cX12_offer 68 = .ok (.iload 5, 2) := by decide +kernel
theorem dX12_offer_70 : decode cX12_offer 70 = .ok (.iadd, 1) := by decide +kernel
theorem dX12_offer_71 : decode cX12_offer 71 = .ok (.dup2, 1) := by decide +kernel
theorem dX12_offer_72 : decode cX12_offer 72 = .ok (.iaload, 1) := by decide +kernel
theorem dX12_offer_73 : decode cX12_offer 73 = .ok (.iconst 1, 1) := by decide +kernel
theorem dX12_offer_74 : decode cX12_offer 74 = .ok (.iadd, 1) := by decide +kernel
theorem dX12_offer_75 : decode cX12_offer 75 = .ok (.iastore, 1) := by decide +kernel
theorem dX12_offer_76 : decode cX12_offer 76 = .ok (.aload_n 0, 1) := by decide +kernel
theorem dX12_offer_77 : decode cX12_offer 77 = .ok (.getfield 22, 3) := by decide +kernel
theorem dX12_offer_80 : decode cX12_offer 80 = .ok (.bipush 64, 2) := by decide +kernel
theorem dX12_offer_82 : decode cX12_offer 82 = .ok (.iload 5, 2) := by decide +kernel
theorem dX12_offer_84 : decode cX12_offer 84 = .ok (.iadd, 1) := by decide +kernel
theorem dX12_offer_85 : decode cX12_offer 85 = .ok (.dup2, 1) := by decide +kernel
theorem dX12_offer_86 : decode cX12_offer 86 = .ok (.iaload, 1) := by decide +kernel
theorem dX12_offer_87 : decode cX12_offer 87 = .ok (.aload_n 0, 1) := by decide +kernel
theorem dX12_offer_88 : decode cX12_offer 88 = .ok (.getfield 22, 3) := by decide +kernel
theorem dX12_offer_91 : decode cX12_offer 91 = .ok (.bipush 48, 2) := by decide +kernel
theorem dX12_offer_93 : decode cX12_offer 93 = .ok (.iload 4, 2) := by decide +kernel
theorem dX12_offer_95 : decode cX12_offer 95 = .ok (.iadd, 1) := by decide +kernel
theorem dX12_offer_96 : decode cX12_offer 96 = .ok (.iaload, 1) := by decide +kernel
theorem dX12_offer_97 : decode cX12_offer 97 = .ok (.iadd, 1) := by decide +kernel
theorem dX12_offer_98 : decode cX12_offer 98 = .ok (.iastore, 1) := by decide +kernel
theorem dX12_offer_99 : decode cX12_offer 99 = .ok (.aload_n 0, 1) := by decide +kernel
theorem dX12_offer_100 : decode cX12_offer 100 = .ok (.getfield 22, 3) := by decide +kernel
theorem dX12_offer_103 : decode cX12_offer 103 = .ok (.bipush 68, 2) := by decide +kernel
theorem dX12_offer_105 : decode cX12_offer 105 = .ok (.iload 5, 2) := by decide +kernel
theorem dX12_offer_107 : decode cX12_offer 107 = .ok (.iadd, 1) := by decide +kernel
theorem dX12_offer_108 : decode cX12_offer 108 = .ok (.dup2, 1) := by decide +kernel
theorem dX12_offer_109 : decode cX12_offer 109 = .ok (.iaload, 1) := by decide +kernel
theorem dX12_offer_110 : decode cX12_offer 110 = .ok (.aload_n 0, 1) := by decide +kernel
theorem dX12_offer_111 : decode cX12_offer 111 = .ok (.getfield 7, 3) := by decide +kernel
theorem dX12_offer_114 : decode cX12_offer 114 = .ok (.iconst 4, 1) := by decide +kernel
theorem dX12_offer_115 : decode cX12_offer 115 = .ok (.iload 5, 2) := by decide +kernel
theorem dX12_offer_117 : decode cX12_offer 117 = .ok (.imul, 1) := by decide +kernel
theorem dX12_offer_118 : decode cX12_offer 118 = .ok (.iload_n 1, 1) := by decide +kernel
theorem dX12_offer_119 : decode cX12_offer 119 = .ok (.iadd, 1) := by decide +kernel
theorem dX12_offer_120 : decode cX12_offer 120 = .ok (.iaload, 1) := by decide +kernel
theorem dX12_offer_121 : decode cX12_offer 121 = .ok (.iadd, 1) := by decide +kernel
theorem dX12_offer_122 : decode cX12_offer 122 = .ok (.iastore, 1) := by decide +kernel
theorem dX12_offer_123 : decode cX12_offer 123 = .ok (.goto 149, 3) := by decide +kernel
theorem dX12_offer_126 : decode cX12_offer 126 = .ok (.aload_n 0, 1) := by decide +kernel
theorem dX12_offer_127 : decode cX12_offer 127 = .ok (.getfield 22, 3) := by decide +kernel
theorem dX12_offer_130 : decode cX12_offer 130 = .ok (.bipush 36, 2) := by decide +kernel
theorem dX12_offer_132 : decode cX12_offer 132 = .ok (.iload 4, 2) := by decide +kernel
theorem dX12_offer_134 : decode cX12_offer 134 = .ok (.iadd, 1) := by decide +kernel
theorem dX12_offer_135 : decode cX12_offer 135 = .ok (.dup2, 1) := by decide +kernel
theorem dX12_offer_136 : decode cX12_offer 136 = .ok (.iaload, 1) := by decide +kernel
theorem dX12_offer_137 : decode cX12_offer 137 = .ok (.iconst 1, 1) := by decide +kernel
theorem dX12_offer_138 : decode cX12_offer 138 = .ok (.iadd, 1) := by decide +kernel
theorem dX12_offer_139 : decode cX12_offer 139 = .ok (.iastore, 1) := by decide +kernel
theorem dX12_offer_140 : decode cX12_offer 140 = .ok (.aload_n 0, 1) := by decide +kernel
theorem dX12_offer_141 : decode cX12_offer 141 = .ok (.getfield 22, 3) := by decide +kernel
theorem dX12_offer_144 : decode cX12_offer 144 = .ok (.bipush 36, 2) := by decide +kernel
theorem dX12_offer_146 : decode cX12_offer 146 = .ok (.iload 4, 2) := by decide +kernel
theorem dX12_offer_148 : decode cX12_offer 148 = .ok (.iadd, 1) := by decide +kernel
theorem dX12_offer_149 : decode cX12_offer 149 = .ok (.iaload, 1) := by decide +kernel
theorem dX12_offer_150 : decode cX12_offer 150 = .ok (.aload_n 0, 1) := by decide +kernel
theorem dX12_offer_151 : decode cX12_offer 151 = .ok (.getfield 41, 3) := by decide +kernel
theorem dX12_offer_154 : decode cX12_offer 154 = .ok (.iconst 1, 1) := by decide +kernel
theorem dX12_offer_155 : decode cX12_offer 155 = .ok (.iaload, 1) := by decide +kernel
theorem dX12_offer_156 : decode cX12_offer 156 = .ok (.if_icmp .le 37, 3) := by decide +kernel
theorem dX12_offer_159 : decode cX12_offer 159 = .ok (.aload_n 0, 1) := by decide +kernel
theorem dX12_offer_160 : decode cX12_offer 160 = .ok (.getfield 41, 3) := by decide +kernel
theorem dX12_offer_163 : decode cX12_offer 163 = .ok (.iconst 2, 1) := by decide +kernel
theorem dX12_offer_164 : decode cX12_offer 164 = .ok (.iaload, 1) := by decide +kernel
theorem dX12_offer_165 : decode cX12_offer 165 = .ok (.ifCond .ne 28, 3) := by decide +kernel
theorem dX12_offer_168 : decode cX12_offer 168 = .ok (.aload_n 0, 1) := by decide +kernel
theorem dX12_offer_169 : decode cX12_offer 169 = .ok (.getfield 31, 3) := by decide +kernel
theorem dX12_offer_172 : decode cX12_offer 172 = .ok (.iload 4, 2) := by decide +kernel
theorem dX12_offer_174 : decode cX12_offer 174 = .ok (.iconst 1, 1) := by decide +kernel
theorem dX12_offer_175 : decode cX12_offer 175 = .ok (.bastore, 1) := by decide +kernel
theorem dX12_offer_176 : decode cX12_offer 176 = .ok (.aload_n 0, 1) := by decide +kernel
theorem dX12_offer_177 : decode cX12_offer 177 = .ok (.getfield 22, 3) := by decide +kernel
theorem dX12_offer_180 : decode cX12_offer 180 = .ok (.bipush 72, 2) := by decide +kernel
theorem dX12_offer_182 : decode cX12_offer 182 = .ok (.iload 5, 2) := by decide +kernel
theorem dX12_offer_184 : decode cX12_offer 184 = .ok (.iadd, 1) := by decide +kernel
theorem dX12_offer_185 : decode cX12_offer 185 = .ok (.dup2, 1) := by decide +kernel
theorem dX12_offer_186 : decode cX12_offer 186 = .ok (.iaload, 1) := by decide +kernel
theorem dX12_offer_187 : decode cX12_offer 187 = .ok (.iconst 1, 1) := by decide +kernel
theorem dX12_offer_188 : decode cX12_offer 188 = .ok (.iadd, 1) := by decide +kernel
theorem dX12_offer_189 : decode cX12_offer 189 = .ok (.iastore, 1) := by decide +kernel
theorem dX12_offer_190 : decode cX12_offer 190 = .ok (.goto 82, 3) := by decide +kernel
theorem dX12_offer_193 : decode cX12_offer 193 = .ok (.aload_n 0, 1) := by decide +kernel
theorem dX12_offer_194 : decode cX12_offer 194 = .ok (.getfield 22, 3) := by decide +kernel
theorem dX12_offer_197 : decode cX12_offer 197 = .ok (.bipush 36, 2) := by decide +kernel
theorem dX12_offer_199 : decode cX12_offer 199 = .ok (.iload 4, 2) := by decide +kernel
theorem dX12_offer_201 : decode cX12_offer 201 = .ok (.iadd, 1) := by decide +kernel
theorem dX12_offer_202 : decode cX12_offer 202 = .ok (.iaload, 1) := by decide +kernel
theorem dX12_offer_203 : decode cX12_offer 203 = .ok (.aload_n 0, 1) := by decide +kernel
theorem dX12_offer_204 : decode cX12_offer 204 = .ok (.getfield 41, 3) := by decide +kernel
theorem dX12_offer_207 : decode cX12_offer 207 = .ok (.iconst 1, 1) := by decide +kernel
theorem dX12_offer_208 : decode cX12_offer 208 = .ok (.iaload, 1) := by decide +kernel
theorem dX12_offer_209 : decode cX12_offer 209 = .ok (.if_icmp .le 63, 3) := by decide +kernel
theorem dX12_offer_212 : decode cX12_offer 212 = .ok (.aload_n 0, 1) := by decide +kernel
theorem dX12_offer_213 : decode cX12_offer 213 = .ok (.getfield 41, 3) := by decide +kernel
theorem dX12_offer_216 : decode cX12_offer 216 = .ok (.iconst 2, 1) := by decide +kernel
theorem dX12_offer_217 : decode cX12_offer 217 = .ok (.iaload, 1) := by decide +kernel
theorem dX12_offer_218 : decode cX12_offer 218 = .ok (.iconst 1, 1) := by decide +kernel
theorem dX12_offer_219 : decode cX12_offer 219 = .ok (.if_icmp .ne 53, 3) := by decide +kernel
theorem dX12_offer_222 : decode cX12_offer 222 = .ok (.aload_n 0, 1) := by decide +kernel
theorem dX12_offer_223 : decode cX12_offer 223 = .ok (.getfield 22, 3) := by decide +kernel
theorem dX12_offer_226 : decode cX12_offer 226 = .ok (.bipush 12, 2) := by decide +kernel
theorem dX12_offer_228 : decode cX12_offer 228 = .ok (.iload 4, 2) := by decide +kernel
theorem dX12_offer_230 : decode cX12_offer 230 = .ok (.iadd, 1) := by decide +kernel
theorem dX12_offer_231 : decode cX12_offer 231 = .ok (.aload_n 0, 1) := by decide +kernel
theorem dX12_offer_232 : decode cX12_offer 232 = .ok (.getfield 22, 3) := by decide +kernel
theorem dX12_offer_235 : decode cX12_offer 235 = .ok (.bipush 85, 2) := by decide +kernel
theorem dX12_offer_237 : decode cX12_offer 237 = .ok (.iaload, 1) := by decide +kernel
theorem dX12_offer_238 : decode cX12_offer 238 = .ok (.iastore, 1) := by decide +kernel
theorem dX12_offer_239 : decode cX12_offer 239 = .ok (.aload_n 0, 1) := by decide +kernel
theorem dX12_offer_240 : decode cX12_offer 240 = .ok (.getfield 22, 3) := by decide +kernel
theorem dX12_offer_243 : decode cX12_offer 243 = .ok (.bipush 85, 2) := by decide +kernel
theorem dX12_offer_245 : decode cX12_offer 245 = .ok (.dup2, 1) := by decide +kernel
theorem dX12_offer_246 : decode cX12_offer 246 = .ok (.iaload, 1) := by decide +kernel
theorem dX12_offer_247 : decode cX12_offer 247 = .ok (.iconst 1, 1) := by decide +kernel
theorem dX12_offer_248 : decode cX12_offer 248 = .ok (.iadd, 1) := by decide +kernel
theorem dX12_offer_249 : decode cX12_offer 249 = .ok (.iastore, 1) := by decide +kernel
theorem dX12_offer_250 : decode cX12_offer 250 = .ok (.aload_n 0, 1) := by decide +kernel
theorem dX12_offer_251 : decode cX12_offer 251 = .ok (.getfield 22, 3) := by decide +kernel
theorem dX12_offer_254 : decode cX12_offer 254 = .ok (.bipush 24, 2) := by decide +kernel
theorem dX12_offer_256 : decode cX12_offer 256 = .ok (.iload 4, 2) := by decide +kernel
theorem dX12_offer_258 : decode cX12_offer 258 = .ok (.iadd, 1) := by decide +kernel
theorem dX12_offer_259 : decode cX12_offer 259 = .ok (.iconst 0, 1) := by decide +kernel
theorem dX12_offer_260 : decode cX12_offer 260 = .ok (.iastore, 1) := by decide +kernel
theorem dX12_offer_261 : decode cX12_offer 261 = .ok (.aload_n 0, 1) := by decide +kernel
theorem dX12_offer_262 : decode cX12_offer 262 = .ok (.getfield 22, 3) := by decide +kernel
theorem dX12_offer_265 : decode cX12_offer 265 = .ok (.bipush 36, 2) := by decide +kernel
theorem dX12_offer_267 : decode cX12_offer 267 = .ok (.iload 4, 2) := by decide +kernel
theorem dX12_offer_269 : decode cX12_offer 269 = .ok (.iadd, 1) := by decide +kernel
theorem dX12_offer_270 : decode cX12_offer 270 = .ok (.iconst 0, 1) := by decide +kernel
theorem dX12_offer_271 : decode cX12_offer 271 = .ok (.iastore, 1) := by decide +kernel
theorem dX12_offer_272 : decode cX12_offer 272 = .ok (.iinc 3 1, 3) := by decide +kernel
theorem dX12_offer_275 : decode cX12_offer 275 = .ok (.goto (-267), 3) := by decide +kernel
theorem dX12_offer_278 : decode cX12_offer 278 = .ok (.aload_n 0, 1) := by decide +kernel
theorem dX12_offer_279 : decode cX12_offer 279 = .ok (.getfield 22, 3) := by decide +kernel
theorem dX12_offer_282 : decode cX12_offer 282 = .ok (.bipush 87, 2) := by decide +kernel
theorem dX12_offer_284 : decode cX12_offer 284 = .ok (.dup2, 1) := by decide +kernel
theorem dX12_offer_285 : decode cX12_offer 285 = .ok (.iaload, 1) := by decide +kernel
theorem dX12_offer_286 : decode cX12_offer 286 = .ok (.iload_n 2, 1) := by decide +kernel
theorem dX12_offer_287 : decode cX12_offer 287 = .ok (.ifCond .eq 7, 3) := by decide +kernel
theorem dX12_offer_290 : decode cX12_offer 290 = .ok (.iconst 0, 1) := by decide +kernel
theorem dX12_offer_291 : decode cX12_offer 291 = .ok (.goto 4, 3) := by decide +kernel
theorem dX12_offer_294 : decode cX12_offer 294 = .ok (.iconst 1, 1) := by decide +kernel
theorem dX12_offer_295 : decode cX12_offer 295 = .ok (.iadd, 1) := by decide +kernel
theorem dX12_offer_296 : decode cX12_offer 296 = .ok (.iastore, 1) := by decide +kernel
theorem dX12_offer_297 : decode cX12_offer 297 = .ok (.return_, 1) := by decide +kernel
theorem dX12_goWeek_0 : decode cX12_goWeek 0 = .ok (.iconst 0, 1) := by decide +kernel
theorem dX12_goWeek_1 : decode cX12_goWeek 1 = .ok (.istore_n 1, 1) := by decide +kernel
theorem dX12_goWeek_2 : decode cX12_goWeek 2 = .ok (.iload_n 1, 1) := by decide +kernel
theorem dX12_goWeek_3 : decode cX12_goWeek 3 = .ok (.bipush 12, 2) := by decide +kernel
theorem dX12_goWeek_5 : decode cX12_goWeek 5 = .ok (.if_icmp .ge 16, 3) := by decide +kernel
theorem dX12_goWeek_8 : decode cX12_goWeek 8 = .ok (.aload_n 0, 1) := by decide +kernel
theorem dX12_goWeek_9 : decode cX12_goWeek 9 = .ok (.getfield 31, 3) := by decide +kernel
theorem dX12_goWeek_12 : decode cX12_goWeek 12 = .ok (.iload_n 1, 1) := by decide +kernel
theorem dX12_goWeek_13 : decode cX12_goWeek 13 = .ok (.iconst 0, 1) := by decide +kernel
theorem dX12_goWeek_14 : decode cX12_goWeek 14 = .ok (.bastore, 1) := by decide +kernel
theorem dX12_goWeek_15 : decode cX12_goWeek 15 = .ok (.iinc 1 1, 3) := by decide +kernel
theorem dX12_goWeek_18 : decode cX12_goWeek 18 = .ok (.goto (-16), 3) := by decide +kernel
theorem dX12_goWeek_21 : decode cX12_goWeek 21 = .ok (.aload_n 0, 1) := by decide +kernel
theorem dX12_goWeek_22 : decode cX12_goWeek 22 = .ok (.getfield 83, 3) := by decide +kernel
theorem dX12_goWeek_25 : decode cX12_goWeek 25 = .ok (.ifCond .ne 7, 3) := by decide +kernel
theorem dX12_goWeek_28 : decode cX12_goWeek 28 = .ok (.iconst (-1), 1) := by decide +kernel
theorem dX12_goWeek_29 : decode cX12_goWeek 29 = .ok (.goto 20, 3) := by decide +kernel
theorem dX12_goWeek_32 : decode cX12_goWeek 32 = .ok (.aload_n 0, 1) := by decide +kernel
theorem dX12_goWeek_33 : decode cX12_goWeek 33 = .ok (.getfield 16, 3) := by decide +kernel
theorem dX12_goWeek_36 : decode cX12_goWeek 36 = .ok (.aload_n 0, 1) := by decide +kernel
theorem dX12_goWeek_37 : decode cX12_goWeek 37 = .ok (.getfield 22, 3) := by decide +kernel
theorem dX12_goWeek_40 : decode cX12_goWeek 40 = .ok (.bipush 86, 2) := by decide +kernel
theorem dX12_goWeek_42 : decode cX12_goWeek 42 = .ok (.iaload, 1) := by decide +kernel
theorem dX12_goWeek_43 : decode cX12_goWeek 43 = .ok (.aload_n 0, 1) := by decide +kernel
theorem dX12_goWeek_44 : decode cX12_goWeek 44 = .ok (.getfield 83, 3) := by decide +kernel
theorem dX12_goWeek_47 : decode cX12_goWeek 47 = .ok (.irem, 1) := by decide +kernel
theorem dX12_goWeek_48 : decode cX12_goWeek 48 = .ok (.iaload, 1) := by decide +kernel
theorem dX12_goWeek_49 : decode cX12_goWeek 49 = .ok (.istore_n 1, 1) := by decide +kernel
theorem dX12_goWeek_50 : decode cX12_goWeek 50 = .ok (.iload_n 1, 1) := by decide +kernel
theorem dX12_goWeek_51 : decode cX12_goWeek 51 = .ok (.iconst (-1), 1) := by decide +kernel
theorem dX12_goWeek_52 : decode cX12_goWeek 52 = .ok (.if_icmp .eq 8, 3) := by decide +kernel
theorem dX12_goWeek_55 : decode cX12_goWeek 55 = .ok (.aload_n 0, 1) := by decide +kernel
theorem dX12_goWeek_56 : decode cX12_goWeek 56 = .ok (.iload_n 1, 1) := by decide +kernel
theorem dX12_goWeek_57 : decode cX12_goWeek 57 = .ok (.invokevirtual 104, 3) := by decide +kernel
theorem dX12_goWeek_60 : decode cX12_goWeek 60 = .ok (.iconst 0, 1) := by decide +kernel
theorem dX12_goWeek_61 : decode cX12_goWeek 61 = .ok (.istore_n 2, 1) := by decide +kernel
theorem dX12_goWeek_62 : decode cX12_goWeek 62 = .ok (.iconst 0, 1) := by decide +kernel
theorem dX12_goWeek_63 : decode cX12_goWeek 63 = .ok (.istore_n 3, 1) := by decide +kernel
theorem dX12_goWeek_64 : decode cX12_goWeek 64 = .ok (.iload_n 3, 1) := by decide +kernel
theorem dX12_goWeek_65 : decode cX12_goWeek 65 = .ok (.aload_n 0, 1) := by decide +kernel
theorem dX12_goWeek_66 : decode cX12_goWeek 66 = .ok (.getfield 22, 3) := by decide +kernel
theorem dX12_goWeek_69 : decode cX12_goWeek 69 = .ok (.bipush 84, 2) := by decide +kernel
theorem dX12_goWeek_71 : decode cX12_goWeek 71 = .ok (.iaload, 1) := by decide +kernel
theorem dX12_goWeek_72 : decode cX12_goWeek 72 = .ok (.if_icmp .ge 55, 3) := by decide +kernel
theorem dX12_goWeek_75 : decode cX12_goWeek 75 = .ok (.aload_n 0, 1) := by decide +kernel
theorem dX12_goWeek_76 : decode cX12_goWeek 76 = .ok (.getfield 31, 3) := by decide +kernel
theorem dX12_goWeek_79 : decode cX12_goWeek 79 = .ok (.iload_n 3, 1) := by decide +kernel
theorem dX12_goWeek_80 : decode cX12_goWeek 80 = .ok (.baload, 1) := by decide +kernel
theorem dX12_goWeek_81 : decode cX12_goWeek 81 = .ok (.ifCond .ne 40, 3) := by decide +kernel
theorem dX12_goWeek_84 : decode cX12_goWeek 84 = .ok (.iconst 0, 1) := by decide +kernel
theorem dX12_goWeek_85 : decode cX12_goWeek 85 = .ok (.istore 4, 2) := by decide +kernel
theorem dX12_goWeek_87 : decode cX12_goWeek 87 = .ok (.iload 4, 2) := by decide +kernel
theorem dX12_goWeek_89 : decode cX12_goWeek 89 = .ok (.bipush 60, 2) := by decide +kernel
theorem dX12_goWeek_91 : decode cX12_goWeek 91 = .ok (.if_icmp .ge 27, 3) := by decide +kernel
theorem dX12_goWeek_94 : decode cX12_goWeek 94 = .ok (.aload_n 0, 1) := by decide +kernel
theorem dX12_goWeek_95 : decode cX12_goWeek 95 = .ok (.getfield 22, 3) := by decide +kernel
theorem dX12_goWeek_98 : decode cX12_goWeek 98 = .ok (.iload 4, 2) := by decide +kernel
theorem dX12_goWeek_100 : decode cX12_goWeek 100 = .ok (.iload_n 2, 1) := by decide +kernel
theorem dX12_goWeek_101 : decode cX12_goWeek 101 = .ok (.iadd, 1) := by decide +kernel
theorem dX12_goWeek_102 : decode cX12_goWeek 102 = .ok (.aload_n 0, 1) := by decide +kernel
theorem dX12_goWeek_103 : decode cX12_goWeek 103 = .ok (.getfield 22, 3) := by decide +kernel
theorem dX12_goWeek_106 : decode cX12_goWeek 106 = .ok (.iload 4, 2) := by decide +kernel
theorem dX12_goWeek_108 : decode cX12_goWeek 108 = .ok (.iload_n 3, 1) := by decide +kernel
theorem dX12_goWeek_109 : decode cX12_goWeek 109 = .ok (.iadd, 1) := by decide +kernel
theorem dX12_goWeek_110 : decode cX12_goWeek 110 = .ok (.iaload, 1) := by decide +kernel
theorem dX12_goWeek_111 : decode cX12_goWeek 111 = .ok (.iastore, 1) := by decide +kernel
theorem dX12_goWeek_112 : decode cX12_goWeek 112 = .ok (.iinc 4 12, 3) := by decide +kernel
theorem dX12_goWeek_115 : decode cX12_goWeek 115 = .ok (.goto (-28), 3) := by decide +kernel
theorem dX12_goWeek_118 : decode cX12_goWeek 118 = .ok (.iinc 2 1, 3) := by decide +kernel
theorem dX12_goWeek_121 : decode cX12_goWeek 121 = .ok (.iinc 3 1, 3) := by decide +kernel
theorem dX12_goWeek_124 : decode cX12_goWeek 124 = .ok (.goto (-60), 3) := by decide +kernel
theorem dX12_goWeek_127 : decode cX12_goWeek 127 = .ok (.aload_n 0, 1) := by decide +kernel
theorem dX12_goWeek_128 : decode cX12_goWeek 128 = .ok (.getfield 22, 3) := by decide +kernel
theorem dX12_goWeek_131 : decode cX12_goWeek 131 = .ok (.bipush 84, 2) := by decide +kernel
theorem dX12_goWeek_133 : decode cX12_goWeek 133 = .ok (.iload_n 2, 1) := by decide +kernel
theorem dX12_goWeek_134 : decode cX12_goWeek 134 = .ok (.iastore, 1) := by decide +kernel
theorem dX12_goWeek_135 : decode cX12_goWeek 135 = .ok (.aload_n 0, 1) := by decide +kernel
theorem dX12_goWeek_136 : decode cX12_goWeek 136 = .ok (.getfield 87, 3) := by decide +kernel
theorem dX12_goWeek_139 : decode cX12_goWeek 139 = .ok (.ifCond .ne 7, 3) := by decide +kernel
theorem dX12_goWeek_142 : decode cX12_goWeek 142 = .ok (.iconst (-1), 1) := by decide +kernel
theorem dX12_goWeek_143 : decode cX12_goWeek 143 = .ok (.goto 20, 3) := by decide +kernel
theorem dX12_goWeek_146 : decode cX12_goWeek 146 = .ok (.aload_n 0, 1) := by decide +kernel
theorem dX12_goWeek_147 : decode cX12_goWeek 147 = .ok (.getfield 19, 3) := by decide +kernel
theorem dX12_goWeek_150 : decode cX12_goWeek 150 = .ok (.aload_n 0, 1) := by decide +kernel
theorem dX12_goWeek_151 : decode cX12_goWeek 151 = .ok (.getfield 22, 3) := by decide +kernel
theorem dX12_goWeek_154 : decode cX12_goWeek 154 = .ok (.bipush 86, 2) := by decide +kernel
theorem dX12_goWeek_156 : decode cX12_goWeek 156 = .ok (.iaload, 1) := by decide +kernel
theorem dX12_goWeek_157 : decode cX12_goWeek 157 = .ok (.aload_n 0, 1) := by decide +kernel
theorem dX12_goWeek_158 : decode cX12_goWeek 158 = .ok (.getfield 87, 3) := by decide +kernel
theorem dX12_goWeek_161 : decode cX12_goWeek 161 = .ok (.irem, 1) := by decide +kernel
theorem dX12_goWeek_162 : decode cX12_goWeek 162 = .ok (.iaload, 1) := by decide +kernel
theorem dX12_goWeek_163 : decode cX12_goWeek 163 = .ok (.istore_n 3, 1) := by decide +kernel
theorem dX12_goWeek_164 : decode cX12_goWeek 164 = .ok (.iload_n 3, 1) := by decide +kernel
theorem dX12_goWeek_165 : decode cX12_goWeek 165 = .ok (.iconst (-1), 1) := by decide +kernel
theorem dX12_goWeek_166 : decode cX12_goWeek 166 = .ok (.if_icmp .eq 25, 3) := by decide +kernel
theorem dX12_goWeek_169 : decode cX12_goWeek 169 = .ok (.iload_n 2, 1) := by decide +kernel
theorem dX12_goWeek_170 : decode cX12_goWeek 170 = .ok (.bipush 12, 2) := by decide +kernel
theorem dX12_goWeek_172 : decode cX12_goWeek 172 = .ok (.if_icmp .ne 19, 3) := by decide +kernel
theorem dX12_goWeek_175 : decode cX12_goWeek 175 = .ok (.aload_n 0, 1) := by decide +kernel
theorem dX12_goWeek_176 : decode cX12_goWeek 176 = .ok (.getfield 22, 3) := by decide +kernel
theorem dX12_goWeek_179 : decode cX12_goWeek 179 = .ok (.bipush 76, 2) := by decide +kernel
theorem dX12_goWeek_181 : decode cX12_goWeek 181 = .ok (.iload_n 3, 1) := by decide +kernel
theorem dX12_goWeek_182 : decode cX12_goWeek 182 = .ok (.iadd, 1) := by decide +kernel
theorem dX12_goWeek_183 : decode cX12_goWeek 183 = .ok (.dup2, 1) := by decide +kernel
theorem dX12_goWeek_184 : decode cX12_goWeek 184 = .ok (.iaload, 1) := by decide +kernel
theorem dX12_goWeek_185 : decode cX12_goWeek 185 = .ok (.iconst 1, 1) := by decide +kernel
theorem dX12_goWeek_186 : decode cX12_goWeek 186 = .ok (.iadd, 1) := by decide +kernel
theorem dX12_goWeek_187 : decode cX12_goWeek 187 = .ok (.iastore, 1) := by decide +kernel
theorem dX12_goWeek_188 : decode cX12_goWeek 188 = .ok (.goto 13, 3) := by decide +kernel
theorem dX12_goWeek_191 : decode cX12_goWeek 191 = .ok (.iload_n 3, 1) := by decide +kernel
theorem dX12_goWeek_192 : decode cX12_goWeek 192 = .ok (.iconst (-1), 1) := by decide +kernel
theorem dX12_goWeek_193 : decode cX12_goWeek 193 = .ok (.if_icmp .eq 8, 3) := by decide +kernel
theorem dX12_goWeek_196 : decode cX12_goWeek 196 = .ok (.aload_n 0, 1) := by decide +kernel
theorem dX12_goWeek_197 : decode cX12_goWeek 197 = .ok (.iload_n 3, 1) := by decide +kernel
theorem dX12_goWeek_198 : decode cX12_goWeek 198 = .ok (.invokevirtual 90, 3) := by decide +kernel
theorem dX12_goWeek_201 : decode cX12_goWeek 201 = .ok (.iconst 0, 1) := by decide +kernel
theorem dX12_goWeek_202 : decode cX12_goWeek 202 = .ok (.istore 4, 2) := by decide +kernel
theorem dX12_goWeek_204 : decode cX12_goWeek 204 = .ok (.iload 4, 2) := by decide +kernel
theorem dX12_goWeek_206 : decode cX12_goWeek 206 = .ok (.aload_n 0, 1) := by decide +kernel
theorem dX12_goWeek_207 : decode cX12_goWeek 207 = .ok (.getfield 22, 3) := by decide +kernel
theorem dX12_goWeek_210 : decode cX12_goWeek 210 = .ok (.bipush 84, 2) := by decide +kernel
theorem dX12_goWeek_212 : decode cX12_goWeek 212 = .ok (.iaload, 1) := by decide +kernel
theorem dX12_goWeek_213 : decode cX12_goWeek 213 = .ok (.if_icmp .ge 111, 3) := by decide +kernel
theorem dX12_goWeek_216 : decode cX12_goWeek 216 = .ok (.aload_n 0, 1) := by decide +kernel
theorem dX12_goWeek_217 : decode cX12_goWeek 217 = .ok (.getfield 22, 3) := by decide +kernel
theorem dX12_goWeek_220 : decode cX12_goWeek 220 = .ok (.bipush 48, 2) := by decide +kernel
theorem dX12_goWeek_222 : decode cX12_goWeek 222 = .ok (.iload 4, 2) := by decide +kernel
theorem dX12_goWeek_224 : decode cX12_goWeek 224 = .ok (.iadd, 1) := by decide +kernel
theorem dX12_goWeek_225 : decode cX12_goWeek 225 = .ok (.dup2, 1) := by decide +kernel
theorem dX12_goWeek_226 : decode cX12_goWeek 226 = .ok (.iaload, 1) := by decide +kernel
theorem dX12_goWeek_227 : decode cX12_goWeek 227 = .ok (.iconst 1, 1) := by decide +kernel
theorem dX12_goWeek_228 : decode cX12_goWeek 228 = .ok (.iadd, 1) := by decide +kernel
theorem dX12_goWeek_229 : decode cX12_goWeek 229 = .ok (.iastore, 1) := by decide +kernel
theorem dX12_goWeek_230 : decode cX12_goWeek 230 = .ok (.aload_n 0, 1) := by decide +kernel
theorem dX12_goWeek_231 : decode cX12_goWeek 231 = .ok (.getfield 22, 3) := by decide +kernel
theorem dX12_goWeek_234 : decode cX12_goWeek 234 = .ok (.bipush 24, 2) := by decide +kernel
theorem dX12_goWeek_236 : decode cX12_goWeek 236 = .ok (.iload 4, 2) := by decide +kernel
theorem dX12_goWeek_238 : decode cX12_goWeek 238 = .ok (.iadd, 1) := by decide +kernel
theorem dX12_goWeek_239 : decode cX12_goWeek 239 = .ok (.aload_n 0, 1) := by decide +kernel
theorem dX12_goWeek_240 : decode cX12_goWeek 240 = .ok (.getfield 22, 3) := by decide +kernel
theorem dX12_goWeek_243 : decode cX12_goWeek 243 = .ok (.bipush 24, 2) := by decide +kernel
theorem dX12_goWeek_245 : decode cX12_goWeek 245 = .ok (.iload 4, 2) := by decide +kernel
theorem dX12_goWeek_247 : decode cX12_goWeek 247 = .ok (.iadd, 1) := by decide +kernel
theorem dX12_goWeek_248 : decode cX12_goWeek 248 = .ok (.iaload, 1) := by decide +kernel
theorem dX12_goWeek_249 : decode cX12_goWeek 249 = .ok (.aload_n 0, 1) := by decide +kernel
theorem dX12_goWeek_250 : decode cX12_goWeek 250 = .ok (.getfield 41, 3) := by decide +kernel
theorem dX12_goWeek_253 : decode cX12_goWeek 253 = .ok (.iconst 3, 1) := by decide +kernel
theorem dX12_goWeek_254 : decode cX12_goWeek 254 = .ok (.iaload, 1) := by decide +kernel
theorem dX12_goWeek_255 : decode cX12_goWeek 255 = .ok (.iadd, 1) := by decide +kernel
theorem dX12_goWeek_256 : decode cX12_goWeek 256 = .ok (.bipush 99, 2) := by decide +kernel
theorem dX12_goWeek_258 : decode cX12_goWeek 258 = .ok (.if_icmp .le 8, 3) := by decide +kernel
theorem dX12_goWeek_261 : decode cX12_goWeek 261 = .ok (.bipush 99, 2) := by decide +kernel
theorem dX12_goWeek_263 : decode cX12_goWeek 263 = .ok (.goto 20, 3) := by decide +kernel
theorem dX12_goWeek_266 : decode cX12_goWeek 266 = .ok (.aload_n 0, 1) := by decide +kernel
theorem dX12_goWeek_267 : decode cX12_goWeek 267 = .ok (.getfield 22, 3) := by decide +kernel
theorem dX12_goWeek_270 : decode cX12_goWeek 270 = .ok (.bipush 24, 2) := by decide +kernel
theorem dX12_goWeek_272 : decode cX12_goWeek 272 = .ok (.iload 4, 2) := by decide +kernel
theorem dX12_goWeek_274 : decode cX12_goWeek 274 = .ok (.iadd, 1) := by decide +kernel
theorem dX12_goWeek_275 : decode cX12_goWeek 275 = .ok (.iaload, 1) := by decide +kernel
theorem dX12_goWeek_276 : decode cX12_goWeek 276 = .ok (.aload_n 0, 1) := by decide +kernel
theorem dX12_goWeek_277 : decode cX12_goWeek 277 = .ok (.getfield 41, 3) := by decide +kernel
theorem dX12_goWeek_280 : decode cX12_goWeek 280 = .ok (.iconst 3, 1) := by decide +kernel
theorem dX12_goWeek_281 : decode cX12_goWeek 281 = .ok (.iaload, 1) := by decide +kernel
theorem dX12_goWeek_282 : decode cX12_goWeek 282 = .ok (.iadd, 1) := by decide +kernel
theorem dX12_goWeek_283 : decode cX12_goWeek 283 = .ok (.iastore, 1) := by decide +kernel
theorem dX12_goWeek_284 : decode cX12_goWeek 284 = .ok (.aload_n 0, 1) := by decide +kernel
theorem dX12_goWeek_285 : decode cX12_goWeek 285 = .ok (.getfield 22, 3) := by decide +kernel
theorem dX12_goWeek_288 : decode cX12_goWeek 288 = .ok (.bipush 80, 2) := by decide +kernel
theorem dX12_goWeek_290 : decode cX12_goWeek 290 = .ok (.aload_n 0, 1) := by decide +kernel
theorem dX12_goWeek_291 : decode cX12_goWeek 291 = .ok (.getfield 22, 3) := by decide +kernel
theorem dX12_goWeek_294 : decode cX12_goWeek 294 = .ok (.iconst 0, 1) := by decide +kernel
theorem dX12_goWeek_295 : decode cX12_goWeek 295 = .ok (.iload 4, 2) := by decide +kernel
theorem dX12_goWeek_297 : decode cX12_goWeek 297 = .ok (.iadd, 1) := by decide +kernel
theorem dX12_goWeek_298 : decode cX12_goWeek 298 = .ok (.iaload, 1) := by decide +kernel
theorem dX12_goWeek_299 : decode cX12_goWeek 299 = .ok (.iadd, 1) := by decide +kernel
theorem dX12_goWeek_300 : decode cX12_goWeek 300 = .ok (.dup2, 1) := by decide +kernel
theorem dX12_goWeek_301 : decode cX12_goWeek 301 = .ok (.iaload, 1) := by decide +kernel
theorem dX12_goWeek_302 : decode cX12_goWeek 302 = .ok (.aload_n 0, 1) := by decide +kernel
theorem dX12_goWeek_303 : decode cX12_goWeek 303 = .ok (.getfield 13, 3) := by decide +kernel
theorem dX12_goWeek_306 : decode cX12_goWeek 306 = .ok (.aload_n 0, 1) := by decide +kernel
theorem dX12_goWeek_307 : decode cX12_goWeek 307 = .ok (.getfield 22, 3) := by decide +kernel
theorem dX12_goWeek_310 : decode cX12_goWeek 310 = .ok (.iconst 0, 1) := by decide +kernel
theorem dX12_goWeek_311 : decode cX12_goWeek 311 = .ok (.iload 4, 2) := by decide +kernel
theorem dX12_goWeek_313 : decode cX12_goWeek 313 = .ok (.iadd, 1) := by decide +kernel
theorem dX12_goWeek_314 : decode cX12_goWeek 314 = .ok (.iaload, 1) := by decide +kernel
theorem dX12_goWeek_315 : decode cX12_goWeek 315 = .ok (.iaload, 1) := by decide +kernel
theorem dX12_goWeek_316 : decode cX12_goWeek 316 = .ok (.iadd, 1) := by decide +kernel
theorem dX12_goWeek_317 : decode cX12_goWeek 317 = .ok (.iastore, 1) := by decide +kernel
theorem dX12_goWeek_318 : decode cX12_goWeek 318 = .ok (.iinc 4 1, 3) := by decide +kernel
theorem dX12_goWeek_321 : decode cX12_goWeek 321 = .ok (.goto (-117), 3) := by decide +kernel
theorem dX12_goWeek_324 : decode cX12_goWeek 324 = .ok (.aload_n 0, 1) := by decide +kernel
theorem dX12_goWeek_325 : decode cX12_goWeek 325 = .ok (.getfield 22, 3) := by decide +kernel
theorem dX12_goWeek_328 : decode cX12_goWeek 328 = .ok (.bipush 86, 2) := by decide +kernel
theorem dX12_goWeek_330 : decode cX12_goWeek 330 = .ok (.dup2, 1) := by decide +kernel
theorem dX12_goWeek_331 : decode cX12_goWeek 331 = .ok (.iaload, 1) := by decide +kernel
theorem dX12_goWeek_332 : decode cX12_goWeek 332 = .ok (.iconst 1, 1) := by decide +kernel
theorem dX12_goWeek_333 : decode cX12_goWeek 333 = .ok (.iadd, 1) := by decide +kernel
theorem dX12_goWeek_334 : decode cX12_goWeek 334 = .ok (.iastore, 1) := by decide +kernel
theorem dX12_goWeek_335 : decode cX12_goWeek 335 = .ok (.return_, 1) := by decide +kernel
theorem dX12_run_0 : decode cX12_run 0 = .ok (.iload_n 1, 1) := by decide +kernel
theorem dX12_run_1 : decode cX12_run 1 = .ok (.iconst 1, 1) := by decide +kernel
theorem dX12_run_2 : decode cX12_run 2 = .ok (.bipush 100, 2) := by decide +kernel
theorem dX12_run_4 : decode cX12_run 4 = .ok (.invokestatic 75, 3) := by decide +kernel
theorem dX12_run_7 : decode cX12_run 7 = .ok (.ifCond .eq 18, 3) := by decide +kernel
theorem dX12_run_10 : decode cX12_run 10 = .ok (.aload_n 0, 1) := by decide +kernel
theorem dX12_run_11 : decode cX12_run 11 = .ok (.getfield 22, 3) := by decide +kernel
theorem dX12_run_14 : decode cX12_run 14 = .ok (.bipush 86, 2) := by decide +kernel
theorem dX12_run_16 : decode cX12_run 16 = .ok (.iaload, 1) := by decide +kernel
theorem dX12_run_17 : decode cX12_run 17 = .ok (.iload_n 1, 1) := by decide +kernel
theorem dX12_run_18 : decode cX12_run 18 = .ok (.iadd, 1) := by decide +kernel
theorem dX12_run_19 : decode cX12_run 19 = .ok (.sipush 2000, 3) := by decide +kernel
theorem dX12_run_22 : decode cX12_run 22 = .ok (.if_icmp .le 6, 3) := by decide +kernel
theorem dX12_run_25 : decode cX12_run 25 = .ok (.bipush (-3), 2) := by decide +kernel
theorem dX12_run_27 : decode cX12_run 27 = .ok (.ireturn, 1) := by decide +kernel
theorem dX12_run_28 : decode cX12_run 28 = .ok (.iconst 0, 1) := by decide +kernel
theorem dX12_run_29 : decode cX12_run 29 = .ok (.istore_n 2, 1) := by decide +kernel
theorem dX12_run_30 : decode cX12_run 30 = .ok (.iload_n 2, 1) := by decide +kernel
theorem dX12_run_31 : decode cX12_run 31 = .ok (.iload_n 1, 1) := by decide +kernel
theorem dX12_run_32 : decode cX12_run 32 = .ok (.if_icmp .ge 13, 3) := by decide +kernel
theorem dX12_run_35 : decode cX12_run 35 = .ok (.aload_n 0, 1) := by decide +kernel
theorem dX12_run_36 : decode cX12_run 36 = .ok (.invokevirtual 107, 3) := by decide +kernel
theorem dX12_run_39 : decode cX12_run 39 = .ok (.iinc 2 1, 3) := by decide +kernel
theorem dX12_run_42 : decode cX12_run 42 = .ok (.goto (-12), 3) := by decide +kernel
theorem dX12_run_45 : decode cX12_run 45 = .ok (.aload_n 0, 1) := by decide +kernel
theorem dX12_run_46 : decode cX12_run 46 = .ok (.getfield 22, 3) := by decide +kernel
theorem dX12_run_49 : decode cX12_run 49 = .ok (.bipush 86, 2) := by decide +kernel
theorem dX12_run_51 : decode cX12_run 51 = .ok (.iaload, 1) := by decide +kernel
theorem dX12_run_52 : decode cX12_run 52 = .ok (.ireturn, 1) := by decide +kernel
theorem dX12_person_0 : decode cX12_person 0 = .ok (.iload_n 1, 1) := by decide +kernel
theorem dX12_person_1 : decode cX12_person 1 = .ok (.iconst 0, 1) := by decide +kernel
theorem dX12_person_2 : decode cX12_person 2 = .ok (.aload_n 0, 1) := by decide +kernel
theorem dX12_person_3 : decode cX12_person 3 = .ok (.getfield 22, 3) := by decide +kernel
theorem dX12_person_6 : decode cX12_person 6 = .ok (.bipush 84, 2) := by decide +kernel
theorem dX12_person_8 : decode cX12_person 8 = .ok (.iaload, 1) := by decide +kernel
theorem dX12_person_9 : decode cX12_person 9 = .ok (.iconst 1, 1) := by decide +kernel
theorem dX12_person_10 : decode cX12_person 10 = .ok (.isub, 1) := by decide +kernel
theorem dX12_person_11 : decode cX12_person 11 = .ok (.invokestatic 75, 3) := by decide +kernel
theorem dX12_person_14 : decode cX12_person 14 = .ok (.ifCond .ne 6, 3) := by decide +kernel
theorem dX12_person_17 : decode cX12_person 17 = .ok (.bipush (-2), 2) := by decide +kernel
theorem dX12_person_19 : decode cX12_person 19 = .ok (.ireturn, 1) := by decide +kernel
theorem dX12_person_20 : decode cX12_person 20 = .ok (.iload_n 2, 1) := by decide +kernel
theorem dX12_person_21 : decode cX12_person 21 = .ok (.iconst 0, 1) := by decide +kernel
theorem dX12_person_22 : decode cX12_person 22 = .ok (.iconst 4, 1) := by decide +kernel
theorem dX12_person_23 : decode cX12_person 23 = .ok (.invokestatic 75, 3) := by decide +kernel
theorem dX12_person_26 : decode cX12_person 26 = .ok (.ifCond .ne 6, 3) := by decide +kernel
theorem dX12_person_29 : decode cX12_person 29 = .ok (.bipush (-3), 2) := by decide +kernel
theorem dX12_person_31 : decode cX12_person 31 = .ok (.ireturn, 1) := by decide +kernel
theorem dX12_person_32 : decode cX12_person 32 = .ok (.aload_n 0, 1) := by decide +kernel
theorem dX12_person_33 : decode cX12_person 33 = .ok (.invokevirtual 98, 3) := by decide +kernel
theorem dX12_person_36 : decode cX12_person 36 = .ok (.aload_n 0, 1) := by decide +kernel
theorem dX12_person_37 : decode cX12_person 37 = .ok (.getfield 22, 3) := by decide +kernel
theorem dX12_person_40 : decode cX12_person 40 = .ok (.bipush 12, 2) := by decide +kernel
theorem dX12_person_42 : decode cX12_person 42 = .ok (.iload_n 2, 1) := by decide +kernel
theorem dX12_person_43 : decode cX12_person 43 = .ok (.imul, 1) := by decide +kernel
theorem dX12_person_44 : decode cX12_person 44 = .ok (.aload_n 0, 1) := by decide +kernel
theorem dX12_person_45 : decode cX12_person 45 = .ok (.getfield 28, 3) := by decide +kernel
theorem dX12_person_48 : decode cX12_person 48 = .ok (.iload_n 1, 1) := by decide +kernel
theorem dX12_person_49 : decode cX12_person 49 = .ok (.iaload, 1) := by decide +kernel
theorem dX12_person_50 : decode cX12_person 50 = .ok (.iadd, 1) := by decide +kernel
theorem dX12_person_51 : decode cX12_person 51 = .ok (.iaload, 1) := by decide +kernel
theorem dX12_person_52 : decode cX12_person 52 = .ok (.ireturn, 1) := by decide +kernel
theorem dX12_of_0 : decode cX12_of 0 = .ok (.iload_n 1, 1) := by decide +kernel
theorem dX12_of_1 : decode cX12_of 1 = .ok (.invokestatic 79, 3) := by decide +kernel
theorem dX12_of_4 : decode cX12_of 4 = .ok (.ifCond .ne 6, 3) := by decide +kernel
theorem dX12_of_7 : decode cX12_of 7 = .ok (.bipush (-2), 2) := by decide +kernel
theorem dX12_of_9 : decode cX12_of 9 = .ok (.ireturn, 1) := by decide +kernel
theorem dX12_of_10 : decode cX12_of 10 = .ok (.iload_n 2, 1) := by decide +kernel
theorem dX12_of_11 : decode cX12_of 11 = .ok (.iconst 0, 1) := by decide +kernel
theorem dX12_of_12 : decode cX12_of 12 = .ok (.iconst 5, 1) := by decide +kernel
theorem dX12_of_13 : decode cX12_of 13 = .ok (.invokestatic 75, 3) := by decide +kernel
theorem dX12_of_16 : decode cX12_of 16 = .ok (.ifCond .eq 19, 3) := by decide +kernel
theorem dX12_of_19 : decode cX12_of 19 = .ok (.aload_n 0, 1) := by decide +kernel
theorem dX12_of_20 : decode cX12_of 20 = .ok (.getfield 22, 3) := by decide +kernel
theorem dX12_of_23 : decode cX12_of 23 = .ok (.bipush 60, 2) := by decide +kernel
theorem dX12_of_25 : decode cX12_of 25 = .ok (.iconst 4, 1) := by decide +kernel
theorem dX12_of_26 : decode cX12_of 26 = .ok (.iload_n 2, 1) := by decide +kernel
theorem dX12_of_27 : decode cX12_of 27 = .ok (.imul, 1) := by decide +kernel
theorem dX12_of_28 : decode cX12_of 28 = .ok (.iadd, 1) := by decide +kernel
theorem dX12_of_29 : decode cX12_of 29 = .ok (.iload_n 1, 1) := by decide +kernel
theorem dX12_of_30 : decode cX12_of 30 = .ok (.iadd, 1) := by decide +kernel
theorem dX12_of_31 : decode cX12_of 31 = .ok (.iaload, 1) := by decide +kernel
theorem dX12_of_32 : decode cX12_of 32 = .ok (.goto 5, 3) := by decide +kernel
theorem dX12_of_35 : decode cX12_of 35 = .ok (.bipush (-3), 2) := by decide +kernel
theorem dX12_of_37 : decode cX12_of 37 = .ok (.ireturn, 1) := by decide +kernel
theorem dX12_empty_0 : decode cX12_empty 0 = .ok (.aload_n 0, 1) := by decide +kernel
theorem dX12_empty_1 : decode cX12_empty 1 = .ok (.getfield 22, 3) := by decide +kernel
theorem dX12_empty_4 : decode cX12_empty 4 = .ok (.bipush 87, 2) := by decide +kernel
theorem dX12_empty_6 : decode cX12_empty 6 = .ok (.iaload, 1) := by decide +kernel
theorem dX12_empty_7 : decode cX12_empty 7 = .ok (.ireturn, 1) := by decide +kernel
theorem dX12_write_0 : decode cX12_write 0 = .ok (.iload_n 3, 1) := by decide +kernel
theorem dX12_write_1 : decode cX12_write 1 = .ok (.iconst 1, 1) := by decide +kernel
theorem dX12_write_2 : decode cX12_write 2 = .ok (.bipush 8, 2) := by decide +kernel
theorem dX12_write_4 : decode cX12_write 4 = .ok (.invokestatic 75, 3) := by decide +kernel
theorem dX12_write_7 : decode cX12_write 7 = .ok (.ifCond .ne 6, 3) := by decide +kernel
theorem dX12_write_10 : decode cX12_write 10 = .ok (.bipush (-3), 2) := by decide +kernel
theorem dX12_write_12 : decode cX12_write 12 = .ok (.ireturn, 1) := by decide +kernel
theorem dX12_write_13 : decode cX12_write 13 = .ok (.aload_n 0, 1) := by decide +kernel
theorem dX12_write_14 : decode cX12_write 14 = .ok (.getfield 110, 3) := by decide +kernel
theorem dX12_write_17 : decode cX12_write 17 = .ok (.iload_n 3, 1) := by decide +kernel
theorem dX12_write_18 : decode cX12_write 18 = .ok (.iadd, 1) := by decide +kernel
theorem dX12_write_19 : decode cX12_write 19 = .ok (.sipush 160, 3) := by decide +kernel
theorem dX12_write_22 : decode cX12_write 22 = .ok (.if_icmp .le 6, 3) := by decide +kernel
theorem dX12_write_25 : decode cX12_write 25 = .ok (.bipush (-5), 2) := by decide +kernel
theorem dX12_write_27 : decode cX12_write 27 = .ok (.ireturn, 1) := by decide +kernel
theorem dX12_write_28 : decode cX12_write 28 = .ok (.iconst 0, 1) := by decide +kernel
theorem dX12_write_29 : decode cX12_write 29 = .ok (.istore 4, 2) := by decide +kernel
theorem dX12_write_31 : decode cX12_write 31 = .ok (.iload 4, 2) := by decide +kernel
theorem dX12_write_33 : decode cX12_write 33 = .ok (.iload_n 3, 1) := by decide +kernel
theorem dX12_write_34 : decode cX12_write 34 = .ok (.if_icmp .ge 33, 3) := by decide +kernel
theorem dX12_write_37 : decode cX12_write 37 = .ok (.aload_n 0, 1) := by decide +kernel
theorem dX12_write_38 : decode cX12_write 38 = .ok (.getfield 35, 3) := by decide +kernel
theorem dX12_write_41 : decode cX12_write 41 = .ok (.aload_n 0, 1) := by decide +kernel
theorem dX12_write_42 : decode cX12_write 42 = .ok (.getfield 110, 3) := by decide +kernel
theorem dX12_write_45 : decode cX12_write 45 = .ok (.iload 4, 2) := by decide +kernel
theorem dX12_write_47 : decode cX12_write 47 = .ok (.iadd, 1) := by decide +kernel
theorem dX12_write_48 : decode cX12_write 48 = .ok (.lload_n 1, 1) := by decide +kernel
theorem dX12_write_49 : decode cX12_write 49 = .ok (.bipush 8, 2) := by decide +kernel
theorem dX12_write_51 : decode cX12_write 51 = .ok (.iload 4, 2) := by decide +kernel
theorem dX12_write_53 : decode cX12_write 53 = .ok (.imul, 1) := by decide +kernel
theorem dX12_write_54 : decode cX12_write 54 = .ok (.lshr, 1) := by decide +kernel
theorem dX12_write_55 : decode cX12_write 55 = .ok (.ldc2_w 113, 3) := by decide +kernel
theorem dX12_write_58 : decode cX12_write 58 = .ok (.land, 1) := by decide +kernel
theorem dX12_write_59 : decode cX12_write 59 = .ok (.l2i, 1) := by decide +kernel
theorem dX12_write_60 : decode cX12_write 60 = .ok (.iastore, 1) := by decide +kernel
theorem dX12_write_61 : decode cX12_write 61 = .ok (.iinc 4 1, 3) := by decide +kernel
theorem dX12_write_64 : decode cX12_write 64 = .ok (.goto (-33), 3) := by decide +kernel
theorem dX12_write_67 : decode cX12_write 67 = .ok (.aload_n 0, 1) := by decide +kernel
theorem dX12_write_68 : decode cX12_write 68 = .ok (.dup, 1) := by decide +kernel
theorem dX12_write_69 : decode cX12_write 69 = .ok (.getfield 110, 3) := by decide +kernel
theorem dX12_write_72 : decode cX12_write 72 = .ok (.iload_n 3, 1) := by decide +kernel
theorem dX12_write_73 : decode cX12_write 73 = .ok (.iadd, 1) := by decide +kernel
theorem dX12_write_74 : decode cX12_write 74 = .ok (.putfield 110, 3) := by decide +kernel
theorem dX12_write_77 : decode cX12_write 77 = .ok (.aload_n 0, 1) := by decide +kernel
theorem dX12_write_78 : decode cX12_write 78 = .ok (.getfield 110, 3) := by decide +kernel
theorem dX12_write_81 : decode cX12_write 81 = .ok (.ireturn, 1) := by decide +kernel
theorem dX12_erase_0 : decode cX12_erase 0 = .ok (.aload_n 0, 1) := by decide +kernel
theorem dX12_erase_1 : decode cX12_erase 1 = .ok (.getfield 110, 3) := by decide +kernel
theorem dX12_erase_4 : decode cX12_erase 4 = .ok (.istore_n 1, 1) := by decide +kernel
theorem dX12_erase_5 : decode cX12_erase 5 = .ok (.aload_n 0, 1) := by decide +kernel
theorem dX12_erase_6 : decode cX12_erase 6 = .ok (.iconst 0, 1) := by decide +kernel
theorem dX12_erase_7 : decode cX12_erase 7 = .ok (.putfield 110, 3) := by decide +kernel
theorem dX12_erase_10 : decode cX12_erase 10 = .ok (.iload_n 1, 1) := by decide +kernel
theorem dX12_erase_11 : decode cX12_erase 11 = .ok (.ireturn, 1) := by decide +kernel
theorem dX12_nextToken_0 : decode cX12_nextToken 0 = .ok (.aload_n 0, 1) := by decide +kernel
theorem dX12_nextToken_1 : decode cX12_nextToken 1 = .ok (.getfield 115, 3) := by decide +kernel
theorem dX12_nextToken_4 : decode cX12_nextToken 4 = .ok (.aload_n 0, 1) := by decide +kernel
theorem dX12_nextToken_5 : decode cX12_nextToken 5 = .ok (.getfield 110, 3) := by decide +kernel
theorem dX12_nextToken_8 : decode cX12_nextToken 8 = .ok (.if_icmp .ge 30, 3) := by decide +kernel
theorem dX12_nextToken_11 : decode cX12_nextToken 11 = .ok (.aload_n 0, 1) := by decide +kernel
theorem dX12_nextToken_12 : decode cX12_nextToken 12 = .ok (.getfield 35, 3) := by decide +kernel
theorem dX12_nextToken_15 : decode cX12_nextToken 15 = .ok (.aload_n 0, 1) := by decide +kernel
theorem dX12_nextToken_16 : decode cX12_nextToken 16 = .ok (.getfield 115, 3) := by decide +kernel
theorem dX12_nextToken_19 : decode cX12_nextToken 19 = .ok (.iaload, 1) := by decide +kernel
theorem dX12_nextToken_20 : decode cX12_nextToken 20 = .ok (.bipush 32, 2) := by decide +kernel
theorem dX12_nextToken_22 : decode cX12_nextToken 22 = .ok (.if_icmp .ne 16, 3) := by decide +kernel
theorem dX12_nextToken_25 : decode cX12_nextToken 25 = .ok (.aload_n 0, 1) := by decide +kernel
theorem dX12_nextToken_26 : decode cX12_nextToken 26 = .ok (.dup, 1) := by decide +kernel
theorem dX12_nextToken_27 : decode cX12_nextToken 27 = .ok (.getfield 115, 3) := by decide +kernel
theorem dX12_nextToken_30 : decode cX12_nextToken 30 = .ok (.iconst 1, 1) := by decide +kernel
theorem dX12_nextToken_31 : decode cX12_nextToken 31 = .ok (.iadd, 1) := by decide +kernel
theorem dX12_nextToken_32 : decode cX12_nextToken 32 = .ok (.putfield 115, 3) := by decide +kernel
theorem dX12_nextToken_35 : decode cX12_nextToken 35 = .ok (.goto (-35), 3) := by decide +kernel
theorem dX12_nextToken_38 : decode cX12_nextToken 38 = .ok (.aload_n 0, 1) := by decide +kernel
theorem dX12_nextToken_39 : decode cX12_nextToken 39 = .ok (.aload_n 0, 1) := by decide +kernel
theorem dX12_nextToken_40 : decode cX12_nextToken 40 = .ok (.getfield 115, 3) := by decide +kernel
theorem dX12_nextToken_43 : decode cX12_nextToken 43 = .ok (.putfield 118, 3) := by decide +kernel
theorem dX12_nextToken_46 : decode cX12_nextToken 46 = .ok (.aload_n 0, 1) := by decide +kernel
theorem dX12_nextToken_47 : decode cX12_nextToken 47 = .ok (.iconst 0, 1) := by decide +kernel
theorem dX12_nextToken_48 : decode cX12_nextToken 48 = .ok (.putfield 121, 3) := by decide +kernel
theorem dX12_nextToken_51 : decode cX12_nextToken 51 = .ok (.aload_n 0, 1) := by decide +kernel
theorem dX12_nextToken_52 : decode cX12_nextToken 52 = .ok (.iconst 0, 1) := by decide +kernel
theorem dX12_nextToken_53 : decode cX12_nextToken 53 = .ok (.putfield 124, 3) := by decide +kernel
theorem dX12_nextToken_56 : decode cX12_nextToken 56 = .ok (.aload_n 0, 1) := by decide +kernel
theorem dX12_nextToken_57 : decode cX12_nextToken 57 = .ok (.getfield 115, 3) := by decide +kernel
theorem dX12_nextToken_60 : decode cX12_nextToken 60 = .ok (.aload_n 0, 1) := by decide +kernel
theorem dX12_nextToken_61 : decode cX12_nextToken 61 = .ok (.getfield 110, 3) := by decide +kernel
theorem dX12_nextToken_64 : decode cX12_nextToken 64 = .ok (.if_icmp .ne 13, 3) := by decide +kernel
theorem dX12_nextToken_67 : decode cX12_nextToken 67 = .ok (.aload_n 0, 1) := by decide +kernel
theorem dX12_nextToken_68 : decode cX12_nextToken 68 = .ok (.ldc2_w 127, 3) := by decide +kernel
theorem dX12_nextToken_71 : decode cX12_nextToken 71 = .ok (.putfield 129, 3) := by decide +kernel
theorem dX12_nextToken_74 : decode cX12_nextToken 74 = .ok (.goto 320, 3) := by decide +kernel
theorem dX12_nextToken_77 : decode cX12_nextToken 77 = .ok (.aload_n 0, 1) := by decide +kernel
theorem dX12_nextToken_78 : decode cX12_nextToken 78 = .ok (.getfield 35, 3) := by decide +kernel
theorem dX12_nextToken_81 : decode cX12_nextToken 81 = .ok (.aload_n 0, 1) := by decide +kernel
theorem dX12_nextToken_82 : decode cX12_nextToken 82 = .ok (.getfield 115, 3) := by decide +kernel
theorem dX12_nextToken_85 : decode cX12_nextToken 85 = .ok (.iaload, 1) := by decide +kernel
theorem dX12_nextToken_86 : decode cX12_nextToken 86 = .ok (.bipush 97, 2) := by decide +kernel
theorem dX12_nextToken_88 : decode cX12_nextToken 88 = .ok (.bipush 122, 2) := by decide +kernel
theorem dX12_nextToken_90 : decode cX12_nextToken 90 = .ok (.invokestatic 75, 3) := by decide +kernel
theorem dX12_nextToken_93 : decode cX12_nextToken 93 = .ok (.ifCond .eq 129, 3) := by decide +kernel
theorem dX12_nextToken_96 : decode cX12_nextToken 96 = .ok (.aload_n 0, 1) := by decide +kernel
theorem dX12_nextToken_97 : decode cX12_nextToken 97 = .ok (.lconst 0, 1) := by decide +kernel
theorem dX12_nextToken_98 : decode cX12_nextToken 98 = .ok (.putfield 129, 3) := by decide +kernel
theorem dX12_nextToken_101 : decode cX12_nextToken 101 = .ok (.aload_n 0, 1) := by decide +kernel
theorem dX12_nextToken_102 : decode cX12_nextToken 102 = .ok (.getfield 115, 3) := by decide +kernel
theorem dX12_nextToken_105 : decode cX12_nextToken 105 = .ok (.aload_n 0, 1) := by decide +kernel
theorem dX12_nextToken_106 : decode cX12_nextToken 106 = .ok (.getfield 110, 3) := by decide +kernel
theorem dX12_nextToken_109 : decode cX12_nextToken 109 = .ok (.if_icmp .ge 82, 3) := by decide +kernel
theorem dX12_nextToken_112 : decode cX12_nextToken 112 = .ok (.aload_n 0, 1) := by decide +kernel
theorem dX12_nextToken_113 : decode cX12_nextToken 113 = .ok (.getfield 35, 3) := by decide +kernel
theorem dX12_nextToken_116 : decode cX12_nextToken 116 = .ok (.aload_n 0, 1) := by decide +kernel
theorem dX12_nextToken_117 : decode cX12_nextToken 117 = .ok (.getfield 115, 3) := by decide +kernel
theorem dX12_nextToken_120 : decode cX12_nextToken 120 = .ok (.iaload, 1) := by decide +kernel
theorem dX12_nextToken_121 : decode cX12_nextToken 121 = .ok (.bipush 97, 2) := by decide +kernel
theorem dX12_nextToken_123 : decode cX12_nextToken 123 = .ok (.bipush 122, 2) := by decide +kernel
theorem dX12_nextToken_125 : decode cX12_nextToken 125 = .ok (.invokestatic 75, 3) := by decide +kernel
theorem dX12_nextToken_128 : decode cX12_nextToken 128 = .ok (.ifCond .eq 63, 3) := by decide +kernel
theorem dX12_nextToken_131 : decode cX12_nextToken 131 = .ok (.aload_n 0, 1) := by decide +kernel
theorem dX12_nextToken_132 : decode cX12_nextToken 132 = .ok (.aload_n 0, 1) := by decide +kernel
theorem dX12_nextToken_133 : decode cX12_nextToken 133 = .ok (.getfield 115, 3) := by decide +kernel
theorem dX12_nextToken_136 : decode cX12_nextToken 136 = .ok (.aload_n 0, 1) := by decide +kernel
theorem dX12_nextToken_137 : decode cX12_nextToken 137 = .ok (.getfield 118, 3) := by decide +kernel
theorem dX12_nextToken_140 : decode cX12_nextToken 140 = .ok (.isub, 1) := by decide +kernel
theorem dX12_nextToken_141 : decode cX12_nextToken 141 = .ok (.bipush 9, 2) := by decide +kernel
theorem dX12_nextToken_143 : decode cX12_nextToken 143 = .ok (.if_icmp .ge 29, 3) := by decide +kernel
theorem dX12_nextToken_146 : decode cX12_nextToken 146 = .ok (.ldc2_w 133, 3) := by decide +kernel
theorem dX12_nextToken_149 : decode cX12_nextToken 149 = .ok (.aload_n 0, 1) := by decide +kernel
theorem dX12_nextToken_150 : decode cX12_nextToken 150 = .ok (.getfield 129, 3) := by decide +kernel
theorem dX12_nextToken_153 : decode cX12_nextToken 153 = .ok (.lmul, 1) := by decide +kernel
theorem dX12_nextToken_154 : decode cX12_nextToken 154 = .ok (.aload_n 0, 1) := by decide +kernel
theorem dX12_nextToken_155 : decode cX12_nextToken 155 = .ok (.getfield 35, 3) := by decide +kernel
theorem dX12_nextToken_158 : decode cX12_nextToken 158 = .ok (.aload_n 0, 1) := by decide +kernel
theorem dX12_nextToken_159 : decode cX12_nextToken 159 = .ok (.getfield 115, 3) := by decide +kernel
theorem dX12_nextToken_162 : decode cX12_nextToken 162 = .ok (.iaload, 1) := by decide +kernel
theorem dX12_nextToken_163 : decode cX12_nextToken 163 = .ok (.i2l, 1) := by decide +kernel
theorem dX12_nextToken_164 : decode cX12_nextToken 164 = .ok (.ladd, 1) := by decide +kernel
theorem dX12_nextToken_165 : decode cX12_nextToken 165 = .ok (.ldc2_w 135, 3) := by decide +kernel
theorem dX12_nextToken_168 : decode cX12_nextToken 168 = .ok (.lsub, 1) := by decide +kernel
theorem dX12_nextToken_169 : decode cX12_nextToken 169 = .ok (.goto 6, 3) := by decide +kernel
theorem dX12_nextToken_172 : decode cX12_nextToken 172 = .ok (.ldc2_w 137, 3) := by decide +kernel
theorem dX12_nextToken_175 : decode cX12_nextToken 175 = .ok (.putfield 129, 3) := by decide +kernel
theorem dX12_nextToken_178 : decode cX12_nextToken 178 = .ok (.aload_n 0, 1) := by decide +kernel
theorem dX12_nextToken_179 : decode cX12_nextToken 179 = .ok (.dup, 1) := by decide +kernel
theorem dX12_nextToken_180 : decode cX12_nextToken 180 = .ok (.getfield 115, 3) := by decide +kernel
theorem dX12_nextToken_183 : decode cX12_nextToken 183 = .ok (.iconst 1, 1) := by decide +kernel
theorem dX12_nextToken_184 : decode cX12_nextToken 184 = .ok (.iadd, 1) := by decide +kernel
theorem dX12_nextToken_185 : decode cX12_nextToken 185 = .ok (.putfield 115, 3) := by decide +kernel
theorem dX12_nextToken_188 : decode cX12_nextToken 188 = .ok (.goto (-87), 3) := by decide +kernel
theorem dX12_nextToken_191 : decode cX12_nextToken 191 = .ok (.aload_n 0, 1) := by decide +kernel
theorem dX12_nextToken_192 : decode cX12_nextToken 192 = .ok (.aload_n 0, 1) := by decide +kernel
theorem dX12_nextToken_193 : decode cX12_nextToken 193 = .ok (.getfield 115, 3) := by decide +kernel
theorem dX12_nextToken_196 : decode cX12_nextToken 196 = .ok (.aload_n 0, 1) := by decide +kernel
theorem dX12_nextToken_197 : decode cX12_nextToken 197 = .ok (.getfield 118, 3) := by decide +kernel
theorem dX12_nextToken_200 : decode cX12_nextToken 200 = .ok (.isub, 1) := by decide +kernel
theorem dX12_nextToken_201 : decode cX12_nextToken 201 = .ok (.bipush 9, 2) := by decide +kernel
theorem dX12_nextToken_203 : decode cX12_nextToken 203 = .ok (.if_icmp .le 9, 3) := by decide +kernel
theorem dX12_nextToken_206 : decode cX12_nextToken 206 = .ok (.ldc2_w 137, 3) := by decide +kernel
theorem dX12_nextToken_209 : decode cX12_nextToken 209 = .ok (.goto 7, 3) := by decide +kernel
theorem dX12_nextToken_212 : decode cX12_nextToken 212 = .ok (.aload_n 0, 1) := by decide +kernel
theorem dX12_nextToken_213 : decode cX12_nextToken 213 = .ok (.getfield 129, 3) := by decide +kernel
theorem dX12_nextToken_216 : decode cX12_nextToken 216 = .ok (.putfield 129, 3) := by decide +kernel
theorem dX12_nextToken_219 : decode cX12_nextToken 219 = .ok (.goto 175, 3) := by decide +kernel
theorem dX12_nextToken_222 : decode cX12_nextToken 222 = .ok (.aload_n 0, 1) := by decide +kernel
theorem dX12_nextToken_223 : decode cX12_nextToken 223 = .ok (.getfield 35, 3) := by decide +kernel
theorem dX12_nextToken_226 : decode cX12_nextToken 226 = .ok (.aload_n 0, 1) := by decide +kernel
theorem dX12_nextToken_227 : decode cX12_nextToken 227 = .ok (.getfield 115, 3) := by decide +kernel
theorem dX12_nextToken_230 : decode cX12_nextToken 230 = .ok (.iaload, 1) := by decide +kernel
theorem dX12_nextToken_231 : decode cX12_nextToken 231 = .ok (.bipush 48, 2) := by decide +kernel
theorem dX12_nextToken_233 : decode cX12_nextToken 233 = .ok (.bipush 57, 2) := by decide +kernel
theorem dX12_nextToken_235 : decode cX12_nextToken 235 = .ok (.invokestatic 75, 3) := by decide +kernel
theorem dX12_nextToken_238 : decode cX12_nextToken 238 = .ok (.ifCond .eq 119, 3) := by decide +kernel
theorem dX12_nextToken_241 : decode cX12_nextToken 241 = .ok (.aload_n 0, 1) := by decide +kernel
theorem dX12_nextToken_242 : decode cX12_nextToken 242 = .ok (.getfield 115, 3) := by decide +kernel
theorem dX12_nextToken_245 : decode cX12_nextToken 245 = .ok (.aload_n 0, 1) := by decide +kernel
theorem dX12_nextToken_246 : decode cX12_nextToken 246 = .ok (.getfield 110, 3) := by decide +kernel
theorem dX12_nextToken_249 : decode cX12_nextToken 249 = .ok (.if_icmp .ge 84, 3) := by decide +kernel
theorem dX12_nextToken_252 : decode cX12_nextToken 252 = .ok (.aload_n 0, 1) := by decide +kernel
theorem dX12_nextToken_253 : decode cX12_nextToken 253 = .ok (.getfield 35, 3) := by decide +kernel
theorem dX12_nextToken_256 : decode cX12_nextToken 256 = .ok (.aload_n 0, 1) := by decide +kernel
theorem dX12_nextToken_257 : decode cX12_nextToken 257 = .ok (.getfield 115, 3) := by decide +kernel
theorem dX12_nextToken_260 : decode cX12_nextToken 260 = .ok (.iaload, 1) := by decide +kernel
theorem dX12_nextToken_261 : decode cX12_nextToken 261 = .ok (.bipush 48, 2) := by decide +kernel
theorem dX12_nextToken_263 : decode cX12_nextToken 263 = .ok (.bipush 57, 2) := by decide +kernel
theorem dX12_nextToken_265 : decode cX12_nextToken 265 = .ok (.invokestatic 75, 3) := by decide +kernel
theorem dX12_nextToken_268 : decode cX12_nextToken 268 = .ok (.ifCond .eq 65, 3) := by decide +kernel
theorem dX12_nextToken_271 : decode cX12_nextToken 271 = .ok (.aload_n 0, 1) := by decide +kernel
theorem dX12_nextToken_272 : decode cX12_nextToken 272 = .ok (.aload_n 0, 1) := by decide +kernel
theorem dX12_nextToken_273 : decode cX12_nextToken 273 = .ok (.getfield 121, 3) := by decide +kernel
theorem dX12_nextToken_276 : decode cX12_nextToken 276 = .ok (.iconst 2, 1) := by decide +kernel
theorem dX12_nextToken_277 : decode cX12_nextToken 277 = .ok (.if_icmp .ge 26, 3) := by decide +kernel
theorem dX12_nextToken_280 : decode cX12_nextToken 280 = .ok (.bipush 10, 2) := by decide +kernel
theorem dX12_nextToken_282 : decode cX12_nextToken 282 = .ok (.aload_n 0, 1) := by decide +kernel
theorem dX12_nextToken_283 : decode cX12_nextToken 283 = .ok (.getfield 124, 3) := by decide +kernel
theorem dX12_nextToken_286 : decode cX12_nextToken 286 = .ok (.imul, 1) := by decide +kernel
theorem dX12_nextToken_287 : decode cX12_nextToken 287 = .ok (.aload_n 0, 1) := by decide +kernel
theorem dX12_nextToken_288 : decode cX12_nextToken 288 = .ok (.getfield 35, 3) := by decide +kernel
theorem dX12_nextToken_291 : decode cX12_nextToken 291 = .ok (.aload_n 0, 1) := by decide +kernel
theorem dX12_nextToken_292 : decode cX12_nextToken 292 = .ok (.getfield 115, 3) := by decide +kernel
theorem dX12_nextToken_295 : decode cX12_nextToken 295 = .ok (.iaload, 1) := by decide +kernel
theorem dX12_nextToken_296 : decode cX12_nextToken 296 = .ok (.iadd, 1) := by decide +kernel
theorem dX12_nextToken_297 : decode cX12_nextToken 297 = .ok (.bipush 48, 2) := by decide +kernel
theorem dX12_nextToken_299 : decode cX12_nextToken 299 = .ok (.isub, 1) := by decide +kernel
theorem dX12_nextToken_300 : decode cX12_nextToken 300 = .ok (.goto 7, 3) := by decide +kernel
theorem dX12_nextToken_303 : decode cX12_nextToken 303 = .ok (.aload_n 0, 1) := by decide +kernel
theorem dX12_nextToken_304 : decode cX12_nextToken 304 = .ok (.getfield 124, 3) := by decide +kernel
theorem dX12_nextToken_307 : decode cX12_nextToken 307 = .ok (.putfield 124, 3) := by decide +kernel
theorem dX12_nextToken_310 : decode cX12_nextToken 310 = .ok (.aload_n 0, 1) := by decide +kernel
theorem dX12_nextToken_311 : decode cX12_nextToken 311 = .ok (.dup, 1) := by decide +kernel
theorem dX12_nextToken_312 : decode cX12_nextToken 312 = .ok (.getfield 121, 3) := by decide +kernel
theorem dX12_nextToken_315 : decode cX12_nextToken 315 = .ok (.iconst 1, 1) := by decide +kernel
theorem dX12_nextToken_316 : decode cX12_nextToken 316 = .ok (.iadd, 1) := by decide +kernel
theorem dX12_nextToken_317 : decode cX12_nextToken 317 = .ok (.putfield 121, 3) := by decide +kernel
theorem dX12_nextToken_320 : decode cX12_nextToken 320 = .ok (.aload_n 0, 1) := by decide +kernel
theorem dX12_nextToken_321 : decode cX12_nextToken 321 = .ok (.dup, 1) := by decide +kernel
theorem dX12_nextToken_322 : decode cX12_nextToken 322 = .ok (.getfield 115, 3) := by decide +kernel
theorem dX12_nextToken_325 : decode cX12_nextToken 325 = .ok (.iconst 1, 1) := by decide +kernel
theorem dX12_nextToken_326 : decode cX12_nextToken 326 = .ok (.iadd, 1) := by decide +kernel
theorem dX12_nextToken_327 : decode cX12_nextToken 327 = .ok (.putfield 115, 3) := by decide +kernel
theorem dX12_nextToken_330 : decode cX12_nextToken 330 = .ok (.goto (-89), 3) := by decide +kernel
theorem dX12_nextToken_333 : decode cX12_nextToken 333 = .ok (.aload_n 0, 1) := by decide +kernel
theorem dX12_nextToken_334 : decode cX12_nextToken 334 = .ok (.aload_n 0, 1) := by decide +kernel
theorem dX12_nextToken_335 : decode cX12_nextToken 335 = .ok (.getfield 121, 3) := by decide +kernel
theorem dX12_nextToken_338 : decode cX12_nextToken 338 = .ok (.iconst 2, 1) := by decide +kernel
theorem dX12_nextToken_339 : decode cX12_nextToken 339 = .ok (.if_icmp .le 9, 3) := by decide +kernel
theorem dX12_nextToken_342 : decode cX12_nextToken 342 = .ok (.ldc2_w 137, 3) := by decide +kernel
theorem dX12_nextToken_345 : decode cX12_nextToken 345 = .ok (.goto 6, 3) := by decide +kernel
theorem dX12_nextToken_348 : decode cX12_nextToken 348 = .ok (.ldc2_w 139, 3) := by decide +kernel
theorem dX12_nextToken_351 : decode cX12_nextToken 351 = .ok (.putfield 129, 3) := by decide +kernel
theorem dX12_nextToken_354 : decode cX12_nextToken 354 = .ok (.goto 40, 3) := by decide +kernel
theorem dX12_nextToken_357 : decode cX12_nextToken 357 = .ok (.aload_n 0, 1) := by decide +kernel
theorem dX12_nextToken_358 : decode cX12_nextToken 358 = .ok (.aload_n 0, 1) := by decide +kernel
theorem dX12_nextToken_359 : decode cX12_nextToken 359 = .ok (.getfield 35, 3) := by decide +kernel
theorem dX12_nextToken_362 : decode cX12_nextToken 362 = .ok (.aload_n 0, 1) := by decide +kernel
theorem dX12_nextToken_363 : decode cX12_nextToken 363 = .ok (.getfield 115, 3) := by decide +kernel
theorem dX12_nextToken_366 : decode cX12_nextToken 366 = .ok (.iaload, 1) := by decide +kernel
theorem dX12_nextToken_367 : decode cX12_nextToken 367 = .ok (.bipush 59, 2) := by decide +kernel
theorem dX12_nextToken_369 : decode cX12_nextToken 369 = .ok (.if_icmp .ne 9, 3) := by decide +kernel
theorem dX12_nextToken_372 : decode cX12_nextToken 372 = .ok (.ldc2_w 141, 3) := by decide +kernel
theorem dX12_nextToken_375 : decode cX12_nextToken 375 = .ok (.goto 6, 3) := by decide +kernel
theorem dX12_nextToken_378 : decode cX12_nextToken 378 = .ok (.ldc2_w 137, 3) := by decide +kernel
theorem dX12_nextToken_381 : decode cX12_nextToken 381 = .ok (.putfield 129, 3) := by decide +kernel
theorem dX12_nextToken_384 : decode cX12_nextToken 384 = .ok (.aload_n 0, 1) := by decide +kernel
theorem dX12_nextToken_385 : decode cX12_nextToken 385 = .ok (.dup, 1) := by decide +kernel
theorem dX12_nextToken_386 : decode cX12_nextToken 386 = .ok (.getfield 115, 3) := by decide +kernel
theorem dX12_nextToken_389 : decode cX12_nextToken 389 = .ok (.iconst 1, 1) := by decide +kernel
theorem dX12_nextToken_390 : decode cX12_nextToken 390 = .ok (.iadd, 1) := by decide +kernel
theorem dX12_nextToken_391 : decode cX12_nextToken 391 = .ok (.putfield 115, 3) := by decide +kernel
theorem dX12_nextToken_394 : decode cX12_nextToken 394 = .ok (.return_, 1) := by decide +kernel
theorem dX12_fails_0 : decode cX12_fails 0 = .ok (.aload_n 0, 1) := by decide +kernel
theorem dX12_fails_1 : decode cX12_fails 1 = .ok (.aload_n 0, 1) := by decide +kernel
theorem dX12_fails_2 : decode cX12_fails 2 = .ok (.getfield 118, 3) := by decide +kernel
theorem dX12_fails_5 : decode cX12_fails 5 = .ok (.putfield 143, 3) := by decide +kernel
theorem dX12_fails_8 : decode cX12_fails 8 = .ok (.iconst 0, 1) := by decide +kernel
theorem dX12_fails_9 : decode cX12_fails 9 = .ok (.ireturn, 1) := by decide +kernel
theorem dX12_isNumber_0 : decode cX12_isNumber 0 = .ok (.aload_n 0, 1) := by decide +kernel
theorem dX12_isNumber_1 : decode cX12_isNumber 1 = .ok (.invokevirtual 146, 3) := by decide +kernel
theorem dX12_isNumber_4 : decode cX12_isNumber 4 = .ok (.aload_n 0, 1) := by decide +kernel
theorem dX12_isNumber_5 : decode cX12_isNumber 5 = .ok (.getfield 129, 3) := by decide +kernel
theorem dX12_isNumber_8 : decode cX12_isNumber 8 = .ok (.ldc2_w 139, 3) := by decide +kernel
theorem dX12_isNumber_11 : decode cX12_isNumber 11 = .ok (.lcmp, 1) := by decide +kernel
theorem dX12_isNumber_12 : decode cX12_isNumber 12 = .ok (.ifCond .ne 11, 3) := by decide +kernel
theorem dX12_isNumber_15 : decode cX12_isNumber 15 = .ok (.aload_n 0, 1) := by decide +kernel
theorem dX12_isNumber_16 : decode cX12_isNumber 16 = .ok (.getfield 124, 3) := by decide +kernel
theorem dX12_isNumber_19 : decode cX12_isNumber 19 = .ok (.iload_n 2, 1) := by decide +kernel
theorem dX12_isNumber_20 : decode cX12_isNumber 20 = .ok (.if_icmp .le 8, 3) := by decide +kernel
theorem dX12_isNumber_23 : decode cX12_isNumber 23 = .ok (.aload_n 0, 1) := by decide +kernel
theorem dX12_isNumber_24 : decode cX12_isNumber 24 = .ok (.invokevirtual 149, 3) := by decide +kernel
theorem dX12_isNumber_27 : decode cX12_isNumber 27 = .ok (.ireturn, 1) := by decide +kernel
theorem dX12_isNumber_28 : decode cX12_isNumber 28 = .ok (.aload_n 0, 1) := by decide +kernel
theorem dX12_isNumber_29 : decode cX12_isNumber 29 = .ok (.getfield 38, 3) := by decide +kernel
theorem dX12_isNumber_32 : decode cX12_isNumber 32 = .ok (.iload_n 1, 1) := by decide +kernel
theorem dX12_isNumber_33 : decode cX12_isNumber 33 = .ok (.aload_n 0, 1) := by decide +kernel
theorem dX12_isNumber_34 : decode cX12_isNumber 34 = .ok (.getfield 124, 3) := by decide +kernel
theorem dX12_isNumber_37 : decode cX12_isNumber 37 = .ok (.iastore, 1) := by decide +kernel
theorem dX12_isNumber_38 : decode cX12_isNumber 38 = .ok (.iconst 1, 1) := by decide +kernel
theorem dX12_isNumber_39 : decode cX12_isNumber 39 = .ok (.ireturn, 1) := by decide +kernel
theorem dX12_isOf_0 : decode cX12_isOf 0 = .ok (.aload_n 0, 1) := by decide +kernel
theorem dX12_isOf_1 : decode cX12_isOf 1 = .ok (.invokevirtual 146, 3) := by decide +kernel
theorem dX12_isOf_4 : decode cX12_isOf 4 = .ok (.aload_n 0, 1) := by decide +kernel
theorem dX12_isOf_5 : decode cX12_isOf 5 = .ok (.getfield 38, 3) := by decide +kernel
theorem dX12_isOf_8 : decode cX12_isOf 8 = .ok (.iload_n 1, 1) := by decide +kernel
theorem dX12_isOf_9 : decode cX12_isOf 9 = .ok (.aload_n 0, 1) := by decide +kernel
theorem dX12_isOf_10 : decode cX12_isOf 10 = .ok (.getfield 129, 3) := by decide +kernel
theorem dX12_isOf_13 : decode cX12_isOf 13 = .ok (.lload_n 2, 1) := by decide +kernel
theorem dX12_isOf_14 : decode cX12_isOf 14 = .ok (.lcmp, 1) := by decide +kernel
theorem dX12_isOf_15 : decode cX12_isOf 15 = .ok (.ifCond .ne 7, 3) := by decide +kernel
theorem dX12_isOf_18 : decode cX12_isOf 18 = .ok (.iconst 0, 1) := by decide +kernel
theorem dX12_isOf_19 : decode cX12_isOf 19 = .ok (.goto 32, 3) := by decide +kernel
theorem dX12_isOf_22 : decode cX12_isOf 22 = .ok (.aload_n 0, 1) := by decide +kernel
theorem dX12_isOf_23 : decode cX12_isOf 23 = .ok (.getfield 129, 3) := by decide +kernel
theorem dX12_isOf_26 : decode cX12_isOf 26 = .ok (.lload 4, 2) := by decide +kernel
theorem dX12_isOf_28 : decode cX12_isOf 28 = .ok (.lcmp, 1) := by decide +kernel
theorem dX12_isOf_29 : decode cX12_isOf 29 = .ok (.ifCond .ne 7, 3) := by decide +kernel
theorem dX12_isOf_32 : decode cX12_isOf 32 = .ok (.iconst 1, 1) := by decide +kernel
theorem dX12_isOf_33 : decode cX12_isOf 33 = .ok (.goto 18, 3) := by decide +kernel
theorem dX12_isOf_36 : decode cX12_isOf 36 = .ok (.aload_n 0, 1) := by decide +kernel
theorem dX12_isOf_37 : decode cX12_isOf 37 = .ok (.getfield 129, 3) := by decide +kernel
theorem dX12_isOf_40 : decode cX12_isOf 40 = .ok (.lload 6, 2) := by decide +kernel
theorem dX12_isOf_42 : decode cX12_isOf 42 = .ok (.lcmp, 1) := by decide +kernel
theorem dX12_isOf_43 : decode cX12_isOf 43 = .ok (.ifCond .ne 7, 3) := by decide +kernel
theorem dX12_isOf_46 : decode cX12_isOf 46 = .ok (.iconst 2, 1) := by decide +kernel
theorem dX12_isOf_47 : decode cX12_isOf 47 = .ok (.goto 4, 3) := by decide +kernel
theorem dX12_isOf_50 : decode cX12_isOf 50 = .ok (.iconst (-1), 1) := by decide +kernel
theorem dX12_isOf_51 : decode cX12_isOf 51 = .ok (.iastore, 1) := by decide +kernel
theorem dX12_isOf_52 : decode cX12_isOf 52 = .ok (.aload_n 0, 1) := by decide +kernel
theorem dX12_isOf_53 : decode cX12_isOf 53 = .ok (.getfield 38, 3) := by decide +kernel
theorem dX12_isOf_56 : decode cX12_isOf 56 = .ok (.iload_n 1, 1) := by decide +kernel
theorem dX12_isOf_57 : decode cX12_isOf 57 = .ok (.iaload, 1) := by decide +kernel
theorem dX12_isOf_58 : decode cX12_isOf 58 = .ok (.iconst (-1), 1) := by decide +kernel
theorem dX12_isOf_59 : decode cX12_isOf 59 = .ok (.if_icmp .ne 10, 3) := by decide +kernel
theorem dX12_isOf_62 : decode cX12_isOf 62 = .ok (.aload_n 0, 1) := by decide +kernel
theorem dX12_isOf_63 : decode cX12_isOf 63 = .ok (.invokevirtual 149, 3) := by decide +kernel
theorem dX12_isOf_66 : decode cX12_isOf 66 = .ok (.ifCond .eq 7, 3) := by decide +kernel
theorem dX12_isOf_69 : decode cX12_isOf 69 = .ok (.iconst 1, 1) := by decide +kernel
theorem dX12_isOf_70 : decode cX12_isOf 70 = .ok (.goto 4, 3) := by decide +kernel
theorem dX12_isOf_73 : decode cX12_isOf 73 = .ok (.iconst 0, 1) := by decide +kernel
theorem dX12_isOf_74 : decode cX12_isOf 74 = .ok (.ireturn, 1) := by decide +kernel
theorem dX12_isWay_0 : decode cX12_isWay 0 = .ok (.aload_n 0, 1) := by decide +kernel
theorem dX12_isWay_1 : decode cX12_isWay 1 = .ok (.invokevirtual 146, 3) := by decide +kernel
theorem dX12_isWay_4 : decode cX12_isWay 4 = .ok (.aload_n 0, 1) := by decide +kernel
theorem dX12_isWay_5 : decode cX12_isWay 5 = .ok (.getfield 129, 3) := by decide +kernel
theorem dX12_isWay_8 : decode cX12_isWay 8 = .ok (.ldc2_w 139, 3) := by decide +kernel
theorem dX12_isWay_11 : decode cX12_isWay 11 = .ok (.lcmp, 1) := by decide +kernel
theorem dX12_isWay_12 : decode cX12_isWay 12 = .ok (.ifCond .ne 11, 3) := by decide +kernel
theorem dX12_isWay_15 : decode cX12_isWay 15 = .ok (.aload_n 0, 1) := by decide +kernel
theorem dX12_isWay_16 : decode cX12_isWay 16 = .ok (.getfield 124, 3) := by decide +kernel
theorem dX12_isWay_19 : decode cX12_isWay 19 = .ok (.iconst 3, 1) := by decide +kernel
theorem dX12_isWay_20 : decode cX12_isWay 20 = .ok (.if_icmp .le 8, 3) := by decide +kernel
theorem dX12_isWay_23 : decode cX12_isWay 23 = .ok (.aload_n 0, 1) := by decide +kernel
theorem dX12_isWay_24 : decode cX12_isWay 24 = .ok (.invokevirtual 149, 3) := by decide +kernel
theorem dX12_isWay_27 : decode cX12_isWay 27 = .ok (.ireturn, 1) := by decide +kernel
theorem dX12_isWay_28 : decode cX12_isWay 28 = .ok (.iconst 4, 1) := by decide +kernel
theorem dX12_isWay_29 : decode cX12_isWay 29 = .ok (.iconst 3, 1) := by decide +kernel
theorem dX12_isWay_30 : decode cX12_isWay 30 = .ok (.aload_n 0, 1) := by decide +kernel
theorem dX12_isWay_31 : decode cX12_isWay 31 = .ok (.getfield 124, 3) := by decide +kernel
theorem dX12_isWay_34 : decode cX12_isWay 34 = .ok (.imul, 1) := by decide +kernel
theorem dX12_isWay_35 : decode cX12_isWay 35 = .ok (.iadd, 1) := by decide +kernel
theorem dX12_isWay_36 : decode cX12_isWay 36 = .ok (.istore_n 1, 1) := by decide +kernel
theorem dX12_isWay_37 : decode cX12_isWay 37 = .ok (.aload_n 0, 1) := by decide +kernel
theorem dX12_isWay_38 : decode cX12_isWay 38 = .ok (.iload_n 1, 1) := by decide +kernel
theorem dX12_isWay_39 : decode cX12_isWay 39 = .ok (.ldc2_w 153, 3) := by decide +kernel
theorem dX12_isWay_42 : decode cX12_isWay 42 = .ok (.ldc2_w 155, 3) := by decide +kernel
theorem dX12_isWay_45 : decode cX12_isWay 45 = .ok (.ldc2_w 157, 3) := by decide +kernel
theorem dX12_isWay_48 : decode cX12_isWay 48 = .ok (.invokevirtual 159, 3) := by decide +kernel
theorem dX12_isWay_51 : decode cX12_isWay 51 = .ok (.ifCond .ne 5, 3) := by decide +kernel
theorem dX12_isWay_54 : decode cX12_isWay 54 = .ok (.iconst 0, 1) := by decide +kernel
theorem dX12_isWay_55 : decode cX12_isWay 55 = .ok (.ireturn, 1) := by decide +kernel
theorem dX12_isWay_56 : decode cX12_isWay 56 = .ok (.aload_n 0, 1) := by decide +kernel
theorem dX12_isWay_57 : decode cX12_isWay 57 = .ok (.getfield 38, 3) := by decide +kernel
theorem dX12_isWay_60 : decode cX12_isWay 60 = .ok (.iload_n 1, 1) := by decide +kernel
theorem dX12_isWay_61 : decode cX12_isWay 61 = .ok (.iconst 1, 1) := by decide +kernel
theorem dX12_isWay_62 : decode cX12_isWay 62 = .ok (.iadd, 1) := by decide +kernel
theorem dX12_isWay_63 : decode cX12_isWay 63 = .ok (.iconst 0, 1) := by decide +kernel
theorem dX12_isWay_64 : decode cX12_isWay 64 = .ok (.iastore, 1) := by decide +kernel
theorem dX12_isWay_65 : decode cX12_isWay 65 = .ok (.aload_n 0, 1) := by decide +kernel
theorem dX12_isWay_66 : decode cX12_isWay 66 = .ok (.getfield 38, 3) := by decide +kernel
theorem dX12_isWay_69 : decode cX12_isWay 69 = .ok (.iload_n 1, 1) := by decide +kernel
theorem dX12_isWay_70 : decode cX12_isWay 70 = .ok (.iconst 2, 1) := by decide +kernel
theorem dX12_isWay_71 : decode cX12_isWay 71 = .ok (.iadd, 1) := by decide +kernel
theorem dX12_isWay_72 : decode cX12_isWay 72 = .ok (.iconst 0, 1) := by decide +kernel
theorem dX12_isWay_73 : decode cX12_isWay 73 = .ok (.iastore, 1) := by decide +kernel
theorem dX12_isWay_74 : decode cX12_isWay 74 = .ok (.aload_n 0, 1) := by decide +kernel
theorem dX12_isWay_75 : decode cX12_isWay 75 = .ok (.getfield 38, 3) := by decide +kernel
theorem dX12_isWay_78 : decode cX12_isWay 78 = .ok (.iload_n 1, 1) := by decide +kernel
theorem dX12_isWay_79 : decode cX12_isWay 79 = .ok (.iaload, 1) := by decide +kernel
theorem dX12_isWay_80 : decode cX12_isWay 80 = .ok (.ifCond .eq 37, 3) := by decide +kernel
theorem dX12_isWay_83 : decode cX12_isWay 83 = .ok (.aload_n 0, 1) := by decide +kernel
theorem dX12_isWay_84 : decode cX12_isWay 84 = .ok (.iload_n 1, 1) := by decide +kernel
theorem dX12_isWay_85 : decode cX12_isWay 85 = .ok (.iconst 1, 1) := by decide +kernel
theorem dX12_isWay_86 : decode cX12_isWay 86 = .ok (.iadd, 1) := by decide +kernel
theorem dX12_isWay_87 : decode cX12_isWay 87 = .ok (.bipush 99, 2) := by decide +kernel
theorem dX12_isWay_89 : decode cX12_isWay 89 = .ok (.invokevirtual 163, 3) := by decide +kernel
theorem dX12_isWay_92 : decode cX12_isWay 92 = .ok (.ifCond .eq 29, 3) := by decide +kernel
theorem dX12_isWay_95 : decode cX12_isWay 95 = .ok (.aload_n 0, 1) := by decide +kernel
theorem dX12_isWay_96 : decode cX12_isWay 96 = .ok (.getfield 38, 3) := by decide +kernel
theorem dX12_isWay_99 : decode cX12_isWay 99 = .ok (.iload_n 1, 1) := by decide +kernel
theorem dX12_isWay_100 : decode cX12_isWay 100 = .ok (.iaload, 1) := by decide +kernel
theorem dX12_isWay_101 : decode cX12_isWay 101 = .ok (.iconst 1, 1) := by decide +kernel
theorem dX12_isWay_102 : decode cX12_isWay 102 = .ok (.if_icmp .eq 15, 3) := by decide +kernel
theorem dX12_isWay_105 : decode cX12_isWay 105 = .ok (.aload_n 0, 1) := by decide +kernel
theorem dX12_isWay_106 : decode cX12_isWay 106 = .ok (.iload_n 1, 1) := by decide +kernel
theorem dX12_isWay_107 : decode cX12_isWay 107 = .ok (.iconst 2, 1) := by decide +kernel
theorem dX12_isWay_108 : decode cX12_isWay 108 = .ok (.iadd, 1) := by decide +kernel
theorem dX12_isWay_109 : decode cX12_isWay 109 = .ok (.bipush 9, 2) := by decide +kernel
theorem dX12_isWay_111 : decode cX12_isWay 111 = .ok (.invokevirtual 163, 3) := by decide +kernel
theorem dX12_isWay_114 : decode cX12_isWay 114 = .ok (.ifCond .eq 7, 3) := by decide +kernel
theorem dX12_isWay_117 : decode cX12_isWay 117 = .ok (.iconst 1, 1) := by decide +kernel
theorem dX12_isWay_118 : decode cX12_isWay 118 = .ok (.goto 4, 3) := by decide +kernel
theorem dX12_isWay_121 : decode cX12_isWay 121 = .ok (.iconst 0, 1) := by decide +kernel
theorem dX12_isWay_122 : decode cX12_isWay 122 = .ok (.ireturn, 1) := by decide +kernel
theorem dX12_isLine_0 : decode cX12_isLine 0 = .ok (.aload_n 0, 1) := by decide +kernel
theorem dX12_isLine_1 : decode cX12_isLine 1 = .ok (.invokevirtual 146, 3) := by decide +kernel
theorem dX12_isLine_4 : decode cX12_isLine 4 = .ok (.aload_n 0, 1) := by decide +kernel
theorem dX12_isLine_5 : decode cX12_isLine 5 = .ok (.getfield 129, 3) := by decide +kernel
theorem dX12_isLine_8 : decode cX12_isLine 8 = .ok (.ldc2_w 166, 3) := by decide +kernel
theorem dX12_isLine_11 : decode cX12_isLine 11 = .ok (.lcmp, 1) := by decide +kernel
theorem dX12_isLine_12 : decode cX12_isLine 12 = .ok (.ifCond .ne 18, 3) := by decide +kernel
theorem dX12_isLine_15 : decode cX12_isLine 15 = .ok (.aload_n 0, 1) := by decide +kernel
theorem dX12_isLine_16 : decode cX12_isLine 16 = .ok (.iconst 0, 1) := by decide +kernel
theorem dX12_isLine_17 : decode cX12_isLine 17 = .ok (.ldc2_w 168, 3) := by decide +kernel
theorem dX12_isLine_20 : decode cX12_isLine 20 = .ok (.ldc2_w 170, 3) := by decide +kernel
theorem dX12_isLine_23 : decode cX12_isLine 23 = .ok (.ldc2_w 172, 3) := by decide +kernel
theorem dX12_isLine_26 : decode cX12_isLine 26 = .ok (.invokevirtual 159, 3) := by decide +kernel
theorem dX12_isLine_29 : decode cX12_isLine 29 = .ok (.ireturn, 1) := by decide +kernel
theorem dX12_isLine_30 : decode cX12_isLine 30 = .ok (.aload_n 0, 1) := by decide +kernel
theorem dX12_isLine_31 : decode cX12_isLine 31 = .ok (.getfield 129, 3) := by decide +kernel
theorem dX12_isLine_34 : decode cX12_isLine 34 = .ok (.ldc2_w 174, 3) := by decide +kernel
theorem dX12_isLine_37 : decode cX12_isLine 37 = .ok (.lcmp, 1) := by decide +kernel
theorem dX12_isLine_38 : decode cX12_isLine 38 = .ok (.ifCond .ne 11, 3) := by decide +kernel
theorem dX12_isLine_41 : decode cX12_isLine 41 = .ok (.aload_n 0, 1) := by decide +kernel
theorem dX12_isLine_42 : decode cX12_isLine 42 = .ok (.iconst 1, 1) := by decide +kernel
theorem dX12_isLine_43 : decode cX12_isLine 43 = .ok (.bipush 9, 2) := by decide +kernel
theorem dX12_isLine_45 : decode cX12_isLine 45 = .ok (.invokevirtual 163, 3) := by decide +kernel
theorem dX12_isLine_48 : decode cX12_isLine 48 = .ok (.ireturn, 1) := by decide +kernel
theorem dX12_isLine_49 : decode cX12_isLine 49 = .ok (.aload_n 0, 1) := by decide +kernel
theorem dX12_isLine_50 : decode cX12_isLine 50 = .ok (.getfield 129, 3) := by decide +kernel
theorem dX12_isLine_53 : decode cX12_isLine 53 = .ok (.ldc2_w 176, 3) := by decide +kernel
theorem dX12_isLine_56 : decode cX12_isLine 56 = .ok (.lcmp, 1) := by decide +kernel
theorem dX12_isLine_57 : decode cX12_isLine 57 = .ok (.ifCond .ne 18, 3) := by decide +kernel
theorem dX12_isLine_60 : decode cX12_isLine 60 = .ok (.aload_n 0, 1) := by decide +kernel
theorem dX12_isLine_61 : decode cX12_isLine 61 = .ok (.iconst 2, 1) := by decide +kernel
theorem dX12_isLine_62 : decode cX12_isLine 62 = .ok (.ldc2_w 178, 3) := by decide +kernel
theorem dX12_isLine_65 : decode cX12_isLine 65 = .ok (.ldc2_w 180, 3) := by decide +kernel
theorem dX12_isLine_68 : decode cX12_isLine 68 = .ok (.ldc2_w 182, 3) := by decide +kernel
theorem dX12_isLine_71 : decode cX12_isLine 71 = .ok (.invokevirtual 159, 3) := by decide +kernel
theorem dX12_isLine_74 : decode cX12_isLine 74 = .ok (.ireturn, 1) := by decide +kernel
theorem dX12_isLine_75 : decode cX12_isLine 75 = .ok (.aload_n 0, 1) := by decide +kernel
theorem dX12_isLine_76 : decode cX12_isLine 76 = .ok (.getfield 129, 3) := by decide +kernel
theorem dX12_isLine_79 : decode cX12_isLine 79 = .ok (.ldc2_w 184, 3) := by decide +kernel
theorem dX12_isLine_82 : decode cX12_isLine 82 = .ok (.lcmp, 1) := by decide +kernel
theorem dX12_isLine_83 : decode cX12_isLine 83 = .ok (.ifCond .ne 11, 3) := by decide +kernel
theorem dX12_isLine_86 : decode cX12_isLine 86 = .ok (.aload_n 0, 1) := by decide +kernel
theorem dX12_isLine_87 : decode cX12_isLine 87 = .ok (.iconst 3, 1) := by decide +kernel
theorem dX12_isLine_88 : decode cX12_isLine 88 = .ok (.bipush 9, 2) := by decide +kernel
theorem dX12_isLine_90 : decode cX12_isLine 90 = .ok (.invokevirtual 163, 3) := by decide +kernel
theorem dX12_isLine_93 : decode cX12_isLine 93 = .ok (.ireturn, 1) := by decide +kernel
theorem dX12_isLine_94 : decode cX12_isLine 94 = .ok (.aload_n 0, 1) := by decide +kernel
theorem dX12_isLine_95 : decode cX12_isLine 95 = .ok (.getfield 129, 3) := by decide +kernel
theorem dX12_isLine_98 : decode cX12_isLine 98 = .ok (.ldc2_w 186, 3) := by decide +kernel
theorem dX12_isLine_101 : decode cX12_isLine 101 = .ok (.lcmp, 1) := by decide +kernel
theorem dX12_isLine_102 : decode cX12_isLine 102 = .ok (.ifCond .ne 10, 3) := by decide +kernel
theorem dX12_isLine_105 : decode cX12_isLine 105 = .ok (.aload_n 0, 1) := by decide +kernel
theorem dX12_isLine_106 : decode cX12_isLine 106 = .ok (.invokevirtual 188, 3) := by decide +kernel
theorem dX12_isLine_109 : decode cX12_isLine 109 = .ok (.goto 7, 3) := by decide +kernel
theorem dX12_isLine_112 : decode cX12_isLine 112 = .ok (.aload_n 0, 1) := by decide +kernel
theorem dX12_isLine_113 : decode cX12_isLine 113 = .ok (.invokevirtual 149, 3) := by decide +kernel
theorem dX12_isLine_116 : decode cX12_isLine 116 = .ok (.ireturn, 1) := by decide +kernel
theorem dX12_isRead_0 : decode cX12_isRead 0 = .ok (.aload_n 0, 1) := by decide +kernel
theorem dX12_isRead_1 : decode cX12_isRead 1 = .ok (.iconst 0, 1) := by decide +kernel
theorem dX12_isRead_2 : decode cX12_isRead 2 = .ok (.putfield 115, 3) := by decide +kernel
theorem dX12_isRead_5 : decode cX12_isRead 5 = .ok (.aload_n 0, 1) := by decide +kernel
theorem dX12_isRead_6 : decode cX12_isRead 6 = .ok (.iconst 0, 1) := by decide +kernel
theorem dX12_isRead_7 : decode cX12_isRead 7 = .ok (.putfield 191, 3) := by decide +kernel
theorem dX12_isRead_10 : decode cX12_isRead 10 = .ok (.aload_n 0, 1) := by decide +kernel
theorem dX12_isRead_11 : decode cX12_isRead 11 = .ok (.getfield 38, 3) := by decide +kernel
theorem dX12_isRead_14 : decode cX12_isRead 14 = .ok (.invokestatic 71, 3) := by decide +kernel
theorem dX12_isRead_17 : decode cX12_isRead 17 = .ok (.iconst 1, 1) := by decide +kernel
theorem dX12_isRead_18 : decode cX12_isRead 18 = .ok (.istore_n 1, 1) := by decide +kernel
theorem dX12_isRead_19 : decode cX12_isRead 19 = .ok (.iload_n 1, 1) := by decide +kernel
theorem dX12_isRead_20 : decode cX12_isRead 20 = .ok (.ifCond .eq 55, 3) := by decide +kernel
theorem dX12_isRead_23 : decode cX12_isRead 23 = .ok (.aload_n 0, 1) := by decide +kernel
theorem dX12_isRead_24 : decode cX12_isRead 24 = .ok (.invokevirtual 194, 3) := by decide +kernel
theorem dX12_isRead_27 : decode cX12_isRead 27 = .ok (.ifCond .ne 5, 3) := by decide +kernel
theorem dX12_isRead_30 : decode cX12_isRead 30 = .ok (.iconst 0, 1) := by decide +kernel
theorem dX12_isRead_31 : decode cX12_isRead 31 = .ok (.ireturn, 1) := by decide +kernel
theorem dX12_isRead_32 : decode cX12_isRead 32 = .ok (.aload_n 0, 1) := by decide +kernel
theorem dX12_isRead_33 : decode cX12_isRead 33 = .ok (.dup, 1) := by decide +kernel
theorem dX12_isRead_34 : decode cX12_isRead 34 = .ok (.getfield 191, 3) := by decide +kernel
theorem dX12_isRead_37 : decode cX12_isRead 37 = .ok (.iconst 1, 1) := by decide +kernel
theorem dX12_isRead_38 : decode cX12_isRead 38 = .ok (.iadd, 1) := by decide +kernel
theorem dX12_isRead_39 : decode cX12_isRead 39 = .ok (.putfield 191, 3) := by decide +kernel
theorem dX12_isRead_42 : decode cX12_isRead 42 = .ok (.aload_n 0, 1) := by decide +kernel
theorem dX12_isRead_43 : decode cX12_isRead 43 = .ok (.invokevirtual 146, 3) := by decide +kernel
theorem dX12_isRead_46 : decode cX12_isRead 46 = .ok (.aload_n 0, 1) := by decide +kernel
theorem dX12_isRead_47 : decode cX12_isRead 47 = .ok (.getfield 129, 3) := by decide +kernel
theorem dX12_isRead_50 : decode cX12_isRead 50 = .ok (.ldc2_w 141, 3) := by decide +kernel
theorem dX12_isRead_53 : decode cX12_isRead 53 = .ok (.lcmp, 1) := by decide +kernel
theorem dX12_isRead_54 : decode cX12_isRead 54 = .ok (.ifCond .ne 16, 3) := by decide +kernel
theorem dX12_isRead_57 : decode cX12_isRead 57 = .ok (.aload_n 0, 1) := by decide +kernel
theorem dX12_isRead_58 : decode cX12_isRead 58 = .ok (.getfield 191, 3) := by decide +kernel
theorem dX12_isRead_61 : decode cX12_isRead 61 = .ok (.bipush 12, 2) := by decide +kernel
theorem dX12_isRead_63 : decode cX12_isRead 63 = .ok (.if_icmp .ge 7, 3) := by decide +kernel
theorem dX12_isRead_66 : decode cX12_isRead 66 = .ok (.iconst 1, 1) := by decide +kernel
theorem dX12_isRead_67 : decode cX12_isRead 67 = .ok (.goto 4, 3) := by decide +kernel
theorem dX12_isRead_70 : decode cX12_isRead 70 = .ok (.iconst 0, 1) := by decide +kernel
theorem dX12_isRead_71 : decode cX12_isRead 71 = .ok (.istore_n 1, 1) := by decide +kernel
theorem dX12_isRead_72 : decode cX12_isRead 72 = .ok (.goto (-53), 3) := by decide +kernel
theorem dX12_isRead_75 : decode cX12_isRead 75 = .ok (.aload_n 0, 1) := by decide +kernel
theorem dX12_isRead_76 : decode cX12_isRead 76 = .ok (.getfield 129, 3) := by decide +kernel
theorem dX12_isRead_79 : decode cX12_isRead 79 = .ok (.ldc2_w 127, 3) := by decide +kernel
theorem dX12_isRead_82 : decode cX12_isRead 82 = .ok (.lcmp, 1) := by decide +kernel
theorem dX12_isRead_83 : decode cX12_isRead 83 = .ok (.ifCond .eq 10, 3) := by decide +kernel
theorem dX12_isRead_86 : decode cX12_isRead 86 = .ok (.aload_n 0, 1) := by decide +kernel
theorem dX12_isRead_87 : decode cX12_isRead 87 = .ok (.invokevirtual 149, 3) := by decide +kernel
theorem dX12_isRead_90 : decode cX12_isRead 90 = .ok (.ifCond .eq 7, 3) := by decide +kernel
theorem dX12_isRead_93 : decode cX12_isRead 93 = .ok (.iconst 1, 1) := by decide +kernel
theorem dX12_isRead_94 : decode cX12_isRead 94 = .ok (.goto 4, 3) := by decide +kernel
theorem dX12_isRead_97 : decode cX12_isRead 97 = .ok (.iconst 0, 1) := by decide +kernel
theorem dX12_isRead_98 : decode cX12_isRead 98 = .ok (.ireturn, 1) := by decide +kernel
theorem dX12_fault_0 : decode cX12_fault 0 = .ok (.aload_n 0, 1) := by decide +kernel
theorem dX12_fault_1 : decode cX12_fault 1 = .ok (.invokevirtual 197, 3) := by decide +kernel
theorem dX12_fault_4 : decode cX12_fault 4 = .ok (.ifCond .eq 7, 3) := by decide +kernel
theorem dX12_fault_7 : decode cX12_fault 7 = .ok (.iconst (-1), 1) := by decide +kernel
theorem dX12_fault_8 : decode cX12_fault 8 = .ok (.goto 7, 3) := by decide +kernel
theorem dX12_fault_11 : decode cX12_fault 11 = .ok (.aload_n 0, 1) := by decide +kernel
theorem dX12_fault_12 : decode cX12_fault 12 = .ok (.getfield 143, 3) := by decide +kernel
theorem dX12_fault_15 : decode cX12_fault 15 = .ok (.ireturn, 1) := by decide +kernel
theorem dX12_rules_0 : decode cX12_rules 0 = .ok (.aload_n 0, 1) := by decide +kernel
theorem dX12_rules_1 : decode cX12_rules 1 = .ok (.invokevirtual 197, 3) := by decide +kernel
theorem dX12_rules_4 : decode cX12_rules 4 = .ok (.ifCond .ne 6, 3) := by decide +kernel
theorem dX12_rules_7 : decode cX12_rules 7 = .ok (.bipush (-4), 2) := by decide +kernel
theorem dX12_rules_9 : decode cX12_rules 9 = .ok (.ireturn, 1) := by decide +kernel
theorem dX12_rules_10 : decode cX12_rules 10 = .ok (.iconst 0, 1) := by decide +kernel
theorem dX12_rules_11 : decode cX12_rules 11 = .ok (.istore_n 1, 1) := by decide +kernel
theorem dX12_rules_12 : decode cX12_rules 12 = .ok (.iload_n 1, 1) := by decide +kernel
theorem dX12_rules_13 : decode cX12_rules 13 = .ok (.bipush 16, 2) := by decide +kernel
theorem dX12_rules_15 : decode cX12_rules 15 = .ok (.if_icmp .ge 21, 3) := by decide +kernel
theorem dX12_rules_18 : decode cX12_rules 18 = .ok (.aload_n 0, 1) := by decide +kernel
theorem dX12_rules_19 : decode cX12_rules 19 = .ok (.getfield 41, 3) := by decide +kernel
theorem dX12_rules_22 : decode cX12_rules 22 = .ok (.iload_n 1, 1) := by decide +kernel
theorem dX12_rules_23 : decode cX12_rules 23 = .ok (.aload_n 0, 1) := by decide +kernel
theorem dX12_rules_24 : decode cX12_rules 24 = .ok (.getfield 38, 3) := by decide +kernel
theorem dX12_rules_27 : decode cX12_rules 27 = .ok (.iload_n 1, 1) := by decide +kernel
theorem dX12_rules_28 : decode cX12_rules 28 = .ok (.iaload, 1) := by decide +kernel
theorem dX12_rules_29 : decode cX12_rules 29 = .ok (.iastore, 1) := by decide +kernel
theorem dX12_rules_30 : decode cX12_rules 30 = .ok (.iinc 1 1, 3) := by decide +kernel
theorem dX12_rules_33 : decode cX12_rules 33 = .ok (.goto (-21), 3) := by decide +kernel
theorem dX12_rules_36 : decode cX12_rules 36 = .ok (.aload_n 0, 1) := by decide +kernel
theorem dX12_rules_37 : decode cX12_rules 37 = .ok (.iconst 0, 1) := by decide +kernel
theorem dX12_rules_38 : decode cX12_rules 38 = .ok (.putfield 110, 3) := by decide +kernel
theorem dX12_rules_41 : decode cX12_rules 41 = .ok (.aload_n 0, 1) := by decide +kernel
theorem dX12_rules_42 : decode cX12_rules 42 = .ok (.getfield 191, 3) := by decide +kernel
theorem dX12_rules_45 : decode cX12_rules 45 = .ok (.ireturn, 1) := by decide +kernel
end
section
theorem dX12_rule_0 : decode cX12_rule 0 = .ok (.iload_n 1, 1) := by decide +kernel
theorem dX12_rule_1 : decode cX12_rule 1 = .ok (.invokestatic 79, 3) := by decide +kernel
theorem dX12_rule_4 : decode cX12_rule 4 = .ok (.ifCond .eq 12, 3) := by decide +kernel
theorem dX12_rule_7 : decode cX12_rule 7 = .ok (.aload_n 0, 1) := by decide +kernel
theorem dX12_rule_8 : decode cX12_rule 8 = .ok (.getfield 41, 3) := by decide +kernel
theorem dX12_rule_11 : decode cX12_rule 11 = .ok (.iload_n 1, 1) := by decide +kernel
theorem dX12_rule_12 : decode cX12_rule 12 = .ok (.iaload, 1) := by decide +kernel
theorem dX12_rule_13 : decode cX12_rule 13 = .ok (.goto 5, 3) := by decide +kernel
theorem dX12_rule_16 : decode cX12_rule 16 = .ok (.bipush (-3), 2) := by decide +kernel
theorem dX12_rule_18 : decode cX12_rule 18 = .ok (.ireturn, 1) := by decide +kernel
theorem dX12_way_0 : decode cX12_way 0 = .ok (.iload_n 1, 1) := by decide +kernel
theorem dX12_way_1 : decode cX12_way 1 = .ok (.invokestatic 79, 3) := by decide +kernel
theorem dX12_way_4 : decode cX12_way 4 = .ok (.ifCond .ne 6, 3) := by decide +kernel
theorem dX12_way_7 : decode cX12_way 7 = .ok (.bipush (-2), 2) := by decide +kernel
theorem dX12_way_9 : decode cX12_way 9 = .ok (.ireturn, 1) := by decide +kernel
theorem dX12_way_10 : decode cX12_way 10 = .ok (.iload_n 2, 1) := by decide +kernel
theorem dX12_way_11 : decode cX12_way 11 = .ok (.iconst 0, 1) := by decide +kernel
theorem dX12_way_12 : decode cX12_way 12 = .ok (.iconst 2, 1) := by decide +kernel
theorem dX12_way_13 : decode cX12_way 13 = .ok (.invokestatic 75, 3) := by decide +kernel
theorem dX12_way_16 : decode cX12_way 16 = .ok (.ifCond .eq 18, 3) := by decide +kernel
theorem dX12_way_19 : decode cX12_way 19 = .ok (.aload_n 0, 1) := by decide +kernel
theorem dX12_way_20 : decode cX12_way 20 = .ok (.getfield 41, 3) := by decide +kernel
theorem dX12_way_23 : decode cX12_way 23 = .ok (.iconst 4, 1) := by decide +kernel
theorem dX12_way_24 : decode cX12_way 24 = .ok (.iconst 3, 1) := by decide +kernel
theorem dX12_way_25 : decode cX12_way 25 = .ok (.iload_n 1, 1) := by decide +kernel
theorem dX12_way_26 : decode cX12_way 26 = .ok (.imul, 1) := by decide +kernel
theorem dX12_way_27 : decode cX12_way 27 = .ok (.iadd, 1) := by decide +kernel
theorem dX12_way_28 : decode cX12_way 28 = .ok (.iload_n 2, 1) := by decide +kernel
theorem dX12_way_29 : decode cX12_way 29 = .ok (.iadd, 1) := by decide +kernel
theorem dX12_way_30 : decode cX12_way 30 = .ok (.iaload, 1) := by decide +kernel
theorem dX12_way_31 : decode cX12_way 31 = .ok (.goto 5, 3) := by decide +kernel
theorem dX12_way_34 : decode cX12_way 34 = .ok (.bipush (-3), 2) := by decide +kernel
theorem dX12_way_36 : decode cX12_way 36 = .ok (.ireturn, 1) := by decide +kernel
theorem dX12_keepRules_0 : decode cX12_keepRules 0 = .ok (.iconst 0, 1) := by decide +kernel
theorem dX12_keepRules_1 : decode cX12_keepRules 1 = .ok (.istore_n 1, 1) := by decide +kernel
theorem dX12_keepRules_2 : decode cX12_keepRules 2 = .ok (.iload_n 1, 1) := by decide +kernel
theorem dX12_keepRules_3 : decode cX12_keepRules 3 = .ok (.bipush 16, 2) := by decide +kernel
theorem dX12_keepRules_5 : decode cX12_keepRules 5 = .ok (.if_icmp .ge 21, 3) := by decide +kernel
theorem dX12_keepRules_8 : decode cX12_keepRules 8 = .ok (.aload_n 0, 1) := by decide +kernel
theorem dX12_keepRules_9 : decode cX12_keepRules 9 = .ok (.getfield 44, 3) := by decide +kernel
theorem dX12_keepRules_12 : decode cX12_keepRules 12 = .ok (.iload_n 1, 1) := by decide +kernel
theorem dX12_keepRules_13 : decode cX12_keepRules 13 = .ok (.aload_n 0, 1) := by decide +kernel
theorem dX12_keepRules_14 : decode cX12_keepRules 14 = .ok (.getfield 41, 3) := by decide +kernel
theorem dX12_keepRules_17 : decode cX12_keepRules 17 = .ok (.iload_n 1, 1) := by decide +kernel
theorem dX12_keepRules_18 : decode cX12_keepRules 18 = .ok (.iaload, 1) := by decide +kernel
theorem dX12_keepRules_19 : decode cX12_keepRules 19 = .ok (.iastore, 1) := by decide +kernel
theorem dX12_keepRules_20 : decode cX12_keepRules 20 = .ok (.iinc 1 1, 3) := by decide +kernel
theorem dX12_keepRules_23 : decode cX12_keepRules 23 = .ok (.goto (-21), 3) := by decide +kernel
theorem dX12_keepRules_26 : decode cX12_keepRules 26 = .ok (.return_, 1) := by decide +kernel
theorem dX12_layBackRules_0 : decode cX12_layBackRules 0 = .ok (.iconst 0, 1) := by decide +kernel
theorem dX12_layBackRules_1 : decode cX12_layBackRules 1 = .ok (.istore_n 1, 1) := by decide +kernel
theorem dX12_layBackRules_2 : decode cX12_layBackRules 2 = .ok (.iload_n 1, 1) := by decide +kernel
theorem dX12_layBackRules_3 : decode cX12_layBackRules 3 = .ok (.bipush 16, 2) := by decide +kernel
theorem dX12_layBackRules_5 : decode cX12_layBackRules 5 = .ok (.if_icmp .ge 21, 3) := by decide +kernel
theorem dX12_layBackRules_8 : decode cX12_layBackRules 8 = .ok (.aload_n 0, 1) := by decide +kernel
theorem dX12_layBackRules_9 : decode cX12_layBackRules 9 = .ok (.getfield 41, 3) := by decide +kernel
theorem dX12_layBackRules_12 : decode cX12_layBackRules 12 = .ok (.iload_n 1, 1) := by decide +kernel
theorem dX12_layBackRules_13 : decode cX12_layBackRules 13 = .ok (.aload_n 0, 1) := by decide +kernel
theorem dX12_layBackRules_14 : decode cX12_layBackRules 14 = .ok (.getfield 44, 3) := by decide +kernel
theorem dX12_layBackRules_17 : decode cX12_layBackRules 17 = .ok (.iload_n 1, 1) := by decide +kernel
theorem dX12_layBackRules_18 : decode cX12_layBackRules 18 = .ok (.iaload, 1) := by decide +kernel
theorem dX12_layBackRules_19 : decode cX12_layBackRules 19 = .ok (.iastore, 1) := by decide +kernel
theorem dX12_layBackRules_20 : decode cX12_layBackRules 20 = .ok (.iinc 1 1, 3) := by decide +kernel
theorem dX12_layBackRules_23 : decode cX12_layBackRules 23 = .ok (.goto (-21), 3) := by decide +kernel
theorem dX12_layBackRules_26 : decode cX12_layBackRules 26 = .ok (.return_, 1) := by decide +kernel
theorem dX12_goOn_0 : decode cX12_goOn 0 = .ok (.iconst 0, 1) := by decide +kernel
theorem dX12_goOn_1 : decode cX12_goOn 1 = .ok (.istore_n 2, 1) := by decide +kernel
theorem dX12_goOn_2 : decode cX12_goOn 2 = .ok (.iload_n 2, 1) := by decide +kernel
theorem dX12_goOn_3 : decode cX12_goOn 3 = .ok (.bipush 88, 2) := by decide +kernel
theorem dX12_goOn_5 : decode cX12_goOn 5 = .ok (.if_icmp .ge 21, 3) := by decide +kernel
theorem dX12_goOn_8 : decode cX12_goOn 8 = .ok (.aload_n 0, 1) := by decide +kernel
theorem dX12_goOn_9 : decode cX12_goOn 9 = .ok (.getfield 25, 3) := by decide +kernel
theorem dX12_goOn_12 : decode cX12_goOn 12 = .ok (.iload_n 2, 1) := by decide +kernel
theorem dX12_goOn_13 : decode cX12_goOn 13 = .ok (.aload_n 0, 1) := by decide +kernel
theorem dX12_goOn_14 : decode cX12_goOn 14 = .ok (.getfield 22, 3) := by decide +kernel
theorem dX12_goOn_17 : decode cX12_goOn 17 = .ok (.iload_n 2, 1) := by decide +kernel
theorem dX12_goOn_18 : decode cX12_goOn 18 = .ok (.iaload, 1) := by decide +kernel
theorem dX12_goOn_19 : decode cX12_goOn 19 = .ok (.iastore, 1) := by decide +kernel
theorem dX12_goOn_20 : decode cX12_goOn 20 = .ok (.iinc 2 1, 3) := by decide +kernel
theorem dX12_goOn_23 : decode cX12_goOn 23 = .ok (.goto (-21), 3) := by decide +kernel
theorem dX12_goOn_26 : decode cX12_goOn 26 = .ok (.iconst 0, 1) := by decide +kernel
theorem dX12_goOn_27 : decode cX12_goOn 27 = .ok (.istore_n 2, 1) := by decide +kernel
theorem dX12_goOn_28 : decode cX12_goOn 28 = .ok (.iload_n 2, 1) := by decide +kernel
theorem dX12_goOn_29 : decode cX12_goOn 29 = .ok (.iload_n 1, 1) := by decide +kernel
theorem dX12_goOn_30 : decode cX12_goOn 30 = .ok (.if_icmp .ge 13, 3) := by decide +kernel
theorem dX12_goOn_33 : decode cX12_goOn 33 = .ok (.aload_n 0, 1) := by decide +kernel
theorem dX12_goOn_34 : decode cX12_goOn 34 = .ok (.invokevirtual 107, 3) := by decide +kernel
theorem dX12_goOn_37 : decode cX12_goOn 37 = .ok (.iinc 2 1, 3) := by decide +kernel
theorem dX12_goOn_40 : decode cX12_goOn 40 = .ok (.goto (-12), 3) := by decide +kernel
theorem dX12_goOn_43 : decode cX12_goOn 43 = .ok (.return_, 1) := by decide +kernel
theorem dX12_layBack_0 : decode cX12_layBack 0 = .ok (.iconst 0, 1) := by decide +kernel
theorem dX12_layBack_1 : decode cX12_layBack 1 = .ok (.istore_n 1, 1) := by decide +kernel
theorem dX12_layBack_2 : decode cX12_layBack 2 = .ok (.iload_n 1, 1) := by decide +kernel
theorem dX12_layBack_3 : decode cX12_layBack 3 = .ok (.bipush 88, 2) := by decide +kernel
theorem dX12_layBack_5 : decode cX12_layBack 5 = .ok (.if_icmp .ge 21, 3) := by decide +kernel
theorem dX12_layBack_8 : decode cX12_layBack 8 = .ok (.aload_n 0, 1) := by decide +kernel
theorem dX12_layBack_9 : decode cX12_layBack 9 = .ok (.getfield 22, 3) := by decide +kernel
theorem dX12_layBack_12 : decode cX12_layBack 12 = .ok (.iload_n 1, 1) := by decide +kernel
theorem dX12_layBack_13 : decode cX12_layBack 13 = .ok (.aload_n 0, 1) := by decide +kernel
theorem dX12_layBack_14 : decode cX12_layBack 14 = .ok (.getfield 25, 3) := by decide +kernel
theorem dX12_layBack_17 : decode cX12_layBack 17 = .ok (.iload_n 1, 1) := by decide +kernel
theorem dX12_layBack_18 : decode cX12_layBack 18 = .ok (.iaload, 1) := by decide +kernel
theorem dX12_layBack_19 : decode cX12_layBack 19 = .ok (.iastore, 1) := by decide +kernel
theorem dX12_layBack_20 : decode cX12_layBack 20 = .ok (.iinc 1 1, 3) := by decide +kernel
theorem dX12_layBack_23 : decode cX12_layBack 23 = .ok (.goto (-21), 3) := by decide +kernel
theorem dX12_layBack_26 : decode cX12_layBack 26 = .ok (.return_, 1) := by decide +kernel
theorem dX12_more_0 : decode cX12_more 0 = .ok (.iconst 0, 1) := by decide +kernel
theorem dX12_more_1 : decode cX12_more 1 = .ok (.istore_n 2, 1) := by decide +kernel
theorem dX12_more_2 : decode cX12_more 2 = .ok (.iconst 0, 1) := by decide +kernel
theorem dX12_more_3 : decode cX12_more 3 = .ok (.istore_n 3, 1) := by decide +kernel
theorem dX12_more_4 : decode cX12_more 4 = .ok (.iload_n 3, 1) := by decide +kernel
theorem dX12_more_5 : decode cX12_more 5 = .ok (.iconst 4, 1) := by decide +kernel
theorem dX12_more_6 : decode cX12_more 6 = .ok (.if_icmp .ge 29, 3) := by decide +kernel
theorem dX12_more_9 : decode cX12_more 9 = .ok (.iload_n 2, 1) := by decide +kernel
theorem dX12_more_10 : decode cX12_more 10 = .ok (.aload_n 0, 1) := by decide +kernel
theorem dX12_more_11 : decode cX12_more 11 = .ok (.getfield 22, 3) := by decide +kernel
theorem dX12_more_14 : decode cX12_more 14 = .ok (.iload_n 1, 1) := by decide +kernel
theorem dX12_more_15 : decode cX12_more 15 = .ok (.iload_n 3, 1) := by decide +kernel
theorem dX12_more_16 : decode cX12_more 16 = .ok (.iadd, 1) := by decide +kernel
theorem dX12_more_17 : decode cX12_more 17 = .ok (.iaload, 1) := by decide +kernel
theorem dX12_more_18 : decode cX12_more 18 = .ok (.aload_n 0, 1) := by decide +kernel
theorem dX12_more_19 : decode cX12_more 19 = .ok (.getfield 25, 3) := by decide +kernel
theorem dX12_more_22 : decode cX12_more 22 = .ok (.iload_n 1, 1) := by decide +kernel
theorem dX12_more_23 : decode cX12_more 23 = .ok (.iload_n 3, 1) := by decide +kernel
theorem dX12_more_24 : decode cX12_more 24 = .ok (.iadd, 1) := by decide +kernel
theorem dX12_more_25 : decode cX12_more 25 = .ok (.iaload, 1) := by decide +kernel
theorem dX12_more_26 : decode cX12_more 26 = .ok (.isub, 1) := by decide +kernel
theorem dX12_more_27 : decode cX12_more 27 = .ok (.iadd, 1) := by decide +kernel
theorem dX12_more_28 : decode cX12_more 28 = .ok (.istore_n 2, 1) := by decide +kernel
theorem dX12_more_29 : decode cX12_more 29 = .ok (.iinc 3 1, 3) := by decide +kernel
theorem dX12_more_32 : decode cX12_more 32 = .ok (.goto (-28), 3) := by decide +kernel
theorem dX12_more_35 : decode cX12_more 35 = .ok (.iload_n 2, 1) := by decide +kernel
theorem dX12_more_36 : decode cX12_more 36 = .ok (.ireturn, 1) := by decide +kernel
theorem dX12_would_0 : decode cX12_would 0 = .ok (.iload_n 1, 1) := by decide +kernel
theorem dX12_would_1 : decode cX12_would 1 = .ok (.iconst 1, 1) := by decide +kernel
theorem dX12_would_2 : decode cX12_would 2 = .ok (.bipush 60, 2) := by decide +kernel
theorem dX12_would_4 : decode cX12_would 4 = .ok (.invokestatic 75, 3) := by decide +kernel
theorem dX12_would_7 : decode cX12_would 7 = .ok (.ifCond .eq 12, 3) := by decide +kernel
theorem dX12_would_10 : decode cX12_would 10 = .ok (.iload_n 2, 1) := by decide +kernel
theorem dX12_would_11 : decode cX12_would 11 = .ok (.iconst 0, 1) := by decide +kernel
theorem dX12_would_12 : decode cX12_would 12 = .ok (.iconst 4, 1) := by decide +kernel
theorem dX12_would_13 : decode cX12_would 13 = .ok (.invokestatic 75, 3) := by decide +kernel
theorem dX12_would_16 : decode cX12_would 16 = .ok (.ifCond .ne 6, 3) := by decide +kernel
theorem dX12_would_19 : decode cX12_would 19 = .ok (.bipush (-3), 2) := by decide +kernel
theorem dX12_would_21 : decode cX12_would 21 = .ok (.ireturn, 1) := by decide +kernel
theorem dX12_would_22 : decode cX12_would 22 = .ok (.aload_n 0, 1) := by decide +kernel
theorem dX12_would_23 : decode cX12_would 23 = .ok (.iload_n 1, 1) := by decide +kernel
theorem dX12_would_24 : decode cX12_would 24 = .ok (.invokevirtual 200, 3) := by decide +kernel
theorem dX12_would_27 : decode cX12_would 27 = .ok (.iload_n 2, 1) := by decide +kernel
theorem dX12_would_28 : decode cX12_would 28 = .ok (.iconst 2, 1) := by decide +kernel
theorem dX12_would_29 : decode cX12_would 29 = .ok (.if_icmp .ne 21, 3) := by decide +kernel
theorem dX12_would_32 : decode cX12_would 32 = .ok (.aload_n 0, 1) := by decide +kernel
theorem dX12_would_33 : decode cX12_would 33 = .ok (.getfield 22, 3) := by decide +kernel
theorem dX12_would_36 : decode cX12_would 36 = .ok (.bipush 87, 2) := by decide +kernel
theorem dX12_would_38 : decode cX12_would 38 = .ok (.iaload, 1) := by decide +kernel
theorem dX12_would_39 : decode cX12_would 39 = .ok (.aload_n 0, 1) := by decide +kernel
theorem dX12_would_40 : decode cX12_would 40 = .ok (.getfield 25, 3) := by decide +kernel
theorem dX12_would_43 : decode cX12_would 43 = .ok (.bipush 87, 2) := by decide +kernel
theorem dX12_would_45 : decode cX12_would 45 = .ok (.iaload, 1) := by decide +kernel
theorem dX12_would_46 : decode cX12_would 46 = .ok (.isub, 1) := by decide +kernel
theorem dX12_would_47 : decode cX12_would 47 = .ok (.goto 38, 3) := by decide +kernel
theorem dX12_would_50 : decode cX12_would 50 = .ok (.aload_n 0, 1) := by decide +kernel
theorem dX12_would_51 : decode cX12_would 51 = .ok (.iload_n 2, 1) := by decide +kernel
theorem dX12_would_52 : decode cX12_would 52 = .ok (.ifCond .ne 8, 3) := by decide +kernel
theorem dX12_would_55 : decode cX12_would 55 = .ok (.bipush 80, 2) := by decide +kernel
theorem dX12_would_57 : decode cX12_would 57 = .ok (.goto 25, 3) := by decide +kernel
theorem dX12_would_60 : decode cX12_would 60 = .ok (.iload_n 2, 1) := by decide +kernel
theorem dX12_would_61 : decode cX12_would 61 = .ok (.iconst 1, 1) := by decide +kernel
theorem dX12_would_62 : decode cX12_would 62 = .ok (.if_icmp .ne 8, 3) := by decide +kernel
theorem dX12_would_65 : decode cX12_would 65 = .ok (.bipush 60, 2) := by decide +kernel
theorem dX12_would_67 : decode cX12_would 67 = .ok (.goto 15, 3) := by decide +kernel
theorem dX12_would_70 : decode cX12_would 70 = .ok (.iload_n 2, 1) := by decide +kernel
theorem dX12_would_71 : decode cX12_would 71 = .ok (.iconst 3, 1) := by decide +kernel
theorem dX12_would_72 : decode cX12_would 72 = .ok (.if_icmp .ne 8, 3) := by decide +kernel
theorem dX12_would_75 : decode cX12_would 75 = .ok (.bipush 72, 2) := by decide +kernel
theorem dX12_would_77 : decode cX12_would 77 = .ok (.goto 5, 3) := by decide +kernel
theorem dX12_would_80 : decode cX12_would 80 = .ok (.bipush 76, 2) := by decide +kernel
theorem dX12_would_82 : decode cX12_would 82 = .ok (.invokevirtual 203, 3) := by decide +kernel
theorem dX12_would_85 : decode cX12_would 85 = .ok (.istore_n 3, 1) := by decide +kernel
theorem dX12_would_86 : decode cX12_would 86 = .ok (.aload_n 0, 1) := by decide +kernel
theorem dX12_would_87 : decode cX12_would 87 = .ok (.invokevirtual 207, 3) := by decide +kernel
theorem dX12_would_90 : decode cX12_would 90 = .ok (.iload_n 3, 1) := by decide +kernel
theorem dX12_would_91 : decode cX12_would 91 = .ok (.ireturn, 1) := by decide +kernel
theorem dX12_gainOf_0 : decode cX12_gainOf 0 = .ok (.aload_n 0, 1) := by decide +kernel
theorem dX12_gainOf_1 : decode cX12_gainOf 1 = .ok (.getfield 22, 3) := by decide +kernel
theorem dX12_gainOf_4 : decode cX12_gainOf 4 = .ok (.bipush 68, 2) := by decide +kernel
theorem dX12_gainOf_6 : decode cX12_gainOf 6 = .ok (.iload_n 1, 1) := by decide +kernel
theorem dX12_gainOf_7 : decode cX12_gainOf 7 = .ok (.iadd, 1) := by decide +kernel
theorem dX12_gainOf_8 : decode cX12_gainOf 8 = .ok (.iaload, 1) := by decide +kernel
theorem dX12_gainOf_9 : decode cX12_gainOf 9 = .ok (.aload_n 0, 1) := by decide +kernel
theorem dX12_gainOf_10 : decode cX12_gainOf 10 = .ok (.getfield 25, 3) := by decide +kernel
theorem dX12_gainOf_13 : decode cX12_gainOf 13 = .ok (.bipush 68, 2) := by decide +kernel
theorem dX12_gainOf_15 : decode cX12_gainOf 15 = .ok (.iload_n 1, 1) := by decide +kernel
theorem dX12_gainOf_16 : decode cX12_gainOf 16 = .ok (.iadd, 1) := by decide +kernel
theorem dX12_gainOf_17 : decode cX12_gainOf 17 = .ok (.iaload, 1) := by decide +kernel
theorem dX12_gainOf_18 : decode cX12_gainOf 18 = .ok (.isub, 1) := by decide +kernel
theorem dX12_gainOf_19 : decode cX12_gainOf 19 = .ok (.aload_n 0, 1) := by decide +kernel
theorem dX12_gainOf_20 : decode cX12_gainOf 20 = .ok (.getfield 22, 3) := by decide +kernel
theorem dX12_gainOf_23 : decode cX12_gainOf 23 = .ok (.bipush 80, 2) := by decide +kernel
theorem dX12_gainOf_25 : decode cX12_gainOf 25 = .ok (.iload_n 1, 1) := by decide +kernel
theorem dX12_gainOf_26 : decode cX12_gainOf 26 = .ok (.iadd, 1) := by decide +kernel
theorem dX12_gainOf_27 : decode cX12_gainOf 27 = .ok (.iaload, 1) := by decide +kernel
theorem dX12_gainOf_28 : decode cX12_gainOf 28 = .ok (.isub, 1) := by decide +kernel
theorem dX12_gainOf_29 : decode cX12_gainOf 29 = .ok (.aload_n 0, 1) := by decide +kernel
theorem dX12_gainOf_30 : decode cX12_gainOf 30 = .ok (.getfield 25, 3) := by decide +kernel
theorem dX12_gainOf_33 : decode cX12_gainOf 33 = .ok (.bipush 80, 2) := by decide +kernel
theorem dX12_gainOf_35 : decode cX12_gainOf 35 = .ok (.iload_n 1, 1) := by decide +kernel
theorem dX12_gainOf_36 : decode cX12_gainOf 36 = .ok (.iadd, 1) := by decide +kernel
theorem dX12_gainOf_37 : decode cX12_gainOf 37 = .ok (.iaload, 1) := by decide +kernel
theorem dX12_gainOf_38 : decode cX12_gainOf 38 = .ok (.iadd, 1) := by decide +kernel
theorem dX12_gainOf_39 : decode cX12_gainOf 39 = .ok (.ireturn, 1) := by decide +kernel
theorem dX12_gain_0 : decode cX12_gain 0 = .ok (.iload_n 1, 1) := by decide +kernel
theorem dX12_gain_1 : decode cX12_gain 1 = .ok (.invokestatic 79, 3) := by decide +kernel
theorem dX12_gain_4 : decode cX12_gain 4 = .ok (.ifCond .eq 13, 3) := by decide +kernel
theorem dX12_gain_7 : decode cX12_gain 7 = .ok (.iload_n 2, 1) := by decide +kernel
theorem dX12_gain_8 : decode cX12_gain 8 = .ok (.iconst 1, 1) := by decide +kernel
theorem dX12_gain_9 : decode cX12_gain 9 = .ok (.bipush 60, 2) := by decide +kernel
theorem dX12_gain_11 : decode cX12_gain 11 = .ok (.invokestatic 75, 3) := by decide +kernel
theorem dX12_gain_14 : decode cX12_gain 14 = .ok (.ifCond .ne 6, 3) := by decide +kernel
theorem dX12_gain_17 : decode cX12_gain 17 = .ok (.ldc 210, 2) := by decide +kernel
theorem dX12_gain_19 : decode cX12_gain 19 = .ok (.ireturn, 1) := by decide +kernel
theorem dX12_gain_20 : decode cX12_gain 20 = .ok (.aload_n 0, 1) := by decide +kernel
theorem dX12_gain_21 : decode cX12_gain 21 = .ok (.iload_n 2, 1) := by decide +kernel
theorem dX12_gain_22 : decode cX12_gain 22 = .ok (.invokevirtual 200, 3) := by decide +kernel
theorem dX12_gain_25 : decode cX12_gain 25 = .ok (.aload_n 0, 1) := by decide +kernel
theorem dX12_gain_26 : decode cX12_gain 26 = .ok (.iload_n 1, 1) := by decide +kernel
theorem dX12_gain_27 : decode cX12_gain 27 = .ok (.invokevirtual 211, 3) := by decide +kernel
theorem dX12_gain_30 : decode cX12_gain 30 = .ok (.istore_n 3, 1) := by decide +kernel
theorem dX12_gain_31 : decode cX12_gain 31 = .ok (.aload_n 0, 1) := by decide +kernel
theorem dX12_gain_32 : decode cX12_gain 32 = .ok (.invokevirtual 207, 3) := by decide +kernel
theorem dX12_gain_35 : decode cX12_gain 35 = .ok (.iload_n 3, 1) := by decide +kernel
theorem dX12_gain_36 : decode cX12_gain 36 = .ok (.ireturn, 1) := by decide +kernel
theorem dX12_best_0 : decode cX12_best 0 = .ok (.iload_n 1, 1) := by decide +kernel
theorem dX12_best_1 : decode cX12_best 1 = .ok (.iconst 1, 1) := by decide +kernel
theorem dX12_best_2 : decode cX12_best 2 = .ok (.bipush 60, 2) := by decide +kernel
theorem dX12_best_4 : decode cX12_best 4 = .ok (.invokestatic 75, 3) := by decide +kernel
theorem dX12_best_7 : decode cX12_best 7 = .ok (.ifCond .eq 12, 3) := by decide +kernel
theorem dX12_best_10 : decode cX12_best 10 = .ok (.iload_n 2, 1) := by decide +kernel
theorem dX12_best_11 : decode cX12_best 11 = .ok (.iconst 0, 1) := by decide +kernel
theorem dX12_best_12 : decode cX12_best 12 = .ok (.iconst 1, 1) := by decide +kernel
theorem dX12_best_13 : decode cX12_best 13 = .ok (.invokestatic 75, 3) := by decide +kernel
theorem dX12_best_16 : decode cX12_best 16 = .ok (.ifCond .ne 6, 3) := by decide +kernel
theorem dX12_best_19 : decode cX12_best 19 = .ok (.bipush (-3), 2) := by decide +kernel
theorem dX12_best_21 : decode cX12_best 21 = .ok (.ireturn, 1) := by decide +kernel
theorem dX12_best_22 : decode cX12_best 22 = .ok (.aload_n 0, 1) := by decide +kernel
theorem dX12_best_23 : decode cX12_best 23 = .ok (.invokevirtual 214, 3) := by decide +kernel
theorem dX12_best_26 : decode cX12_best 26 = .ok (.iconst (-1), 1) := by decide +kernel
theorem dX12_best_27 : decode cX12_best 27 = .ok (.istore_n 3, 1) := by decide +kernel
theorem dX12_best_28 : decode cX12_best 28 = .ok (.iconst 0, 1) := by decide +kernel
theorem dX12_best_29 : decode cX12_best 29 = .ok (.istore 4, 2) := by decide +kernel
theorem dX12_best_31 : decode cX12_best 31 = .ok (.iconst 0, 1) := by decide +kernel
theorem dX12_best_32 : decode cX12_best 32 = .ok (.istore 5, 2) := by decide +kernel
theorem dX12_best_34 : decode cX12_best 34 = .ok (.iload 5, 2) := by decide +kernel
theorem dX12_best_36 : decode cX12_best 36 = .ok (.bipush 36, 2) := by decide +kernel
theorem dX12_best_38 : decode cX12_best 38 = .ok (.if_icmp .ge 79, 3) := by decide +kernel
theorem dX12_best_41 : decode cX12_best 41 = .ok (.aload_n 0, 1) := by decide +kernel
theorem dX12_best_42 : decode cX12_best 42 = .ok (.getfield 41, 3) := by decide +kernel
theorem dX12_best_45 : decode cX12_best 45 = .ok (.iconst 0, 1) := by decide +kernel
theorem dX12_best_46 : decode cX12_best 46 = .ok (.iload 5, 2) := by decide +kernel
theorem dX12_best_48 : decode cX12_best 48 = .ok (.bipush 12, 2) := by decide +kernel
theorem dX12_best_50 : decode cX12_best 50 = .ok (.idiv, 1) := by decide +kernel
theorem dX12_best_51 : decode cX12_best 51 = .ok (.iastore, 1) := by decide +kernel
theorem dX12_best_52 : decode cX12_best 52 = .ok (.aload_n 0, 1) := by decide +kernel
theorem dX12_best_53 : decode cX12_best 53 = .ok (.getfield 41, 3) := by decide +kernel
theorem dX12_best_56 : decode cX12_best 56 = .ok (.iconst 1, 1) := by decide +kernel
theorem dX12_best_57 : decode cX12_best 57 = .ok (.iload 5, 2) := by decide +kernel
theorem dX12_best_59 : decode cX12_best 59 = .ok (.bipush 12, 2) := by decide +kernel
theorem dX12_best_61 : decode cX12_best 61 = .ok (.irem, 1) := by decide +kernel
theorem dX12_best_62 : decode cX12_best 62 = .ok (.iconst 3, 1) := by decide +kernel
theorem dX12_best_63 : decode cX12_best 63 = .ok (.idiv, 1) := by decide +kernel
theorem dX12_best_64 : decode cX12_best 64 = .ok (.iastore, 1) := by decide +kernel
theorem dX12_best_65 : decode cX12_best 65 = .ok (.aload_n 0, 1) := by decide +kernel
theorem dX12_best_66 : decode cX12_best 66 = .ok (.getfield 41, 3) := by decide +kernel
theorem dX12_best_69 : decode cX12_best 69 = .ok (.iconst 2, 1) := by decide +kernel
theorem dX12_best_70 : decode cX12_best 70 = .ok (.iload 5, 2) := by decide +kernel
theorem dX12_best_72 : decode cX12_best 72 = .ok (.iconst 3, 1) := by decide +kernel
theorem dX12_best_73 : decode cX12_best 73 = .ok (.irem, 1) := by decide +kernel
theorem dX12_best_74 : decode cX12_best 74 = .ok (.iastore, 1) := by decide +kernel
theorem dX12_best_75 : decode cX12_best 75 = .ok (.aload_n 0, 1) := by decide +kernel
theorem dX12_best_76 : decode cX12_best 76 = .ok (.iload_n 1, 1) := by decide +kernel
theorem dX12_best_77 : decode cX12_best 77 = .ok (.invokevirtual 200, 3) := by decide +kernel
theorem dX12_best_80 : decode cX12_best 80 = .ok (.aload_n 0, 1) := by decide +kernel
theorem dX12_best_81 : decode cX12_best 81 = .ok (.bipush 80, 2) := by decide +kernel
theorem dX12_best_83 : decode cX12_best 83 = .ok (.invokevirtual 203, 3) := by decide +kernel
theorem dX12_best_86 : decode cX12_best 86 = .ok (.istore 6, 2) := by decide +kernel
theorem dX12_best_88 : decode cX12_best 88 = .ok (.aload_n 0, 1) := by decide +kernel
theorem dX12_best_89 : decode cX12_best 89 = .ok (.invokevirtual 207, 3) := by decide +kernel
theorem dX12_best_92 : decode cX12_best 92 = .ok (.iload_n 3, 1) := by decide +kernel
theorem dX12_best_93 : decode cX12_best 93 = .ok (.iconst (-1), 1) := by decide +kernel
theorem dX12_best_94 : decode cX12_best 94 = .ok (.if_icmp .eq 10, 3) := by decide +kernel
theorem dX12_best_97 : decode cX12_best 97 = .ok (.iload 6, 2) := by decide +kernel
theorem dX12_best_99 : decode cX12_best 99 = .ok (.iload 4, 2) := by decide +kernel
theorem dX12_best_101 : decode cX12_best 101 = .ok (.if_icmp .ge 10, 3) := by decide +kernel
theorem dX12_best_104 : decode cX12_best 104 = .ok (.iload 5, 2) := by decide +kernel
theorem dX12_best_106 : decode cX12_best 106 = .ok (.istore_n 3, 1) := by decide +kernel
theorem dX12_best_107 : decode cX12_best 107 = .ok (.iload 6, 2) := by decide +kernel
theorem dX12_best_109 : decode cX12_best 109 = .ok (.istore 4, 2) := by decide +kernel
theorem dX12_best_111 : decode cX12_best 111 = .ok (.iinc 5 1, 3) := by decide +kernel
theorem dX12_best_114 : decode cX12_best 114 = .ok (.goto (-80), 3) := by decide +kernel
theorem dX12_best_117 : decode cX12_best 117 = .ok (.aload_n 0, 1) := by decide +kernel
theorem dX12_best_118 : decode cX12_best 118 = .ok (.invokevirtual 217, 3) := by decide +kernel
theorem dX12_best_121 : decode cX12_best 121 = .ok (.iload_n 2, 1) := by decide +kernel
theorem dX12_best_122 : decode cX12_best 122 = .ok (.ifCond .ne 7, 3) := by decide +kernel
theorem dX12_best_125 : decode cX12_best 125 = .ok (.iload_n 3, 1) := by decide +kernel
theorem dX12_best_126 : decode cX12_best 126 = .ok (.goto 5, 3) := by decide +kernel
theorem dX12_best_129 : decode cX12_best 129 = .ok (.iload 4, 2) := by decide +kernel
theorem dX12_best_131 : decode cX12_best 131 = .ok (.ireturn, 1) := by decide +kernel
theorem dX12_findGains_0 : decode cX12_findGains 0 = .ok (.aload_n 0, 1) := by decide +kernel
theorem dX12_findGains_1 : decode cX12_findGains 1 = .ok (.invokevirtual 214, 3) := by decide +kernel
theorem dX12_findGains_4 : decode cX12_findGains 4 = .ok (.iconst 0, 1) := by decide +kernel
theorem dX12_findGains_5 : decode cX12_findGains 5 = .ok (.istore_n 2, 1) := by decide +kernel
theorem dX12_findGains_6 : decode cX12_findGains 6 = .ok (.iload_n 2, 1) := by decide +kernel
theorem dX12_findGains_7 : decode cX12_findGains 7 = .ok (.sipush 625, 3) := by decide +kernel
theorem dX12_findGains_10 : decode cX12_findGains 10 = .ok (.if_icmp .ge 144, 3) := by decide +kernel
theorem dX12_findGains_13 : decode cX12_findGains 13 = .ok (.iload_n 2, 1) := by decide +kernel
theorem dX12_findGains_14 : decode cX12_findGains 14 = .ok (.istore_n 3, 1) := by decide +kernel
theorem dX12_findGains_15 : decode cX12_findGains 15 = .ok (.iconst 0, 1) := by decide +kernel
theorem dX12_findGains_16 : decode cX12_findGains 16 = .ok (.istore 4, 2) := by decide +kernel
theorem dX12_findGains_18 : decode cX12_findGains 18 = .ok (.iload 4, 2) := by decide +kernel
theorem dX12_findGains_20 : decode cX12_findGains 20 = .ok (.iconst 4, 1) := by decide +kernel
theorem dX12_findGains_21 : decode cX12_findGains 21 = .ok (.if_icmp .ge 86, 3) := by decide +kernel
theorem dX12_findGains_24 : decode cX12_findGains 24 = .ok (.iload_n 3, 1) := by decide +kernel
theorem dX12_findGains_25 : decode cX12_findGains 25 = .ok (.iconst 5, 1) := by decide +kernel
theorem dX12_findGains_26 : decode cX12_findGains 26 = .ok (.irem, 1) := by decide +kernel
theorem dX12_findGains_27 : decode cX12_findGains 27 = .ok (.istore 5, 2) := by decide +kernel
theorem dX12_findGains_29 : decode cX12_findGains 29 = .ok (.aload_n 0, 1) := by decide +kernel
theorem dX12_findGains_30 : decode cX12_findGains 30 = .ok (.getfield 41, 3) := by decide +kernel
theorem dX12_findGains_33 : decode cX12_findGains 33 = .ok (.iconst 4, 1) := by decide +kernel
theorem dX12_findGains_34 : decode cX12_findGains 34 = .ok (.iconst 3, 1) := by decide +kernel
theorem dX12_findGains_35 : decode cX12_findGains 35 = .ok (.iload 4, 2) := by decide +kernel
theorem dX12_findGains_37 : decode cX12_findGains 37 = .ok (.imul, 1) := by decide +kernel
theorem dX12_findGains_38 : decode cX12_findGains 38 = .ok (.iadd, 1) := by decide +kernel
theorem dX12_findGains_39 : decode cX12_findGains 39 = .ok (.iload 5, 2) := by decide +kernel
theorem dX12_findGains_41 : decode cX12_findGains 41 = .ok (.ifCond .ne 7, 3) := by decide +kernel
theorem dX12_findGains_44 : decode cX12_findGains 44 = .ok (.iconst 0, 1) := by decide +kernel
theorem dX12_findGains_45 : decode cX12_findGains 45 = .ok (.goto 4, 3) := by decide +kernel
theorem dX12_findGains_48 : decode cX12_findGains 48 = .ok (.iconst 1, 1) := by decide +kernel
theorem dX12_findGains_49 : decode cX12_findGains 49 = .ok (.iastore, 1) := by decide +kernel
theorem dX12_findGains_50 : decode cX12_findGains 50 = .ok (.aload_n 0, 1) := by decide +kernel
theorem dX12_findGains_51 : decode cX12_findGains 51 = .ok (.getfield 41, 3) := by decide +kernel
theorem dX12_findGains_54 : decode cX12_findGains 54 = .ok (.iconst 5, 1) := by decide +kernel
theorem dX12_findGains_55 : decode cX12_findGains 55 = .ok (.iconst 3, 1) := by decide +kernel
theorem dX12_findGains_56 : decode cX12_findGains 56 = .ok (.iload 4, 2) := by decide +kernel
theorem dX12_findGains_58 : decode cX12_findGains 58 = .ok (.imul, 1) := by decide +kernel
theorem dX12_findGains_59 : decode cX12_findGains 59 = .ok (.iadd, 1) := by decide +kernel
theorem dX12_findGains_60 : decode cX12_findGains 60 = .ok (.iload 5, 2) := by decide +kernel
theorem dX12_findGains_62 : decode cX12_findGains 62 = .ok (.ifCond .ne 7, 3) := by decide +kernel
theorem dX12_findGains_65 : decode cX12_findGains 65 = .ok (.iconst 0, 1) := by decide +kernel
theorem dX12_findGains_66 : decode cX12_findGains 66 = .ok (.goto 17, 3) := by decide +kernel
theorem dX12_findGains_69 : decode cX12_findGains 69 = .ok (.aload_n 0, 1) := by decide +kernel
theorem dX12_findGains_70 : decode cX12_findGains 70 = .ok (.getfield 7, 3) := by decide +kernel
theorem dX12_findGains_73 : decode cX12_findGains 73 = .ok (.iconst 4, 1) := by decide +kernel
theorem dX12_findGains_74 : decode cX12_findGains 74 = .ok (.iload 4, 2) := by decide +kernel
theorem dX12_findGains_76 : decode cX12_findGains 76 = .ok (.imul, 1) := by decide +kernel
theorem dX12_findGains_77 : decode cX12_findGains 77 = .ok (.iload 5, 2) := by decide +kernel
theorem dX12_findGains_79 : decode cX12_findGains 79 = .ok (.iadd, 1) := by decide +kernel
theorem dX12_findGains_80 : decode cX12_findGains 80 = .ok (.iconst 1, 1) := by decide +kernel
theorem dX12_findGains_81 : decode cX12_findGains 81 = .ok (.isub, 1) := by decide +kernel
theorem dX12_findGains_82 : decode cX12_findGains 82 = .ok (.iaload, 1) := by decide +kernel
theorem dX12_findGains_83 : decode cX12_findGains 83 = .ok (.iastore, 1) := by decide +kernel
theorem dX12_findGains_84 : decode cX12_findGains 84 = .ok (.aload_n 0, 1) := by decide +kernel
theorem dX12_findGains_85 : decode cX12_findGains 85 = .ok (.getfield 41, 3) := by decide +kernel
theorem dX12_findGains_88 : decode cX12_findGains 88 = .ok (.bipush 6, 2) := by decide +kernel
theorem dX12_findGains_90 : decode cX12_findGains 90 = .ok (.iconst 3, 1) := by decide +kernel
theorem dX12_findGains_91 : decode cX12_findGains 91 = .ok (.iload 4, 2) := by decide +kernel
theorem dX12_findGains_93 : decode cX12_findGains 93 = .ok (.imul, 1) := by decide +kernel
theorem dX12_findGains_94 : decode cX12_findGains 94 = .ok (.iadd, 1) := by decide +kernel
theorem dX12_findGains_95 : decode cX12_findGains 95 = .ok (.iconst 0, 1) := by decide +kernel
theorem dX12_findGains_96 : decode cX12_findGains 96 = .ok (.iastore, 1) := by decide +kernel
theorem dX12_findGains_97 : decode cX12_findGains 97 = .ok (.iload_n 3, 1) := by decide +kernel
theorem dX12_findGains_98 : decode cX12_findGains 98 = .ok (.iconst 5, 1) := by decide +kernel
theorem dX12_findGains_99 : decode cX12_findGains 99 = .ok (.idiv, 1) := by decide +kernel
theorem dX12_findGains_100 : decode cX12_findGains 100 = .ok (.istore_n 3, 1) := by decide +kernel
theorem dX12_findGains_101 : decode cX12_findGains 101 = .ok (.iinc 4 1, 3) := by decide +kernel
theorem dX12_findGains_104 : decode cX12_findGains 104 = .ok (.goto (-86), 3) := by decide +kernel
theorem dX12_findGains_107 : decode cX12_findGains 107 = .ok (.aload_n 0, 1) := by decide +kernel
theorem dX12_findGains_108 : decode cX12_findGains 108 = .ok (.iload_n 1, 1) := by decide +kernel
theorem dX12_findGains_109 : decode cX12_findGains 109 = .ok (.invokevirtual 200, 3) := by decide +kernel
theorem dX12_findGains_112 : decode cX12_findGains 112 = .ok (.iconst 0, 1) := by decide +kernel
theorem dX12_findGains_113 : decode cX12_findGains 113 = .ok (.istore 4, 2) := by decide +kernel
theorem dX12_findGains_115 : decode cX12_findGains 115 = .ok (.iload 4, 2) := by decide +kernel
theorem dX12_findGains_117 : decode cX12_findGains 117 = .ok (.iconst 4, 1) := by decide +kernel
theorem dX12_findGains_118 : decode cX12_findGains 118 = .ok (.if_icmp .ge 26, 3) := by decide +kernel
theorem dX12_findGains_121 : decode cX12_findGains 121 = .ok (.aload_n 0, 1) := by decide +kernel
theorem dX12_findGains_122 : decode cX12_findGains 122 = .ok (.getfield 47, 3) := by decide +kernel
theorem dX12_findGains_125 : decode cX12_findGains 125 = .ok (.iconst 4, 1) := by decide +kernel
theorem dX12_findGains_126 : decode cX12_findGains 126 = .ok (.iload_n 2, 1) := by decide +kernel
theorem dX12_findGains_127 : decode cX12_findGains 127 = .ok (.imul, 1) := by decide +kernel
theorem dX12_findGains_128 : decode cX12_findGains 128 = .ok (.iload 4, 2) := by decide +kernel
theorem dX12_findGains_130 : decode cX12_findGains 130 = .ok (.iadd, 1) := by decide +kernel
theorem dX12_findGains_131 : decode cX12_findGains 131 = .ok (.aload_n 0, 1) := by decide +kernel
theorem dX12_findGains_132 : decode cX12_findGains 132 = .ok (.iload 4, 2) := by decide +kernel
theorem dX12_findGains_134 : decode cX12_findGains 134 = .ok (.invokevirtual 211, 3) := by decide +kernel
theorem dX12_findGains_137 : decode cX12_findGains 137 = .ok (.iastore, 1) := by decide +kernel
theorem dX12_findGains_138 : decode cX12_findGains 138 = .ok (.iinc 4 1, 3) := by decide +kernel
theorem dX12_findGains_141 : decode cX12_findGains 141 = .ok (.goto (-26), 3) := by decide +kernel
theorem dX12_findGains_144 : decode cX12_findGains 144 = .ok (.aload_n 0, 1) := by decide +kernel
theorem dX12_findGains_145 : decode cX12_findGains 145 = .ok (.invokevirtual 207, 3) := by decide +kernel
theorem dX12_findGains_148 : decode cX12_findGains 148 = .ok (.iinc 2 1, 3) := by decide +kernel
theorem dX12_findGains_151 : decode cX12_findGains 151 = .ok (.goto (-145), 3) := by decide +kernel
theorem dX12_findGains_154 : decode cX12_findGains 154 = .ok (.aload_n 0, 1) := by decide +kernel
theorem dX12_findGains_155 : decode cX12_findGains 155 = .ok (.invokevirtual 217, 3) := by decide +kernel
theorem dX12_findGains_158 : decode cX12_findGains 158 = .ok (.return_, 1) := by decide +kernel
theorem dX12_isAtRest_0 : decode cX12_isAtRest 0 = .ok (.iconst 1, 1) := by decide +kernel
theorem dX12_isAtRest_1 : decode cX12_isAtRest 1 = .ok (.istore_n 2, 1) := by decide +kernel
theorem dX12_isAtRest_2 : decode cX12_isAtRest 2 = .ok (.iconst 1, 1) := by decide +kernel
theorem dX12_isAtRest_3 : decode cX12_isAtRest 3 = .ok (.istore_n 3, 1) := by decide +kernel
theorem dX12_isAtRest_4 : decode cX12_isAtRest 4 = .ok (.iconst 0, 1) := by decide +kernel
theorem dX12_isAtRest_5 : decode cX12_isAtRest 5 = .ok (.istore 4, 2) := by decide +kernel
theorem dX12_isAtRest_7 : decode cX12_isAtRest 7 = .ok (.iload 4, 2) := by decide +kernel
theorem dX12_isAtRest_9 : decode cX12_isAtRest 9 = .ok (.iconst 4, 1) := by decide +kernel
theorem dX12_isAtRest_10 : decode cX12_isAtRest 10 = .ok (.if_icmp .ge 80, 3) := by decide +kernel
theorem dX12_isAtRest_13 : decode cX12_isAtRest 13 = .ok (.iload_n 1, 1) := by decide +kernel
theorem dX12_isAtRest_14 : decode cX12_isAtRest 14 = .ok (.iload_n 1, 1) := by decide +kernel
theorem dX12_isAtRest_15 : decode cX12_isAtRest 15 = .ok (.iload_n 3, 1) := by decide +kernel
theorem dX12_isAtRest_16 : decode cX12_isAtRest 16 = .ok (.idiv, 1) := by decide +kernel
theorem dX12_isAtRest_17 : decode cX12_isAtRest 17 = .ok (.iconst 5, 1) := by decide +kernel
theorem dX12_isAtRest_18 : decode cX12_isAtRest 18 = .ok (.irem, 1) := by decide +kernel
theorem dX12_isAtRest_19 : decode cX12_isAtRest 19 = .ok (.iload_n 3, 1) := by decide +kernel
theorem dX12_isAtRest_20 : decode cX12_isAtRest 20 = .ok (.imul, 1) := by decide +kernel
theorem dX12_isAtRest_21 : decode cX12_isAtRest 21 = .ok (.isub, 1) := by decide +kernel
theorem dX12_isAtRest_22 : decode cX12_isAtRest 22 = .ok (.istore 5, 2) := by decide +kernel
theorem dX12_isAtRest_24 : decode cX12_isAtRest 24 = .ok (.iconst 0, 1) := by decide +kernel
theorem dX12_isAtRest_25 : decode cX12_isAtRest 25 = .ok (.istore 6, 2) := by decide +kernel
theorem dX12_isAtRest_27 : decode cX12_isAtRest 27 = .ok (.iload 6, 2) := by decide +kernel
theorem dX12_isAtRest_29 : decode cX12_isAtRest 29 = .ok (.iconst 5, 1) := by decide +kernel
theorem dX12_isAtRest_30 : decode cX12_isAtRest 30 = .ok (.if_icmp .ge 50, 3) := by decide +kernel
theorem dX12_isAtRest_33 : decode cX12_isAtRest 33 = .ok (.iload_n 2, 1) := by decide +kernel
theorem dX12_isAtRest_34 : decode cX12_isAtRest 34 = .ok (.ifCond .eq 38, 3) := by decide +kernel
theorem dX12_isAtRest_37 : decode cX12_isAtRest 37 = .ok (.aload_n 0, 1) := by decide +kernel
theorem dX12_isAtRest_38 : decode cX12_isAtRest 38 = .ok (.getfield 47, 3) := by decide +kernel
theorem dX12_isAtRest_41 : decode cX12_isAtRest 41 = .ok (.iconst 4, 1) := by decide +kernel
theorem dX12_isAtRest_42 : decode cX12_isAtRest 42 = .ok (.iload 5, 2) := by decide +kernel
theorem dX12_isAtRest_44 : decode cX12_isAtRest 44 = .ok (.iload 6, 2) := by decide +kernel
theorem dX12_isAtRest_46 : decode cX12_isAtRest 46 = .ok (.iload_n 3, 1) := by decide +kernel
theorem dX12_isAtRest_47 : decode cX12_isAtRest 47 = .ok (.imul, 1) := by decide +kernel
theorem dX12_isAtRest_48 : decode cX12_isAtRest 48 = .ok (.iadd, 1) := by decide +kernel
theorem dX12_isAtRest_49 : decode cX12_isAtRest 49 = .ok (.imul, 1) := by decide +kernel
theorem dX12_isAtRest_50 : decode cX12_isAtRest 50 = .ok (.iload 4, 2) := by decide +kernel
theorem dX12_isAtRest_52 : decode cX12_isAtRest 52 = .ok (.iadd, 1) := by decide +kernel
theorem dX12_isAtRest_53 : decode cX12_isAtRest 53 = .ok (.iaload, 1) := by decide +kernel
theorem dX12_isAtRest_54 : decode cX12_isAtRest 54 = .ok (.aload_n 0, 1) := by decide +kernel
theorem dX12_isAtRest_55 : decode cX12_isAtRest 55 = .ok (.getfield 47, 3) := by decide +kernel
theorem dX12_isAtRest_58 : decode cX12_isAtRest 58 = .ok (.iconst 4, 1) := by decide +kernel
theorem dX12_isAtRest_59 : decode cX12_isAtRest 59 = .ok (.iload_n 1, 1) := by decide +kernel
theorem dX12_isAtRest_60 : decode cX12_isAtRest 60 = .ok (.imul, 1) := by decide +kernel
theorem dX12_isAtRest_61 : decode cX12_isAtRest 61 = .ok (.iload 4, 2) := by decide +kernel
theorem dX12_isAtRest_63 : decode cX12_isAtRest 63 = .ok (.iadd, 1) := by decide +kernel
theorem dX12_isAtRest_64 : decode cX12_isAtRest 64 = .ok (.iaload, 1) := by decide +kernel
theorem dX12_isAtRest_65 : decode cX12_isAtRest 65 = .ok (.if_icmp .gt 7, 3) := by decide +kernel
theorem dX12_isAtRest_68 : decode cX12_isAtRest 68 = .ok (.iconst 1, 1) := by decide +kernel
theorem dX12_isAtRest_69 : decode cX12_isAtRest 69 = .ok (.goto 4, 3) := by decide +kernel
theorem dX12_isAtRest_72 : decode cX12_isAtRest 72 = .ok (.iconst 0, 1) := by decide +kernel
theorem dX12_isAtRest_73 : decode cX12_isAtRest 73 = .ok (.istore_n 2, 1) := by decide +kernel
theorem dX12_isAtRest_74 : decode cX12_isAtRest 74 = .ok (.iinc 6 1, 3) := by decide +kernel
theorem dX12_isAtRest_77 : decode cX12_isAtRest 77 = .ok (.goto (-50), 3) := by decide +kernel
theorem dX12_isAtRest_80 : decode cX12_isAtRest 80 = .ok (.iconst 5, 1) := by decide +kernel
theorem dX12_isAtRest_81 : decode cX12_isAtRest 81 = .ok (.iload_n 3, 1) := by decide +kernel
theorem dX12_isAtRest_82 : decode cX12_isAtRest 82 = .ok (.imul, 1) := by decide +kernel
theorem dX12_isAtRest_83 : decode cX12_isAtRest 83 = .ok (.istore_n 3, 1) := by decide +kernel
theorem dX12_isAtRest_84 : decode cX12_isAtRest 84 = .ok (.iinc 4 1, 3) := by decide +kernel
theorem dX12_isAtRest_87 : decode cX12_isAtRest 87 = .ok (.goto (-80), 3) := by decide +kernel
theorem dX12_isAtRest_90 : decode cX12_isAtRest 90 = .ok (.iload_n 2, 1) := by decide +kernel
theorem dX12_isAtRest_91 : decode cX12_isAtRest 91 = .ok (.ireturn, 1) := by decide +kernel
theorem dX12_rest_0 : decode cX12_rest 0 = .ok (.iload_n 1, 1) := by decide +kernel
theorem dX12_rest_1 : decode cX12_rest 1 = .ok (.iconst 1, 1) := by decide +kernel
theorem dX12_rest_2 : decode cX12_rest 2 = .ok (.bipush 40, 2) := by decide +kernel
theorem dX12_rest_4 : decode cX12_rest 4 = .ok (.invokestatic 75, 3) := by decide +kernel
theorem dX12_rest_7 : decode cX12_rest 7 = .ok (.ifCond .eq 8, 3) := by decide +kernel
theorem dX12_rest_10 : decode cX12_rest 10 = .ok (.iload_n 2, 1) := by decide +kernel
theorem dX12_rest_11 : decode cX12_rest 11 = .ok (.iconst (-1), 1) := by decide +kernel
theorem dX12_rest_12 : decode cX12_rest 12 = .ok (.if_icmp .ge 6, 3) := by decide +kernel
theorem dX12_rest_15 : decode cX12_rest 15 = .ok (.bipush (-3), 2) := by decide +kernel
theorem dX12_rest_17 : decode cX12_rest 17 = .ok (.ireturn, 1) := by decide +kernel
theorem dX12_rest_18 : decode cX12_rest 18 = .ok (.aload_n 0, 1) := by decide +kernel
theorem dX12_rest_19 : decode cX12_rest 19 = .ok (.iload_n 1, 1) := by decide +kernel
theorem dX12_rest_20 : decode cX12_rest 20 = .ok (.invokevirtual 220, 3) := by decide +kernel
theorem dX12_rest_23 : decode cX12_rest 23 = .ok (.iconst 0, 1) := by decide +kernel
theorem dX12_rest_24 : decode cX12_rest 24 = .ok (.istore_n 3, 1) := by decide +kernel
theorem dX12_rest_25 : decode cX12_rest 25 = .ok (.iconst 0, 1) := by decide +kernel
theorem dX12_rest_26 : decode cX12_rest 26 = .ok (.istore 4, 2) := by decide +kernel
theorem dX12_rest_28 : decode cX12_rest 28 = .ok (.iload 4, 2) := by decide +kernel
theorem dX12_rest_30 : decode cX12_rest 30 = .ok (.sipush 625, 3) := by decide +kernel
theorem dX12_rest_33 : decode cX12_rest 33 = .ok (.if_icmp .ge 29, 3) := by decide +kernel
theorem dX12_rest_36 : decode cX12_rest 36 = .ok (.aload_n 0, 1) := by decide +kernel
theorem dX12_rest_37 : decode cX12_rest 37 = .ok (.iload 4, 2) := by decide +kernel
theorem dX12_rest_39 : decode cX12_rest 39 = .ok (.invokevirtual 223, 3) := by decide +kernel
theorem dX12_rest_42 : decode cX12_rest 42 = .ok (.ifCond .eq 14, 3) := by decide +kernel
theorem dX12_rest_45 : decode cX12_rest 45 = .ok (.iload_n 3, 1) := by decide +kernel
theorem dX12_rest_46 : decode cX12_rest 46 = .ok (.iload_n 2, 1) := by decide +kernel
theorem dX12_rest_47 : decode cX12_rest 47 = .ok (.if_icmp .ne 6, 3) := by decide +kernel
theorem dX12_rest_50 : decode cX12_rest 50 = .ok (.iload 4, 2) := by decide +kernel
theorem dX12_rest_52 : decode cX12_rest 52 = .ok (.ireturn, 1) := by decide +kernel
theorem dX12_rest_53 : decode cX12_rest 53 = .ok (.iinc 3 1, 3) := by decide +kernel
theorem dX12_rest_56 : decode cX12_rest 56 = .ok (.iinc 4 1, 3) := by decide +kernel
theorem dX12_rest_59 : decode cX12_rest 59 = .ok (.goto (-31), 3) := by decide +kernel
theorem dX12_rest_62 : decode cX12_rest 62 = .ok (.iload_n 2, 1) := by decide +kernel
theorem dX12_rest_63 : decode cX12_rest 63 = .ok (.iconst (-1), 1) := by decide +kernel
theorem dX12_rest_64 : decode cX12_rest 64 = .ok (.if_icmp .ne 7, 3) := by decide +kernel
theorem dX12_rest_67 : decode cX12_rest 67 = .ok (.iload_n 3, 1) := by decide +kernel
theorem dX12_rest_68 : decode cX12_rest 68 = .ok (.goto 4, 3) := by decide +kernel
theorem dX12_rest_71 : decode cX12_rest 71 = .ok (.iconst (-1), 1) := by decide +kernel
theorem dX12_rest_72 : decode cX12_rest 72 = .ok (.ireturn, 1) := by decide +kernel
theorem dX12_divisor_0 : decode cX12_divisor 0 = .ok (.lload_n 0, 1) := by decide +kernel
theorem dX12_divisor_1 : decode cX12_divisor 1 = .ok (.lstore 4, 2) := by decide +kernel
theorem dX12_divisor_3 : decode cX12_divisor 3 = .ok (.lload_n 2, 1) := by decide +kernel
theorem dX12_divisor_4 : decode cX12_divisor 4 = .ok (.lstore 6, 2) := by decide +kernel
theorem dX12_divisor_6 : decode cX12_divisor 6 = .ok (.lload 6, 2) := by decide +kernel
theorem dX12_divisor_8 : decode cX12_divisor 8 = .ok (.lconst 0, 1) := by decide +kernel
theorem dX12_divisor_9 : decode cX12_divisor 9 = .ok (.lcmp, 1) := by decide +kernel
theorem dX12_divisor_10 : decode cX12_divisor 10 = .ok (.ifCond .eq 21, 3) := by decide +kernel
theorem dX12_divisor_13 : decode cX12_divisor 13 = .ok (.lload 4, 2) := by decide +kernel
theorem dX12_divisor_15 : decode cX12_divisor 15 = .ok (.lload 6, 2) := by decide +kernel
theorem dX12_divisor_17 : decode cX12_divisor 17 = .ok (.lrem, 1) := by decide +kernel
theorem dX12_divisor_18 : decode cX12_divisor 18 = .ok (.lstore 8, 2) := by decide +kernel
theorem dX12_divisor_20 : decode cX12_divisor 20 = .ok (.lload 6, 2) := by decide +kernel
theorem dX12_divisor_22 : decode cX12_divisor 22 = .ok (.lstore 4, 2) := by decide +kernel
theorem dX12_divisor_24 : decode cX12_divisor 24 = .ok (.lload 8, 2) := by decide +kernel
theorem dX12_divisor_26 : decode cX12_divisor 26 = .ok (.lstore 6, 2) := by decide +kernel
theorem dX12_divisor_28 : decode cX12_divisor 28 = .ok (.goto (-22), 3) := by decide +kernel
theorem dX12_divisor_31 : decode cX12_divisor 31 = .ok (.lload 4, 2) := by decide +kernel
theorem dX12_divisor_33 : decode cX12_divisor 33 = .ok (.lreturn, 1) := by decide +kernel
theorem dX12_part_0 : decode cX12_part 0 = .ok (.lload_n 1, 1) := by decide +kernel
theorem dX12_part_1 : decode cX12_part 1 = .ok (.lload_n 3, 1) := by decide +kernel
theorem dX12_part_2 : decode cX12_part 2 = .ok (.invokestatic 226, 3) := by decide +kernel
theorem dX12_part_5 : decode cX12_part 5 = .ok (.lstore 6, 2) := by decide +kernel
theorem dX12_part_7 : decode cX12_part 7 = .ok (.iload 5, 2) := by decide +kernel
theorem dX12_part_9 : decode cX12_part 9 = .ok (.ifCond .ne 7, 3) := by decide +kernel
theorem dX12_part_12 : decode cX12_part 12 = .ok (.lload_n 1, 1) := by decide +kernel
theorem dX12_part_13 : decode cX12_part 13 = .ok (.goto 4, 3) := by decide +kernel
theorem dX12_part_16 : decode cX12_part 16 = .ok (.lload_n 3, 1) := by decide +kernel
theorem dX12_part_17 : decode cX12_part 17 = .ok (.lload 6, 2) := by decide +kernel
theorem dX12_part_19 : decode cX12_part 19 = .ok (.ldiv, 1) := by decide +kernel
theorem dX12_part_20 : decode cX12_part 20 = .ok (.l2i, 1) := by decide +kernel
theorem dX12_part_21 : decode cX12_part 21 = .ok (.ireturn, 1) := by decide +kernel
theorem dX12_lotOf_0 : decode cX12_lotOf 0 = .ok (.iconst 0, 1) := by decide +kernel
theorem dX12_lotOf_1 : decode cX12_lotOf 1 = .ok (.istore 4, 2) := by decide +kernel
theorem dX12_lotOf_3 : decode cX12_lotOf 3 = .ok (.iload 4, 2) := by decide +kernel
theorem dX12_lotOf_5 : decode cX12_lotOf 5 = .ok (.iload_n 1, 1) := by decide +kernel
theorem dX12_lotOf_6 : decode cX12_lotOf 6 = .ok (.if_icmp .ge 195, 3) := by decide +kernel
theorem dX12_lotOf_9 : decode cX12_lotOf 9 = .ok (.aload_n 0, 1) := by decide +kernel
theorem dX12_lotOf_10 : decode cX12_lotOf 10 = .ok (.getfield 22, 3) := by decide +kernel
theorem dX12_lotOf_13 : decode cX12_lotOf 13 = .ok (.iconst 0, 1) := by decide +kernel
theorem dX12_lotOf_14 : decode cX12_lotOf 14 = .ok (.aload_n 0, 1) := by decide +kernel
theorem dX12_lotOf_15 : decode cX12_lotOf 15 = .ok (.getfield 28, 3) := by decide +kernel
theorem dX12_lotOf_18 : decode cX12_lotOf 18 = .ok (.aload_n 0, 1) := by decide +kernel
theorem dX12_lotOf_19 : decode cX12_lotOf 19 = .ok (.getfield 50, 3) := by decide +kernel
theorem dX12_lotOf_22 : decode cX12_lotOf 22 = .ok (.iload 4, 2) := by decide +kernel
theorem dX12_lotOf_24 : decode cX12_lotOf 24 = .ok (.iaload, 1) := by decide +kernel
theorem dX12_lotOf_25 : decode cX12_lotOf 25 = .ok (.iaload, 1) := by decide +kernel
theorem dX12_lotOf_26 : decode cX12_lotOf 26 = .ok (.iadd, 1) := by decide +kernel
theorem dX12_lotOf_27 : decode cX12_lotOf 27 = .ok (.iaload, 1) := by decide +kernel
theorem dX12_lotOf_28 : decode cX12_lotOf 28 = .ok (.istore 5, 2) := by decide +kernel
theorem dX12_lotOf_30 : decode cX12_lotOf 30 = .ok (.iconst (-1), 1) := by decide +kernel
theorem dX12_lotOf_31 : decode cX12_lotOf 31 = .ok (.istore 6, 2) := by decide +kernel
theorem dX12_lotOf_33 : decode cX12_lotOf 33 = .ok (.iconst 0, 1) := by decide +kernel
theorem dX12_lotOf_34 : decode cX12_lotOf 34 = .ok (.istore 7, 2) := by decide +kernel
theorem dX12_lotOf_36 : decode cX12_lotOf 36 = .ok (.iload 7, 2) := by decide +kernel
theorem dX12_lotOf_38 : decode cX12_lotOf 38 = .ok (.iload_n 3, 1) := by decide +kernel
theorem dX12_lotOf_39 : decode cX12_lotOf 39 = .ok (.if_icmp .ge 109, 3) := by decide +kernel
theorem dX12_lotOf_42 : decode cX12_lotOf 42 = .ok (.aload_n 0, 1) := by decide +kernel
theorem dX12_lotOf_43 : decode cX12_lotOf 43 = .ok (.getfield 53, 3) := by decide +kernel
theorem dX12_lotOf_46 : decode cX12_lotOf 46 = .ok (.iload 7, 2) := by decide +kernel
theorem dX12_lotOf_48 : decode cX12_lotOf 48 = .ok (.iaload, 1) := by decide +kernel
theorem dX12_lotOf_49 : decode cX12_lotOf 49 = .ok (.iconst (-1), 1) := by decide +kernel
theorem dX12_lotOf_50 : decode cX12_lotOf 50 = .ok (.if_icmp .eq 92, 3) := by decide +kernel
theorem dX12_lotOf_53 : decode cX12_lotOf 53 = .ok (.iload 6, 2) := by decide +kernel
theorem dX12_lotOf_55 : decode cX12_lotOf 55 = .ok (.iconst (-1), 1) := by decide +kernel
theorem dX12_lotOf_56 : decode cX12_lotOf 56 = .ok (.if_icmp .ne 7, 3) := by decide +kernel
theorem dX12_lotOf_59 : decode cX12_lotOf 59 = .ok (.iconst 0, 1) := by decide +kernel
theorem dX12_lotOf_60 : decode cX12_lotOf 60 = .ok (.goto 38, 3) := by decide +kernel
theorem dX12_lotOf_63 : decode cX12_lotOf 63 = .ok (.aload_n 0, 1) := by decide +kernel
theorem dX12_lotOf_64 : decode cX12_lotOf 64 = .ok (.getfield 7, 3) := by decide +kernel
theorem dX12_lotOf_67 : decode cX12_lotOf 67 = .ok (.iconst 4, 1) := by decide +kernel
theorem dX12_lotOf_68 : decode cX12_lotOf 68 = .ok (.iload 5, 2) := by decide +kernel
theorem dX12_lotOf_70 : decode cX12_lotOf 70 = .ok (.imul, 1) := by decide +kernel
theorem dX12_lotOf_71 : decode cX12_lotOf 71 = .ok (.aload_n 0, 1) := by decide +kernel
theorem dX12_lotOf_72 : decode cX12_lotOf 72 = .ok (.getfield 53, 3) := by decide +kernel
theorem dX12_lotOf_75 : decode cX12_lotOf 75 = .ok (.iload 7, 2) := by decide +kernel
theorem dX12_lotOf_77 : decode cX12_lotOf 77 = .ok (.iaload, 1) := by decide +kernel
theorem dX12_lotOf_78 : decode cX12_lotOf 78 = .ok (.iadd, 1) := by decide +kernel
theorem dX12_lotOf_79 : decode cX12_lotOf 79 = .ok (.iaload, 1) := by decide +kernel
theorem dX12_lotOf_80 : decode cX12_lotOf 80 = .ok (.aload_n 0, 1) := by decide +kernel
theorem dX12_lotOf_81 : decode cX12_lotOf 81 = .ok (.getfield 7, 3) := by decide +kernel
theorem dX12_lotOf_84 : decode cX12_lotOf 84 = .ok (.iconst 4, 1) := by decide +kernel
theorem dX12_lotOf_85 : decode cX12_lotOf 85 = .ok (.iload 5, 2) := by decide +kernel
theorem dX12_lotOf_87 : decode cX12_lotOf 87 = .ok (.imul, 1) := by decide +kernel
theorem dX12_lotOf_88 : decode cX12_lotOf 88 = .ok (.aload_n 0, 1) := by decide +kernel
theorem dX12_lotOf_89 : decode cX12_lotOf 89 = .ok (.getfield 53, 3) := by decide +kernel
theorem dX12_lotOf_92 : decode cX12_lotOf 92 = .ok (.iload 6, 2) := by decide +kernel
theorem dX12_lotOf_94 : decode cX12_lotOf 94 = .ok (.iaload, 1) := by decide +kernel
theorem dX12_lotOf_95 : decode cX12_lotOf 95 = .ok (.iadd, 1) := by decide +kernel
theorem dX12_lotOf_96 : decode cX12_lotOf 96 = .ok (.iaload, 1) := by decide +kernel
theorem dX12_lotOf_97 : decode cX12_lotOf 97 = .ok (.isub, 1) := by decide +kernel
theorem dX12_lotOf_98 : decode cX12_lotOf 98 = .ok (.istore 8, 2) := by decide +kernel
theorem dX12_lotOf_100 : decode cX12_lotOf 100 = .ok (.iload 6, 2) := by decide +kernel
theorem dX12_lotOf_102 : decode cX12_lotOf 102 = .ok (.iconst (-1), 1) := by decide +kernel
theorem dX12_lotOf_103 : decode cX12_lotOf 103 = .ok (.if_icmp .eq 30, 3) := by decide +kernel
theorem dX12_lotOf_106 : decode cX12_lotOf 106 = .ok (.iload 8, 2) := by decide +kernel
theorem dX12_lotOf_108 : decode cX12_lotOf 108 = .ok (.ifCond .gt 25, 3) := by decide +kernel
theorem dX12_lotOf_111 : decode cX12_lotOf 111 = .ok (.iload 8, 2) := by decide +kernel
theorem dX12_lotOf_113 : decode cX12_lotOf 113 = .ok (.ifCond .ne 25, 3) := by decide +kernel
theorem dX12_lotOf_116 : decode cX12_lotOf 116 = .ok (.aload_n 0, 1) := by decide +kernel
theorem dX12_lotOf_117 : decode cX12_lotOf 117 = .ok (.getfield 53, 3) := by decide +kernel
theorem dX12_lotOf_120 : decode cX12_lotOf 120 = .ok (.iload 7, 2) := by decide +kernel
theorem dX12_lotOf_122 : decode cX12_lotOf 122 = .ok (.iaload, 1) := by decide +kernel
theorem dX12_lotOf_123 : decode cX12_lotOf 123 = .ok (.aload_n 0, 1) := by decide +kernel
theorem dX12_lotOf_124 : decode cX12_lotOf 124 = .ok (.getfield 53, 3) := by decide +kernel
theorem dX12_lotOf_127 : decode cX12_lotOf 127 = .ok (.iload 6, 2) := by decide +kernel
theorem dX12_lotOf_129 : decode cX12_lotOf 129 = .ok (.iaload, 1) := by decide +kernel
theorem dX12_lotOf_130 : decode cX12_lotOf 130 = .ok (.if_icmp .ge 8, 3) := by decide +kernel
theorem dX12_lotOf_133 : decode cX12_lotOf 133 = .ok (.iload 7, 2) := by decide +kernel
theorem dX12_lotOf_135 : decode cX12_lotOf 135 = .ok (.goto 5, 3) := by decide +kernel
theorem dX12_lotOf_138 : decode cX12_lotOf 138 = .ok (.iload 6, 2) := by decide +kernel
theorem dX12_lotOf_140 : decode cX12_lotOf 140 = .ok (.istore 6, 2) := by decide +kernel
theorem dX12_lotOf_142 : decode cX12_lotOf 142 = .ok (.iinc 7 1, 3) := by decide +kernel
theorem dX12_lotOf_145 : decode cX12_lotOf 145 = .ok (.goto (-109), 3) := by decide +kernel
theorem dX12_lotOf_148 : decode cX12_lotOf 148 = .ok (.iload 6, 2) := by decide +kernel
theorem dX12_lotOf_150 : decode cX12_lotOf 150 = .ok (.iconst (-1), 1) := by decide +kernel
theorem dX12_lotOf_151 : decode cX12_lotOf 151 = .ok (.if_icmp .ne 7, 3) := by decide +kernel
theorem dX12_lotOf_154 : decode cX12_lotOf 154 = .ok (.iconst (-1), 1) := by decide +kernel
theorem dX12_lotOf_155 : decode cX12_lotOf 155 = .ok (.goto 10, 3) := by decide +kernel
theorem dX12_lotOf_158 : decode cX12_lotOf 158 = .ok (.aload_n 0, 1) := by decide +kernel
theorem dX12_lotOf_159 : decode cX12_lotOf 159 = .ok (.getfield 53, 3) := by decide +kernel
theorem dX12_lotOf_162 : decode cX12_lotOf 162 = .ok (.iload 6, 2) := by decide +kernel
theorem dX12_lotOf_164 : decode cX12_lotOf 164 = .ok (.iaload, 1) := by decide +kernel
theorem dX12_lotOf_165 : decode cX12_lotOf 165 = .ok (.istore 7, 2) := by decide +kernel
theorem dX12_lotOf_167 : decode cX12_lotOf 167 = .ok (.aload_n 0, 1) := by decide +kernel
theorem dX12_lotOf_168 : decode cX12_lotOf 168 = .ok (.getfield 50, 3) := by decide +kernel
theorem dX12_lotOf_171 : decode cX12_lotOf 171 = .ok (.iload 4, 2) := by decide +kernel
theorem dX12_lotOf_173 : decode cX12_lotOf 173 = .ok (.iaload, 1) := by decide +kernel
theorem dX12_lotOf_174 : decode cX12_lotOf 174 = .ok (.iload_n 2, 1) := by decide +kernel
theorem dX12_lotOf_175 : decode cX12_lotOf 175 = .ok (.if_icmp .ne 6, 3) := by decide +kernel
theorem dX12_lotOf_178 : decode cX12_lotOf 178 = .ok (.iload 7, 2) := by decide +kernel
theorem dX12_lotOf_180 : decode cX12_lotOf 180 = .ok (.ireturn, 1) := by decide +kernel
theorem dX12_lotOf_181 : decode cX12_lotOf 181 = .ok (.iload 6, 2) := by decide +kernel
theorem dX12_lotOf_183 : decode cX12_lotOf 183 = .ok (.iconst (-1), 1) := by decide +kernel
theorem dX12_lotOf_184 : decode cX12_lotOf 184 = .ok (.if_icmp .eq 11, 3) := by decide +kernel
theorem dX12_lotOf_187 : decode cX12_lotOf 187 = .ok (.aload_n 0, 1) := by decide +kernel
theorem dX12_lotOf_188 : decode cX12_lotOf 188 = .ok (.getfield 53, 3) := by decide +kernel
theorem dX12_lotOf_191 : decode cX12_lotOf 191 = .ok (.iload 6, 2) := by decide +kernel
theorem dX12_lotOf_193 : decode cX12_lotOf 193 = .ok (.iconst (-1), 1) := by decide +kernel
theorem dX12_lotOf_194 : decode cX12_lotOf 194 = .ok (.iastore, 1) := by decide +kernel
theorem dX12_lotOf_195 : decode cX12_lotOf 195 = .ok (.iinc 4 1, 3) := by decide +kernel
theorem dX12_lotOf_198 : decode cX12_lotOf 198 = .ok (.goto (-195), 3) := by decide +kernel
theorem dX12_lotOf_201 : decode cX12_lotOf 201 = .ok (.iconst (-1), 1) := by decide +kernel
theorem dX12_lotOf_202 : decode cX12_lotOf 202 = .ok (.ireturn, 1) := by decide +kernel
theorem dX12_lot_0 : decode cX12_lot 0 = .ok (.aload_n 0, 1) := by decide +kernel
theorem dX12_lot_1 : decode cX12_lot 1 = .ok (.getfield 22, 3) := by decide +kernel
theorem dX12_lot_4 : decode cX12_lot 4 = .ok (.bipush 84, 2) := by decide +kernel
theorem dX12_lot_6 : decode cX12_lot 6 = .ok (.iaload, 1) := by decide +kernel
theorem dX12_lot_7 : decode cX12_lot 7 = .ok (.bipush 6, 2) := by decide +kernel
theorem dX12_lot_9 : decode cX12_lot 9 = .ok (.if_icmp .le 8, 3) := by decide +kernel
theorem dX12_lot_12 : decode cX12_lot 12 = .ok (.bipush 6, 2) := by decide +kernel
theorem dX12_lot_14 : decode cX12_lot 14 = .ok (.goto 10, 3) := by decide +kernel
theorem dX12_lot_17 : decode cX12_lot 17 = .ok (.aload_n 0, 1) := by decide +kernel
theorem dX12_lot_18 : decode cX12_lot 18 = .ok (.getfield 22, 3) := by decide +kernel
theorem dX12_lot_21 : decode cX12_lot 21 = .ok (.bipush 84, 2) := by decide +kernel
theorem dX12_lot_23 : decode cX12_lot 23 = .ok (.iaload, 1) := by decide +kernel
theorem dX12_lot_24 : decode cX12_lot 24 = .ok (.istore 6, 2) := by decide +kernel
theorem dX12_lot_26 : decode cX12_lot 26 = .ok (.iload_n 1, 1) := by decide +kernel
theorem dX12_lot_27 : decode cX12_lot 27 = .ok (.iconst 0, 1) := by decide +kernel
theorem dX12_lot_28 : decode cX12_lot 28 = .ok (.iload 6, 2) := by decide +kernel
theorem dX12_lot_30 : decode cX12_lot 30 = .ok (.iconst 1, 1) := by decide +kernel
theorem dX12_lot_31 : decode cX12_lot 31 = .ok (.isub, 1) := by decide +kernel
theorem dX12_lot_32 : decode cX12_lot 32 = .ok (.invokestatic 75, 3) := by decide +kernel
theorem dX12_lot_35 : decode cX12_lot 35 = .ok (.ifCond .eq 13, 3) := by decide +kernel
theorem dX12_lot_38 : decode cX12_lot 38 = .ok (.iload 4, 2) := by decide +kernel
theorem dX12_lot_40 : decode cX12_lot 40 = .ok (.iconst (-1), 1) := by decide +kernel
theorem dX12_lot_41 : decode cX12_lot 41 = .ok (.iconst 3, 1) := by decide +kernel
theorem dX12_lot_42 : decode cX12_lot 42 = .ok (.invokestatic 75, 3) := by decide +kernel
theorem dX12_lot_45 : decode cX12_lot 45 = .ok (.ifCond .ne 6, 3) := by decide +kernel
theorem dX12_lot_48 : decode cX12_lot 48 = .ok (.bipush (-2), 2) := by decide +kernel
theorem dX12_lot_50 : decode cX12_lot 50 = .ok (.ireturn, 1) := by decide +kernel
theorem dX12_lot_51 : decode cX12_lot 51 = .ok (.iload_n 3, 1) := by decide +kernel
theorem dX12_lot_52 : decode cX12_lot 52 = .ok (.iconst 1, 1) := by decide +kernel
theorem dX12_lot_53 : decode cX12_lot 53 = .ok (.iconst 4, 1) := by decide +kernel
theorem dX12_lot_54 : decode cX12_lot 54 = .ok (.invokestatic 75, 3) := by decide +kernel
theorem dX12_lot_57 : decode cX12_lot 57 = .ok (.ifCond .eq 13, 3) := by decide +kernel
theorem dX12_lot_60 : decode cX12_lot 60 = .ok (.iload 5, 2) := by decide +kernel
theorem dX12_lot_62 : decode cX12_lot 62 = .ok (.iconst 0, 1) := by decide +kernel
theorem dX12_lot_63 : decode cX12_lot 63 = .ok (.iconst 1, 1) := by decide +kernel
theorem dX12_lot_64 : decode cX12_lot 64 = .ok (.invokestatic 75, 3) := by decide +kernel
theorem dX12_lot_67 : decode cX12_lot 67 = .ok (.ifCond .ne 6, 3) := by decide +kernel
theorem dX12_lot_70 : decode cX12_lot 70 = .ok (.bipush (-3), 2) := by decide +kernel
theorem dX12_lot_72 : decode cX12_lot 72 = .ok (.ireturn, 1) := by decide +kernel
theorem dX12_lot_73 : decode cX12_lot 73 = .ok (.aload_n 0, 1) := by decide +kernel
theorem dX12_lot_74 : decode cX12_lot 74 = .ok (.invokevirtual 98, 3) := by decide +kernel
theorem dX12_lot_77 : decode cX12_lot 77 = .ok (.lconst 0, 1) := by decide +kernel
theorem dX12_lot_78 : decode cX12_lot 78 = .ok (.lstore 7, 2) := by decide +kernel
theorem dX12_lot_80 : decode cX12_lot 80 = .ok (.lconst 0, 1) := by decide +kernel
theorem dX12_lot_81 : decode cX12_lot 81 = .ok (.lstore 9, 2) := by decide +kernel
theorem dX12_lot_83 : decode cX12_lot 83 = .ok (.iconst 0, 1) := by decide +kernel
theorem dX12_lot_84 : decode cX12_lot 84 = .ok (.istore 11, 2) := by decide +kernel
theorem dX12_lot_86 : decode cX12_lot 86 = .ok (.aload_n 0, 1) := by decide +kernel
theorem dX12_lot_87 : decode cX12_lot 87 = .ok (.getfield 50, 3) := by decide +kernel
theorem dX12_lot_90 : decode cX12_lot 90 = .ok (.iconst 0, 1) := by decide +kernel
theorem dX12_lot_91 : decode cX12_lot 91 = .ok (.iconst (-1), 1) := by decide +kernel
theorem dX12_lot_92 : decode cX12_lot 92 = .ok (.iastore, 1) := by decide +kernel
theorem dX12_lot_93 : decode cX12_lot 93 = .ok (.iload 11, 2) := by decide +kernel
theorem dX12_lot_95 : decode cX12_lot 95 = .ok (.ifCond .lt 191, 3) := by decide +kernel
theorem dX12_lot_98 : decode cX12_lot 98 = .ok (.aload_n 0, 1) := by decide +kernel
theorem dX12_lot_99 : decode cX12_lot 99 = .ok (.getfield 50, 3) := by decide +kernel
theorem dX12_lot_102 : decode cX12_lot 102 = .ok (.iload 11, 2) := by decide +kernel
theorem dX12_lot_104 : decode cX12_lot 104 = .ok (.dup2, 1) := by decide +kernel
theorem dX12_lot_105 : decode cX12_lot 105 = .ok (.iaload, 1) := by decide +kernel
theorem dX12_lot_106 : decode cX12_lot 106 = .ok (.iconst 1, 1) := by decide +kernel
theorem dX12_lot_107 : decode cX12_lot 107 = .ok (.iadd, 1) := by decide +kernel
theorem dX12_lot_108 : decode cX12_lot 108 = .ok (.iastore, 1) := by decide +kernel
theorem dX12_lot_109 : decode cX12_lot 109 = .ok (.iconst 1, 1) := by decide +kernel
theorem dX12_lot_110 : decode cX12_lot 110 = .ok (.istore 12, 2) := by decide +kernel
theorem dX12_lot_112 : decode cX12_lot 112 = .ok (.iconst 0, 1) := by decide +kernel
theorem dX12_lot_113 : decode cX12_lot 113 = .ok (.istore 13, 2) := by decide +kernel
theorem dX12_lot_115 : decode cX12_lot 115 = .ok (.iload 13, 2) := by decide +kernel
theorem dX12_lot_117 : decode cX12_lot 117 = .ok (.iload 11, 2) := by decide +kernel
theorem dX12_lot_119 : decode cX12_lot 119 = .ok (.if_icmp .ge 38, 3) := by decide +kernel
theorem dX12_lot_122 : decode cX12_lot 122 = .ok (.iload 12, 2) := by decide +kernel
theorem dX12_lot_124 : decode cX12_lot 124 = .ok (.ifCond .eq 24, 3) := by decide +kernel
theorem dX12_lot_127 : decode cX12_lot 127 = .ok (.aload_n 0, 1) := by decide +kernel
theorem dX12_lot_128 : decode cX12_lot 128 = .ok (.getfield 50, 3) := by decide +kernel
theorem dX12_lot_131 : decode cX12_lot 131 = .ok (.iload 13, 2) := by decide +kernel
theorem dX12_lot_133 : decode cX12_lot 133 = .ok (.iaload, 1) := by decide +kernel
theorem dX12_lot_134 : decode cX12_lot 134 = .ok (.aload_n 0, 1) := by decide +kernel
theorem dX12_lot_135 : decode cX12_lot 135 = .ok (.getfield 50, 3) := by decide +kernel
theorem dX12_lot_138 : decode cX12_lot 138 = .ok (.iload 11, 2) := by decide +kernel
theorem dX12_lot_140 : decode cX12_lot 140 = .ok (.iaload, 1) := by decide +kernel
theorem dX12_lot_141 : decode cX12_lot 141 = .ok (.if_icmp .eq 7, 3) := by decide +kernel
theorem dX12_lot_144 : decode cX12_lot 144 = .ok (.iconst 1, 1) := by decide +kernel
theorem dX12_lot_145 : decode cX12_lot 145 = .ok (.goto 4, 3) := by decide +kernel
theorem dX12_lot_148 : decode cX12_lot 148 = .ok (.iconst 0, 1) := by decide +kernel
theorem dX12_lot_149 : decode cX12_lot 149 = .ok (.istore 12, 2) := by decide +kernel
theorem dX12_lot_151 : decode cX12_lot 151 = .ok (.iinc 13 1, 3) := by decide +kernel
theorem dX12_lot_154 : decode cX12_lot 154 = .ok (.goto (-39), 3) := by decide +kernel
theorem dX12_lot_157 : decode cX12_lot 157 = .ok (.aload_n 0, 1) := by decide +kernel
theorem dX12_lot_158 : decode cX12_lot 158 = .ok (.getfield 50, 3) := by decide +kernel
theorem dX12_lot_161 : decode cX12_lot 161 = .ok (.iload 11, 2) := by decide +kernel
theorem dX12_lot_163 : decode cX12_lot 163 = .ok (.iaload, 1) := by decide +kernel
theorem dX12_lot_164 : decode cX12_lot 164 = .ok (.iload 6, 2) := by decide +kernel
theorem dX12_lot_166 : decode cX12_lot 166 = .ok (.if_icmp .ne 9, 3) := by decide +kernel
theorem dX12_lot_169 : decode cX12_lot 169 = .ok (.iinc 11 (-1), 3) := by decide +kernel
theorem dX12_lot_172 : decode cX12_lot 172 = .ok (.goto 111, 3) := by decide +kernel
theorem dX12_lot_175 : decode cX12_lot 175 = .ok (.iload 12, 2) := by decide +kernel
theorem dX12_lot_177 : decode cX12_lot 177 = .ok (.ifCond .eq 90, 3) := by decide +kernel
theorem dX12_lot_180 : decode cX12_lot 180 = .ok (.iload 11, 2) := by decide +kernel
theorem dX12_lot_182 : decode cX12_lot 182 = .ok (.iload 6, 2) := by decide +kernel
theorem dX12_lot_184 : decode cX12_lot 184 = .ok (.iconst 1, 1) := by decide +kernel
theorem dX12_lot_185 : decode cX12_lot 185 = .ok (.isub, 1) := by decide +kernel
theorem dX12_lot_186 : decode cX12_lot 186 = .ok (.if_icmp .ne 81, 3) := by decide +kernel
theorem dX12_lot_189 : decode cX12_lot 189 = .ok (.iconst 0, 1) := by decide +kernel
theorem dX12_lot_190 : decode cX12_lot 190 = .ok (.istore 13, 2) := by decide +kernel
theorem dX12_lot_192 : decode cX12_lot 192 = .ok (.iload 13, 2) := by decide +kernel
theorem dX12_lot_194 : decode cX12_lot 194 = .ok (.iload_n 3, 1) := by decide +kernel
theorem dX12_lot_195 : decode cX12_lot 195 = .ok (.if_icmp .ge 24, 3) := by decide +kernel
theorem dX12_lot_198 : decode cX12_lot 198 = .ok (.aload_n 0, 1) := by decide +kernel
theorem dX12_lot_199 : decode cX12_lot 199 = .ok (.getfield 53, 3) := by decide +kernel
theorem dX12_lot_202 : decode cX12_lot 202 = .ok (.iload 13, 2) := by decide +kernel
theorem dX12_lot_204 : decode cX12_lot 204 = .ok (.iload_n 2, 1) := by decide +kernel
theorem dX12_lot_205 : decode cX12_lot 205 = .ok (.iconst 2, 1) := by decide +kernel
theorem dX12_lot_206 : decode cX12_lot 206 = .ok (.iload 13, 2) := by decide +kernel
theorem dX12_lot_208 : decode cX12_lot 208 = .ok (.imul, 1) := by decide +kernel
theorem dX12_lot_209 : decode cX12_lot 209 = .ok (.ishr, 1) := by decide +kernel
theorem dX12_lot_210 : decode cX12_lot 210 = .ok (.iconst 3, 1) := by decide +kernel
theorem dX12_lot_211 : decode cX12_lot 211 = .ok (.iand, 1) := by decide +kernel
theorem dX12_lot_212 : decode cX12_lot 212 = .ok (.iastore, 1) := by decide +kernel
theorem dX12_lot_213 : decode cX12_lot 213 = .ok (.iinc 13 1, 3) := by decide +kernel
theorem dX12_lot_216 : decode cX12_lot 216 = .ok (.goto (-24), 3) := by decide +kernel
theorem dX12_lot_219 : decode cX12_lot 219 = .ok (.aload_n 0, 1) := by decide +kernel
theorem dX12_lot_220 : decode cX12_lot 220 = .ok (.iload 6, 2) := by decide +kernel
theorem dX12_lot_222 : decode cX12_lot 222 = .ok (.iload_n 1, 1) := by decide +kernel
theorem dX12_lot_223 : decode cX12_lot 223 = .ok (.iload_n 3, 1) := by decide +kernel
theorem dX12_lot_224 : decode cX12_lot 224 = .ok (.invokevirtual 230, 3) := by decide +kernel
theorem dX12_lot_227 : decode cX12_lot 227 = .ok (.istore 13, 2) := by decide +kernel
theorem dX12_lot_229 : decode cX12_lot 229 = .ok (.lload 7, 2) := by decide +kernel
theorem dX12_lot_231 : decode cX12_lot 231 = .ok (.lconst 1, 1) := by decide +kernel
theorem dX12_lot_232 : decode cX12_lot 232 = .ok (.ladd, 1) := by decide +kernel
theorem dX12_lot_233 : decode cX12_lot 233 = .ok (.lstore 7, 2) := by decide +kernel
theorem dX12_lot_235 : decode cX12_lot 235 = .ok (.lload 9, 2) := by decide +kernel
theorem dX12_lot_237 : decode cX12_lot 237 = .ok (.iload 13, 2) := by decide +kernel
theorem dX12_lot_239 : decode cX12_lot 239 = .ok (.iconst (-1), 1) := by decide +kernel
theorem dX12_lot_240 : decode cX12_lot 240 = .ok (.if_icmp .eq 20, 3) := by decide +kernel
theorem dX12_lot_243 : decode cX12_lot 243 = .ok (.iload 4, 2) := by decide +kernel
theorem dX12_lot_245 : decode cX12_lot 245 = .ok (.iconst (-1), 1) := by decide +kernel
theorem dX12_lot_246 : decode cX12_lot 246 = .ok (.if_icmp .eq 10, 3) := by decide +kernel
theorem dX12_lot_249 : decode cX12_lot 249 = .ok (.iload 13, 2) := by decide +kernel
theorem dX12_lot_251 : decode cX12_lot 251 = .ok (.iload 4, 2) := by decide +kernel
theorem dX12_lot_253 : decode cX12_lot 253 = .ok (.if_icmp .ne 7, 3) := by decide +kernel
theorem dX12_lot_256 : decode cX12_lot 256 = .ok (.lconst 1, 1) := by decide +kernel
theorem dX12_lot_257 : decode cX12_lot 257 = .ok (.goto 4, 3) := by decide +kernel
theorem dX12_lot_260 : decode cX12_lot 260 = .ok (.lconst 0, 1) := by decide +kernel
theorem dX12_lot_261 : decode cX12_lot 261 = .ok (.ladd, 1) := by decide +kernel
theorem dX12_lot_262 : decode cX12_lot 262 = .ok (.lstore 9, 2) := by decide +kernel
theorem dX12_lot_264 : decode cX12_lot 264 = .ok (.goto 19, 3) := by decide +kernel
theorem dX12_lot_267 : decode cX12_lot 267 = .ok (.iload 12, 2) := by decide +kernel
theorem dX12_lot_269 : decode cX12_lot 269 = .ok (.ifCond .eq 14, 3) := by decide +kernel
theorem dX12_lot_272 : decode cX12_lot 272 = .ok (.iinc 11 1, 3) := by decide +kernel
theorem dX12_lot_275 : decode cX12_lot 275 = .ok (.aload_n 0, 1) := by decide +kernel
theorem dX12_lot_276 : decode cX12_lot 276 = .ok (.getfield 50, 3) := by decide +kernel
theorem dX12_lot_279 : decode cX12_lot 279 = .ok (.iload 11, 2) := by decide +kernel
theorem dX12_lot_281 : decode cX12_lot 281 = .ok (.iconst (-1), 1) := by decide +kernel
theorem dX12_lot_282 : decode cX12_lot 282 = .ok (.iastore, 1) := by decide +kernel
theorem dX12_lot_283 : decode cX12_lot 283 = .ok (.goto (-190), 3) := by decide +kernel
theorem dX12_lot_286 : decode cX12_lot 286 = .ok (.aload_n 0, 1) := by decide +kernel
theorem dX12_lot_287 : decode cX12_lot 287 = .ok (.lload 9, 2) := by decide +kernel
theorem dX12_lot_289 : decode cX12_lot 289 = .ok (.lload 7, 2) := by decide +kernel
theorem dX12_lot_291 : decode cX12_lot 291 = .ok (.iload 5, 2) := by decide +kernel
theorem dX12_lot_293 : decode cX12_lot 293 = .ok (.invokevirtual 234, 3) := by decide +kernel
theorem dX12_lot_296 : decode cX12_lot 296 = .ok (.ireturn, 1) := by decide +kernel
theorem dX12_holder_0 : decode cX12_holder 0 = .ok (.iload_n 1, 1) := by decide +kernel
theorem dX12_holder_1 : decode cX12_holder 1 = .ok (.invokestatic 79, 3) := by decide +kernel
theorem dX12_holder_4 : decode cX12_holder 4 = .ok (.ifCond .eq 10, 3) := by decide +kernel
theorem dX12_holder_7 : decode cX12_holder 7 = .ok (.iload_n 2, 1) := by decide +kernel
theorem dX12_holder_8 : decode cX12_holder 8 = .ok (.invokestatic 79, 3) := by decide +kernel
theorem dX12_holder_11 : decode cX12_holder 11 = .ok (.ifCond .ne 6, 3) := by decide +kernel
theorem dX12_holder_14 : decode cX12_holder 14 = .ok (.bipush (-2), 2) := by decide +kernel
theorem dX12_holder_16 : decode cX12_holder 16 = .ok (.ireturn, 1) := by decide +kernel
theorem dX12_holder_17 : decode cX12_holder 17 = .ok (.aload_n 0, 1) := by decide +kernel
theorem dX12_holder_18 : decode cX12_holder 18 = .ok (.getfield 238, 3) := by decide +kernel
theorem dX12_holder_21 : decode cX12_holder 21 = .ok (.bipush 8, 2) := by decide +kernel
theorem dX12_holder_23 : decode cX12_holder 23 = .ok (.if_icmp .ne 6, 3) := by decide +kernel
theorem dX12_holder_26 : decode cX12_holder 26 = .ok (.bipush (-5), 2) := by decide +kernel
theorem dX12_holder_28 : decode cX12_holder 28 = .ok (.ireturn, 1) := by decide +kernel
theorem dX12_holder_29 : decode cX12_holder 29 = .ok (.aload_n 0, 1) := by decide +kernel
theorem dX12_holder_30 : decode cX12_holder 30 = .ok (.getfield 56, 3) := by decide +kernel
theorem dX12_holder_33 : decode cX12_holder 33 = .ok (.aload_n 0, 1) := by decide +kernel
theorem dX12_holder_34 : decode cX12_holder 34 = .ok (.getfield 238, 3) := by decide +kernel
theorem dX12_holder_37 : decode cX12_holder 37 = .ok (.iload_n 1, 1) := by decide +kernel
theorem dX12_holder_38 : decode cX12_holder 38 = .ok (.iastore, 1) := by decide +kernel
theorem dX12_holder_39 : decode cX12_holder 39 = .ok (.aload_n 0, 1) := by decide +kernel
theorem dX12_holder_40 : decode cX12_holder 40 = .ok (.getfield 59, 3) := by decide +kernel
theorem dX12_holder_43 : decode cX12_holder 43 = .ok (.aload_n 0, 1) := by decide +kernel
theorem dX12_holder_44 : decode cX12_holder 44 = .ok (.getfield 238, 3) := by decide +kernel
theorem dX12_holder_47 : decode cX12_holder 47 = .ok (.iload_n 2, 1) := by decide +kernel
theorem dX12_holder_48 : decode cX12_holder 48 = .ok (.iastore, 1) := by decide +kernel
theorem dX12_holder_49 : decode cX12_holder 49 = .ok (.aload_n 0, 1) := by decide +kernel
theorem dX12_holder_50 : decode cX12_holder 50 = .ok (.dup, 1) := by decide +kernel
theorem dX12_holder_51 : decode cX12_holder 51 = .ok (.getfield 238, 3) := by decide +kernel
theorem dX12_holder_54 : decode cX12_holder 54 = .ok (.iconst 1, 1) := by decide +kernel
theorem dX12_holder_55 : decode cX12_holder 55 = .ok (.iadd, 1) := by decide +kernel
theorem dX12_holder_56 : decode cX12_holder 56 = .ok (.putfield 238, 3) := by decide +kernel
theorem dX12_holder_59 : decode cX12_holder 59 = .ok (.aload_n 0, 1) := by decide +kernel
theorem dX12_holder_60 : decode cX12_holder 60 = .ok (.getfield 238, 3) := by decide +kernel
theorem dX12_holder_63 : decode cX12_holder 63 = .ok (.iconst 1, 1) := by decide +kernel
theorem dX12_holder_64 : decode cX12_holder 64 = .ok (.isub, 1) := by decide +kernel
theorem dX12_holder_65 : decode cX12_holder 65 = .ok (.ireturn, 1) := by decide +kernel
theorem dX12_worthTo_0 : decode cX12_worthTo 0 = .ok (.aload_n 0, 1) := by decide +kernel
theorem dX12_worthTo_1 : decode cX12_worthTo 1 = .ok (.getfield 7, 3) := by decide +kernel
theorem dX12_worthTo_4 : decode cX12_worthTo 4 = .ok (.iconst 4, 1) := by decide +kernel
theorem dX12_worthTo_5 : decode cX12_worthTo 5 = .ok (.aload_n 0, 1) := by decide +kernel
theorem dX12_worthTo_6 : decode cX12_worthTo 6 = .ok (.getfield 56, 3) := by decide +kernel
theorem dX12_worthTo_9 : decode cX12_worthTo 9 = .ok (.iload_n 1, 1) := by decide +kernel
theorem dX12_worthTo_10 : decode cX12_worthTo 10 = .ok (.iaload, 1) := by decide +kernel
theorem dX12_worthTo_11 : decode cX12_worthTo 11 = .ok (.imul, 1) := by decide +kernel
theorem dX12_worthTo_12 : decode cX12_worthTo 12 = .ok (.aload_n 0, 1) := by decide +kernel
theorem dX12_worthTo_13 : decode cX12_worthTo 13 = .ok (.getfield 59, 3) := by decide +kernel
theorem dX12_worthTo_16 : decode cX12_worthTo 16 = .ok (.iload_n 2, 1) := by decide +kernel
theorem dX12_worthTo_17 : decode cX12_worthTo 17 = .ok (.iaload, 1) := by decide +kernel
theorem dX12_worthTo_18 : decode cX12_worthTo 18 = .ok (.iadd, 1) := by decide +kernel
theorem dX12_worthTo_19 : decode cX12_worthTo 19 = .ok (.iaload, 1) := by decide +kernel
theorem dX12_worthTo_20 : decode cX12_worthTo 20 = .ok (.ireturn, 1) := by decide +kernel
theorem dX12_swapAll_0 : decode cX12_swapAll 0 = .ok (.iconst 1, 1) := by decide +kernel
theorem dX12_swapAll_1 : decode cX12_swapAll 1 = .ok (.aload_n 0, 1) := by decide +kernel
theorem dX12_swapAll_2 : decode cX12_swapAll 2 = .ok (.getfield 238, 3) := by decide +kernel
theorem dX12_swapAll_5 : decode cX12_swapAll 5 = .ok (.ishl, 1) := by decide +kernel
theorem dX12_swapAll_6 : decode cX12_swapAll 6 = .ok (.iconst 1, 1) := by decide +kernel
theorem dX12_swapAll_7 : decode cX12_swapAll 7 = .ok (.isub, 1) := by decide +kernel
theorem dX12_swapAll_8 : decode cX12_swapAll 8 = .ok (.istore_n 1, 1) := by decide +kernel
theorem dX12_swapAll_9 : decode cX12_swapAll 9 = .ok (.aload_n 0, 1) := by decide +kernel
theorem dX12_swapAll_10 : decode cX12_swapAll 10 = .ok (.iconst 0, 1) := by decide +kernel
theorem dX12_swapAll_11 : decode cX12_swapAll 11 = .ok (.putfield 241, 3) := by decide +kernel
theorem dX12_swapAll_14 : decode cX12_swapAll 14 = .ok (.iload_n 1, 1) := by decide +kernel
theorem dX12_swapAll_15 : decode cX12_swapAll 15 = .ok (.ifCond .eq 299, 3) := by decide +kernel
theorem dX12_swapAll_18 : decode cX12_swapAll 18 = .ok (.iconst 0, 1) := by decide +kernel
theorem dX12_swapAll_19 : decode cX12_swapAll 19 = .ok (.istore_n 2, 1) := by decide +kernel
theorem dX12_swapAll_20 : decode cX12_swapAll 20 = .ok (.iload_n 2, 1) := by decide +kernel
theorem dX12_swapAll_21 : decode cX12_swapAll 21 = .ok (.aload_n 0, 1) := by decide +kernel
theorem dX12_swapAll_22 : decode cX12_swapAll 22 = .ok (.getfield 238, 3) := by decide +kernel
theorem dX12_swapAll_25 : decode cX12_swapAll 25 = .ok (.if_icmp .ge 111, 3) := by decide +kernel
theorem dX12_swapAll_28 : decode cX12_swapAll 28 = .ok (.aload_n 0, 1) := by decide +kernel
theorem dX12_swapAll_29 : decode cX12_swapAll 29 = .ok (.getfield 62, 3) := by decide +kernel
theorem dX12_swapAll_32 : decode cX12_swapAll 32 = .ok (.iload_n 2, 1) := by decide +kernel
theorem dX12_swapAll_33 : decode cX12_swapAll 33 = .ok (.iconst (-1), 1) := by decide +kernel
theorem dX12_swapAll_34 : decode cX12_swapAll 34 = .ok (.iastore, 1) := by decide +kernel
theorem dX12_swapAll_35 : decode cX12_swapAll 35 = .ok (.iconst 0, 1) := by decide +kernel
theorem dX12_swapAll_36 : decode cX12_swapAll 36 = .ok (.istore_n 3, 1) := by decide +kernel
theorem dX12_swapAll_37 : decode cX12_swapAll 37 = .ok (.iload_n 3, 1) := by decide +kernel
theorem dX12_swapAll_38 : decode cX12_swapAll 38 = .ok (.aload_n 0, 1) := by decide +kernel
theorem dX12_swapAll_39 : decode cX12_swapAll 39 = .ok (.getfield 238, 3) := by decide +kernel
theorem dX12_swapAll_42 : decode cX12_swapAll 42 = .ok (.if_icmp .ge 88, 3) := by decide +kernel
theorem dX12_swapAll_45 : decode cX12_swapAll 45 = .ok (.iload_n 1, 1) := by decide +kernel
theorem dX12_swapAll_46 : decode cX12_swapAll 46 = .ok (.iload_n 2, 1) := by decide +kernel
theorem dX12_swapAll_47 : decode cX12_swapAll 47 = .ok (.ishr, 1) := by decide +kernel
theorem dX12_swapAll_48 : decode cX12_swapAll 48 = .ok (.iconst 1, 1) := by decide +kernel
theorem dX12_swapAll_49 : decode cX12_swapAll 49 = .ok (.iand, 1) := by decide +kernel
theorem dX12_swapAll_50 : decode cX12_swapAll 50 = .ok (.iconst 1, 1) := by decide +kernel
theorem dX12_swapAll_51 : decode cX12_swapAll 51 = .ok (.if_icmp .ne 79, 3) := by decide +kernel
theorem dX12_swapAll_54 : decode cX12_swapAll 54 = .ok (.iload_n 1, 1) := by decide +kernel
theorem dX12_swapAll_55 : decode cX12_swapAll 55 = .ok (.iload_n 3, 1) := by decide +kernel
theorem dX12_swapAll_56 : decode cX12_swapAll 56 = .ok (.ishr, 1) := by decide +kernel
theorem dX12_swapAll_57 : decode cX12_swapAll 57 = .ok (.iconst 1, 1) := by decide +kernel
theorem dX12_swapAll_58 : decode cX12_swapAll 58 = .ok (.iand, 1) := by decide +kernel
theorem dX12_swapAll_59 : decode cX12_swapAll 59 = .ok (.iconst 1, 1) := by decide +kernel
theorem dX12_swapAll_60 : decode cX12_swapAll 60 = .ok (.if_icmp .ne 64, 3) := by decide +kernel
theorem dX12_swapAll_63 : decode cX12_swapAll 63 = .ok (.aload_n 0, 1) := by decide +kernel
theorem dX12_swapAll_64 : decode cX12_swapAll 64 = .ok (.getfield 62, 3) := by decide +kernel
theorem dX12_swapAll_67 : decode cX12_swapAll 67 = .ok (.iload_n 2, 1) := by decide +kernel
theorem dX12_swapAll_68 : decode cX12_swapAll 68 = .ok (.iaload, 1) := by decide +kernel
theorem dX12_swapAll_69 : decode cX12_swapAll 69 = .ok (.istore 4, 2) := by decide +kernel
theorem dX12_swapAll_71 : decode cX12_swapAll 71 = .ok (.iload 4, 2) := by decide +kernel
theorem dX12_swapAll_73 : decode cX12_swapAll 73 = .ok (.iconst (-1), 1) := by decide +kernel
theorem dX12_swapAll_74 : decode cX12_swapAll 74 = .ok (.if_icmp .ne 7, 3) := by decide +kernel
theorem dX12_swapAll_77 : decode cX12_swapAll 77 = .ok (.iconst 1, 1) := by decide +kernel
theorem dX12_swapAll_78 : decode cX12_swapAll 78 = .ok (.goto 17, 3) := by decide +kernel
theorem dX12_swapAll_81 : decode cX12_swapAll 81 = .ok (.aload_n 0, 1) := by decide +kernel
theorem dX12_swapAll_82 : decode cX12_swapAll 82 = .ok (.iload_n 2, 1) := by decide +kernel
theorem dX12_swapAll_83 : decode cX12_swapAll 83 = .ok (.iload_n 3, 1) := by decide +kernel
theorem dX12_swapAll_84 : decode cX12_swapAll 84 = .ok (.invokevirtual 244, 3) := by decide +kernel
theorem dX12_swapAll_87 : decode cX12_swapAll 87 = .ok (.aload_n 0, 1) := by decide +kernel
theorem dX12_swapAll_88 : decode cX12_swapAll 88 = .ok (.iload_n 2, 1) := by decide +kernel
theorem dX12_swapAll_89 : decode cX12_swapAll 89 = .ok (.iload 4, 2) := by decide +kernel
theorem dX12_swapAll_91 : decode cX12_swapAll 91 = .ok (.invokevirtual 244, 3) := by decide +kernel
theorem dX12_swapAll_94 : decode cX12_swapAll 94 = .ok (.isub, 1) := by decide +kernel
theorem dX12_swapAll_95 : decode cX12_swapAll 95 = .ok (.istore 5, 2) := by decide +kernel
theorem dX12_swapAll_97 : decode cX12_swapAll 97 = .ok (.aload_n 0, 1) := by decide +kernel
theorem dX12_swapAll_98 : decode cX12_swapAll 98 = .ok (.getfield 62, 3) := by decide +kernel
theorem dX12_swapAll_101 : decode cX12_swapAll 101 = .ok (.iload_n 2, 1) := by decide +kernel
theorem dX12_swapAll_102 : decode cX12_swapAll 102 = .ok (.iload 5, 2) := by decide +kernel
theorem dX12_swapAll_104 : decode cX12_swapAll 104 = .ok (.ifCond .gt 13, 3) := by decide +kernel
theorem dX12_swapAll_107 : decode cX12_swapAll 107 = .ok (.iload 5, 2) := by decide +kernel
theorem dX12_swapAll_109 : decode cX12_swapAll 109 = .ok (.ifCond .ne 12, 3) := by decide +kernel
theorem dX12_swapAll_112 : decode cX12_swapAll 112 = .ok (.iload_n 3, 1) := by decide +kernel
theorem dX12_swapAll_113 : decode cX12_swapAll 113 = .ok (.iload_n 2, 1) := by decide +kernel
theorem dX12_swapAll_114 : decode cX12_swapAll 114 = .ok (.if_icmp .ne 7, 3) := by decide +kernel
theorem dX12_swapAll_117 : decode cX12_swapAll 117 = .ok (.iload_n 3, 1) := by decide +kernel
theorem dX12_swapAll_118 : decode cX12_swapAll 118 = .ok (.goto 5, 3) := by decide +kernel
theorem dX12_swapAll_121 : decode cX12_swapAll 121 = .ok (.iload 4, 2) := by decide +kernel
theorem dX12_swapAll_123 : decode cX12_swapAll 123 = .ok (.iastore, 1) := by decide +kernel
theorem dX12_swapAll_124 : decode cX12_swapAll 124 = .ok (.iinc 3 1, 3) := by decide +kernel
theorem dX12_swapAll_127 : decode cX12_swapAll 127 = .ok (.goto (-90), 3) := by decide +kernel
theorem dX12_swapAll_130 : decode cX12_swapAll 130 = .ok (.iinc 2 1, 3) := by decide +kernel
theorem dX12_swapAll_133 : decode cX12_swapAll 133 = .ok (.goto (-113), 3) := by decide +kernel
theorem dX12_swapAll_136 : decode cX12_swapAll 136 = .ok (.iconst 0, 1) := by decide +kernel
theorem dX12_swapAll_137 : decode cX12_swapAll 137 = .ok (.istore_n 2, 1) := by decide +kernel
theorem dX12_swapAll_138 : decode cX12_swapAll 138 = .ok (.iconst 0, 1) := by decide +kernel
theorem dX12_swapAll_139 : decode cX12_swapAll 139 = .ok (.istore_n 3, 1) := by decide +kernel
theorem dX12_swapAll_140 : decode cX12_swapAll 140 = .ok (.iload_n 3, 1) := by decide +kernel
theorem dX12_swapAll_141 : decode cX12_swapAll 141 = .ok (.aload_n 0, 1) := by decide +kernel
theorem dX12_swapAll_142 : decode cX12_swapAll 142 = .ok (.getfield 238, 3) := by decide +kernel
theorem dX12_swapAll_145 : decode cX12_swapAll 145 = .ok (.if_icmp .ge 114, 3) := by decide +kernel
theorem dX12_swapAll_148 : decode cX12_swapAll 148 = .ok (.iload_n 1, 1) := by decide +kernel
theorem dX12_swapAll_149 : decode cX12_swapAll 149 = .ok (.iload_n 3, 1) := by decide +kernel
theorem dX12_swapAll_150 : decode cX12_swapAll 150 = .ok (.ishr, 1) := by decide +kernel
theorem dX12_swapAll_151 : decode cX12_swapAll 151 = .ok (.iconst 1, 1) := by decide +kernel
theorem dX12_swapAll_152 : decode cX12_swapAll 152 = .ok (.iand, 1) := by decide +kernel
theorem dX12_swapAll_153 : decode cX12_swapAll 153 = .ok (.iconst 1, 1) := by decide +kernel
theorem dX12_swapAll_154 : decode cX12_swapAll 154 = .ok (.if_icmp .ne 99, 3) := by decide +kernel
theorem dX12_swapAll_157 : decode cX12_swapAll 157 = .ok (.iload_n 2, 1) := by decide +kernel
theorem dX12_swapAll_158 : decode cX12_swapAll 158 = .ok (.iload_n 3, 1) := by decide +kernel
theorem dX12_swapAll_159 : decode cX12_swapAll 159 = .ok (.ishr, 1) := by decide +kernel
theorem dX12_swapAll_160 : decode cX12_swapAll 160 = .ok (.iconst 1, 1) := by decide +kernel
theorem dX12_swapAll_161 : decode cX12_swapAll 161 = .ok (.iand, 1) := by decide +kernel
theorem dX12_swapAll_162 : decode cX12_swapAll 162 = .ok (.ifCond .ne 91, 3) := by decide +kernel
theorem dX12_swapAll_165 : decode cX12_swapAll 165 = .ok (.aload_n 0, 1) := by decide +kernel
theorem dX12_swapAll_166 : decode cX12_swapAll 166 = .ok (.getfield 62, 3) := by decide +kernel
theorem dX12_swapAll_169 : decode cX12_swapAll 169 = .ok (.iload_n 3, 1) := by decide +kernel
theorem dX12_swapAll_170 : decode cX12_swapAll 170 = .ok (.iaload, 1) := by decide +kernel
theorem dX12_swapAll_171 : decode cX12_swapAll 171 = .ok (.istore 4, 2) := by decide +kernel
theorem dX12_swapAll_173 : decode cX12_swapAll 173 = .ok (.iconst 1, 1) := by decide +kernel
theorem dX12_swapAll_174 : decode cX12_swapAll 174 = .ok (.iload_n 3, 1) := by decide +kernel
theorem dX12_swapAll_175 : decode cX12_swapAll 175 = .ok (.ishl, 1) := by decide +kernel
theorem dX12_swapAll_176 : decode cX12_swapAll 176 = .ok (.istore 5, 2) := by decide +kernel
theorem dX12_swapAll_178 : decode cX12_swapAll 178 = .ok (.iconst 0, 1) := by decide +kernel
theorem dX12_swapAll_179 : decode cX12_swapAll 179 = .ok (.istore 6, 2) := by decide +kernel
theorem dX12_swapAll_181 : decode cX12_swapAll 181 = .ok (.iload 6, 2) := by decide +kernel
theorem dX12_swapAll_183 : decode cX12_swapAll 183 = .ok (.aload_n 0, 1) := by decide +kernel
theorem dX12_swapAll_184 : decode cX12_swapAll 184 = .ok (.getfield 238, 3) := by decide +kernel
theorem dX12_swapAll_187 : decode cX12_swapAll 187 = .ok (.if_icmp .ge 33, 3) := by decide +kernel
theorem dX12_swapAll_190 : decode cX12_swapAll 190 = .ok (.iload 4, 2) := by decide +kernel
theorem dX12_swapAll_192 : decode cX12_swapAll 192 = .ok (.iload_n 3, 1) := by decide +kernel
theorem dX12_swapAll_193 : decode cX12_swapAll 193 = .ok (.if_icmp .eq 27, 3) := by decide +kernel
theorem dX12_swapAll_196 : decode cX12_swapAll 196 = .ok (.iload 5, 2) := by decide +kernel
theorem dX12_swapAll_198 : decode cX12_swapAll 198 = .ok (.iconst 1, 1) := by decide +kernel
theorem dX12_swapAll_199 : decode cX12_swapAll 199 = .ok (.iload 4, 2) := by decide +kernel
theorem dX12_swapAll_201 : decode cX12_swapAll 201 = .ok (.ishl, 1) := by decide +kernel
theorem dX12_swapAll_202 : decode cX12_swapAll 202 = .ok (.ior, 1) := by decide +kernel
theorem dX12_swapAll_203 : decode cX12_swapAll 203 = .ok (.istore 5, 2) := by decide +kernel
theorem dX12_swapAll_205 : decode cX12_swapAll 205 = .ok (.aload_n 0, 1) := by decide +kernel
theorem dX12_swapAll_206 : decode cX12_swapAll 206 = .ok (.getfield 62, 3) := by decide +kernel
theorem dX12_swapAll_209 : decode cX12_swapAll 209 = .ok (.iload 4, 2) := by decide +kernel
theorem dX12_swapAll_211 : decode cX12_swapAll 211 = .ok (.iaload, 1) := by decide +kernel
theorem dX12_swapAll_212 : decode cX12_swapAll 212 = .ok (.istore 4, 2) := by decide +kernel
theorem dX12_swapAll_214 : decode cX12_swapAll 214 = .ok (.iinc 6 1, 3) := by decide +kernel
theorem dX12_swapAll_217 : decode cX12_swapAll 217 = .ok (.goto (-36), 3) := by decide +kernel
theorem dX12_swapAll_220 : decode cX12_swapAll 220 = .ok (.iload 4, 2) := by decide +kernel
theorem dX12_swapAll_222 : decode cX12_swapAll 222 = .ok (.iload_n 3, 1) := by decide +kernel
theorem dX12_swapAll_223 : decode cX12_swapAll 223 = .ok (.if_icmp .ne 30, 3) := by decide +kernel
theorem dX12_swapAll_226 : decode cX12_swapAll 226 = .ok (.iload_n 2, 1) := by decide +kernel
theorem dX12_swapAll_227 : decode cX12_swapAll 227 = .ok (.iload 5, 2) := by decide +kernel
theorem dX12_swapAll_229 : decode cX12_swapAll 229 = .ok (.ior, 1) := by decide +kernel
theorem dX12_swapAll_230 : decode cX12_swapAll 230 = .ok (.istore_n 2, 1) := by decide +kernel
theorem dX12_swapAll_231 : decode cX12_swapAll 231 = .ok (.aload_n 0, 1) := by decide +kernel
theorem dX12_swapAll_232 : decode cX12_swapAll 232 = .ok (.dup, 1) := by decide +kernel
theorem dX12_swapAll_233 : decode cX12_swapAll 233 = .ok (.getfield 241, 3) := by decide +kernel
theorem dX12_swapAll_236 : decode cX12_swapAll 236 = .ok (.iload 5, 2) := by decide +kernel
theorem dX12_swapAll_238 : decode cX12_swapAll 238 = .ok (.iconst 1, 1) := by decide +kernel
theorem dX12_swapAll_239 : decode cX12_swapAll 239 = .ok (.iload_n 3, 1) := by decide +kernel
theorem dX12_swapAll_240 : decode cX12_swapAll 240 = .ok (.ishl, 1) := by decide +kernel
theorem dX12_swapAll_241 : decode cX12_swapAll 241 = .ok (.if_icmp .ne 7, 3) := by decide +kernel
theorem dX12_swapAll_244 : decode cX12_swapAll 244 = .ok (.iconst 0, 1) := by decide +kernel
theorem dX12_swapAll_245 : decode cX12_swapAll 245 = .ok (.goto 4, 3) := by decide +kernel
theorem dX12_swapAll_248 : decode cX12_swapAll 248 = .ok (.iconst 1, 1) := by decide +kernel
theorem dX12_swapAll_249 : decode cX12_swapAll 249 = .ok (.iadd, 1) := by decide +kernel
theorem dX12_swapAll_250 : decode cX12_swapAll 250 = .ok (.putfield 241, 3) := by decide +kernel
theorem dX12_swapAll_253 : decode cX12_swapAll 253 = .ok (.iinc 3 1, 3) := by decide +kernel
theorem dX12_swapAll_256 : decode cX12_swapAll 256 = .ok (.goto (-116), 3) := by decide +kernel
theorem dX12_swapAll_259 : decode cX12_swapAll 259 = .ok (.iconst 0, 1) := by decide +kernel
theorem dX12_swapAll_260 : decode cX12_swapAll 260 = .ok (.istore_n 3, 1) := by decide +kernel
theorem dX12_swapAll_261 : decode cX12_swapAll 261 = .ok (.iload_n 3, 1) := by decide +kernel
theorem dX12_swapAll_262 : decode cX12_swapAll 262 = .ok (.aload_n 0, 1) := by decide +kernel
theorem dX12_swapAll_263 : decode cX12_swapAll 263 = .ok (.getfield 238, 3) := by decide +kernel
theorem dX12_swapAll_266 : decode cX12_swapAll 266 = .ok (.if_icmp .ge 39, 3) := by decide +kernel
theorem dX12_swapAll_269 : decode cX12_swapAll 269 = .ok (.aload_n 0, 1) := by decide +kernel
theorem dX12_swapAll_270 : decode cX12_swapAll 270 = .ok (.getfield 65, 3) := by decide +kernel
theorem dX12_swapAll_273 : decode cX12_swapAll 273 = .ok (.iload_n 3, 1) := by decide +kernel
theorem dX12_swapAll_274 : decode cX12_swapAll 274 = .ok (.iload_n 2, 1) := by decide +kernel
theorem dX12_swapAll_275 : decode cX12_swapAll 275 = .ok (.iload_n 3, 1) := by decide +kernel
theorem dX12_swapAll_276 : decode cX12_swapAll 276 = .ok (.ishr, 1) := by decide +kernel
theorem dX12_swapAll_277 : decode cX12_swapAll 277 = .ok (.iconst 1, 1) := by decide +kernel
theorem dX12_swapAll_278 : decode cX12_swapAll 278 = .ok (.iand, 1) := by decide +kernel
theorem dX12_swapAll_279 : decode cX12_swapAll 279 = .ok (.iconst 1, 1) := by decide +kernel
theorem dX12_swapAll_280 : decode cX12_swapAll 280 = .ok (.if_icmp .ne 12, 3) := by decide +kernel
theorem dX12_swapAll_283 : decode cX12_swapAll 283 = .ok (.aload_n 0, 1) := by decide +kernel
theorem dX12_swapAll_284 : decode cX12_swapAll 284 = .ok (.getfield 62, 3) := by decide +kernel
theorem dX12_swapAll_287 : decode cX12_swapAll 287 = .ok (.iload_n 3, 1) := by decide +kernel
theorem dX12_swapAll_288 : decode cX12_swapAll 288 = .ok (.iaload, 1) := by decide +kernel
theorem dX12_swapAll_289 : decode cX12_swapAll 289 = .ok (.goto 9, 3) := by decide +kernel
theorem dX12_swapAll_292 : decode cX12_swapAll 292 = .ok (.aload_n 0, 1) := by decide +kernel
theorem dX12_swapAll_293 : decode cX12_swapAll 293 = .ok (.getfield 65, 3) := by decide +kernel
theorem dX12_swapAll_296 : decode cX12_swapAll 296 = .ok (.iload_n 3, 1) := by decide +kernel
theorem dX12_swapAll_297 : decode cX12_swapAll 297 = .ok (.iaload, 1) := by decide +kernel
theorem dX12_swapAll_298 : decode cX12_swapAll 298 = .ok (.iastore, 1) := by decide +kernel
theorem dX12_swapAll_299 : decode cX12_swapAll 299 = .ok (.iinc 3 1, 3) := by decide +kernel
theorem dX12_swapAll_302 : decode cX12_swapAll 302 = .ok (.goto (-41), 3) := by decide +kernel
theorem dX12_swapAll_305 : decode cX12_swapAll 305 = .ok (.iload_n 1, 1) := by decide +kernel
theorem dX12_swapAll_306 : decode cX12_swapAll 306 = .ok (.iload_n 2, 1) := by decide +kernel
theorem dX12_swapAll_307 : decode cX12_swapAll 307 = .ok (.iconst (-1), 1) := by decide +kernel
theorem dX12_swapAll_308 : decode cX12_swapAll 308 = .ok (.ixor, 1) := by decide +kernel
theorem dX12_swapAll_309 : decode cX12_swapAll 309 = .ok (.iand, 1) := by decide +kernel
theorem dX12_swapAll_310 : decode cX12_swapAll 310 = .ok (.istore_n 1, 1) := by decide +kernel
theorem dX12_swapAll_311 : decode cX12_swapAll 311 = .ok (.goto (-297), 3) := by decide +kernel
theorem dX12_swapAll_314 : decode cX12_swapAll 314 = .ok (.return_, 1) := by decide +kernel
theorem dX12_swaps_0 : decode cX12_swaps 0 = .ok (.iload_n 1, 1) := by decide +kernel
theorem dX12_swaps_1 : decode cX12_swaps 1 = .ok (.iconst 0, 1) := by decide +kernel
theorem dX12_swaps_2 : decode cX12_swaps 2 = .ok (.aload_n 0, 1) := by decide +kernel
theorem dX12_swaps_3 : decode cX12_swaps 3 = .ok (.getfield 238, 3) := by decide +kernel
theorem dX12_swaps_6 : decode cX12_swaps 6 = .ok (.iconst 1, 1) := by decide +kernel
theorem dX12_swaps_7 : decode cX12_swaps 7 = .ok (.isub, 1) := by decide +kernel
theorem dX12_swaps_8 : decode cX12_swaps 8 = .ok (.invokestatic 75, 3) := by decide +kernel
theorem dX12_swaps_11 : decode cX12_swaps 11 = .ok (.ifCond .ne 6, 3) := by decide +kernel
theorem dX12_swaps_14 : decode cX12_swaps 14 = .ok (.bipush (-2), 2) := by decide +kernel
theorem dX12_swaps_16 : decode cX12_swaps 16 = .ok (.ireturn, 1) := by decide +kernel
theorem dX12_swaps_17 : decode cX12_swaps 17 = .ok (.aload_n 0, 1) := by decide +kernel
theorem dX12_swaps_18 : decode cX12_swaps 18 = .ok (.invokevirtual 248, 3) := by decide +kernel
theorem dX12_swaps_21 : decode cX12_swaps 21 = .ok (.aload_n 0, 1) := by decide +kernel
theorem dX12_swaps_22 : decode cX12_swaps 22 = .ok (.getfield 65, 3) := by decide +kernel
theorem dX12_swaps_25 : decode cX12_swaps 25 = .ok (.iload_n 1, 1) := by decide +kernel
theorem dX12_swaps_26 : decode cX12_swaps 26 = .ok (.iaload, 1) := by decide +kernel
theorem dX12_swaps_27 : decode cX12_swaps 27 = .ok (.ireturn, 1) := by decide +kernel
theorem dX12_rings_0 : decode cX12_rings 0 = .ok (.aload_n 0, 1) := by decide +kernel
theorem dX12_rings_1 : decode cX12_rings 1 = .ok (.invokevirtual 248, 3) := by decide +kernel
theorem dX12_rings_4 : decode cX12_rings 4 = .ok (.aload_n 0, 1) := by decide +kernel
theorem dX12_rings_5 : decode cX12_rings 5 = .ok (.getfield 241, 3) := by decide +kernel
theorem dX12_rings_8 : decode cX12_rings 8 = .ok (.ireturn, 1) := by decide +kernel
theorem dX12_wouldGo_0 : decode cX12_wouldGo 0 = .ok (.aload_n 0, 1) := by decide +kernel
theorem dX12_wouldGo_1 : decode cX12_wouldGo 1 = .ok (.getfield 7, 3) := by decide +kernel
theorem dX12_wouldGo_4 : decode cX12_wouldGo 4 = .ok (.iconst 4, 1) := by decide +kernel
theorem dX12_wouldGo_5 : decode cX12_wouldGo 5 = .ok (.aload_n 0, 1) := by decide +kernel
theorem dX12_wouldGo_6 : decode cX12_wouldGo 6 = .ok (.getfield 56, 3) := by decide +kernel
theorem dX12_wouldGo_9 : decode cX12_wouldGo 9 = .ok (.iload_n 1, 1) := by decide +kernel
theorem dX12_wouldGo_10 : decode cX12_wouldGo 10 = .ok (.iaload, 1) := by decide +kernel
theorem dX12_wouldGo_11 : decode cX12_wouldGo 11 = .ok (.imul, 1) := by decide +kernel
theorem dX12_wouldGo_12 : decode cX12_wouldGo 12 = .ok (.iload_n 2, 1) := by decide +kernel
theorem dX12_wouldGo_13 : decode cX12_wouldGo 13 = .ok (.iadd, 1) := by decide +kernel
theorem dX12_wouldGo_14 : decode cX12_wouldGo 14 = .ok (.iaload, 1) := by decide +kernel
theorem dX12_wouldGo_15 : decode cX12_wouldGo 15 = .ok (.aload_n 0, 1) := by decide +kernel
theorem dX12_wouldGo_16 : decode cX12_wouldGo 16 = .ok (.getfield 7, 3) := by decide +kernel
theorem dX12_wouldGo_19 : decode cX12_wouldGo 19 = .ok (.iconst 4, 1) := by decide +kernel
theorem dX12_wouldGo_20 : decode cX12_wouldGo 20 = .ok (.aload_n 0, 1) := by decide +kernel
theorem dX12_wouldGo_21 : decode cX12_wouldGo 21 = .ok (.getfield 56, 3) := by decide +kernel
theorem dX12_wouldGo_24 : decode cX12_wouldGo 24 = .ok (.iload_n 1, 1) := by decide +kernel
theorem dX12_wouldGo_25 : decode cX12_wouldGo 25 = .ok (.iaload, 1) := by decide +kernel
theorem dX12_wouldGo_26 : decode cX12_wouldGo 26 = .ok (.imul, 1) := by decide +kernel
theorem dX12_wouldGo_27 : decode cX12_wouldGo 27 = .ok (.aload_n 0, 1) := by decide +kernel
theorem dX12_wouldGo_28 : decode cX12_wouldGo 28 = .ok (.getfield 59, 3) := by decide +kernel
theorem dX12_wouldGo_31 : decode cX12_wouldGo 31 = .ok (.iload_n 1, 1) := by decide +kernel
theorem dX12_wouldGo_32 : decode cX12_wouldGo 32 = .ok (.iaload, 1) := by decide +kernel
theorem dX12_wouldGo_33 : decode cX12_wouldGo 33 = .ok (.iadd, 1) := by decide +kernel
theorem dX12_wouldGo_34 : decode cX12_wouldGo 34 = .ok (.iaload, 1) := by decide +kernel
theorem dX12_wouldGo_35 : decode cX12_wouldGo 35 = .ok (.if_icmp .le 7, 3) := by decide +kernel
theorem dX12_wouldGo_38 : decode cX12_wouldGo 38 = .ok (.iconst 1, 1) := by decide +kernel
theorem dX12_wouldGo_39 : decode cX12_wouldGo 39 = .ok (.goto 4, 3) := by decide +kernel
theorem dX12_wouldGo_42 : decode cX12_wouldGo 42 = .ok (.iconst 0, 1) := by decide +kernel
theorem dX12_wouldGo_43 : decode cX12_wouldGo 43 = .ok (.ireturn, 1) := by decide +kernel
end
section
theorem dX12_chain_0 : decode cX12_chain 0 = .ok (.iload_n 1, 1) := by decide +kernel
theorem dX12_chain_1 : decode cX12_chain 1 = .ok (.invokestatic 79, 3) := by decide +kernel
theorem dX12_chain_4 : decode cX12_chain 4 = .ok (.ifCond .ne 6, 3) := by decide +kernel
theorem dX12_chain_7 : decode cX12_chain 7 = .ok (.bipush (-2), 2) := by decide +kernel
theorem dX12_chain_9 : decode cX12_chain 9 = .ok (.ireturn, 1) := by decide +kernel
theorem dX12_chain_10 : decode cX12_chain 10 = .ok (.iload_n 2, 1) := by decide +kernel
theorem dX12_chain_11 : decode cX12_chain 11 = .ok (.iconst (-1), 1) := by decide +kernel
theorem dX12_chain_12 : decode cX12_chain 12 = .ok (.if_icmp .ge 6, 3) := by decide +kernel
theorem dX12_chain_15 : decode cX12_chain 15 = .ok (.bipush (-3), 2) := by decide +kernel
theorem dX12_chain_17 : decode cX12_chain 17 = .ok (.ireturn, 1) := by decide +kernel
theorem dX12_chain_18 : decode cX12_chain 18 = .ok (.iconst 1, 1) := by decide +kernel
theorem dX12_chain_19 : decode cX12_chain 19 = .ok (.aload_n 0, 1) := by decide +kernel
theorem dX12_chain_20 : decode cX12_chain 20 = .ok (.getfield 238, 3) := by decide +kernel
theorem dX12_chain_23 : decode cX12_chain 23 = .ok (.ishl, 1) := by decide +kernel
theorem dX12_chain_24 : decode cX12_chain 24 = .ok (.iconst 1, 1) := by decide +kernel
theorem dX12_chain_25 : decode cX12_chain 25 = .ok (.isub, 1) := by decide +kernel
theorem dX12_chain_26 : decode cX12_chain 26 = .ok (.istore_n 3, 1) := by decide +kernel
theorem dX12_chain_27 : decode cX12_chain 27 = .ok (.iload_n 3, 1) := by decide +kernel
theorem dX12_chain_28 : decode cX12_chain 28 = .ok (.ifCond .le 140, 3) := by decide +kernel
theorem dX12_chain_31 : decode cX12_chain 31 = .ok (.iconst 0, 1) := by decide +kernel
theorem dX12_chain_32 : decode cX12_chain 32 = .ok (.istore 4, 2) := by decide +kernel
theorem dX12_chain_34 : decode cX12_chain 34 = .ok (.iload 4, 2) := by decide +kernel
theorem dX12_chain_36 : decode cX12_chain 36 = .ok (.aload_n 0, 1) := by decide +kernel
theorem dX12_chain_37 : decode cX12_chain 37 = .ok (.getfield 238, 3) := by decide +kernel
theorem dX12_chain_40 : decode cX12_chain 40 = .ok (.if_icmp .ge 122, 3) := by decide +kernel
theorem dX12_chain_43 : decode cX12_chain 43 = .ok (.iconst 0, 1) := by decide +kernel
theorem dX12_chain_44 : decode cX12_chain 44 = .ok (.istore 5, 2) := by decide +kernel
theorem dX12_chain_46 : decode cX12_chain 46 = .ok (.iconst 0, 1) := by decide +kernel
theorem dX12_chain_47 : decode cX12_chain 47 = .ok (.istore 6, 2) := by decide +kernel
theorem dX12_chain_49 : decode cX12_chain 49 = .ok (.iload 6, 2) := by decide +kernel
theorem dX12_chain_51 : decode cX12_chain 51 = .ok (.aload_n 0, 1) := by decide +kernel
theorem dX12_chain_52 : decode cX12_chain 52 = .ok (.getfield 238, 3) := by decide +kernel
theorem dX12_chain_55 : decode cX12_chain 55 = .ok (.if_icmp .ge 87, 3) := by decide +kernel
theorem dX12_chain_58 : decode cX12_chain 58 = .ok (.iload_n 3, 1) := by decide +kernel
theorem dX12_chain_59 : decode cX12_chain 59 = .ok (.iload 6, 2) := by decide +kernel
theorem dX12_chain_61 : decode cX12_chain 61 = .ok (.ishr, 1) := by decide +kernel
theorem dX12_chain_62 : decode cX12_chain 62 = .ok (.iconst 1, 1) := by decide +kernel
theorem dX12_chain_63 : decode cX12_chain 63 = .ok (.iand, 1) := by decide +kernel
theorem dX12_chain_64 : decode cX12_chain 64 = .ok (.ifCond .ne 23, 3) := by decide +kernel
theorem dX12_chain_67 : decode cX12_chain 67 = .ok (.aload_n 0, 1) := by decide +kernel
theorem dX12_chain_68 : decode cX12_chain 68 = .ok (.iload 6, 2) := by decide +kernel
theorem dX12_chain_70 : decode cX12_chain 70 = .ok (.aload_n 0, 1) := by decide +kernel
theorem dX12_chain_71 : decode cX12_chain 71 = .ok (.getfield 59, 3) := by decide +kernel
theorem dX12_chain_74 : decode cX12_chain 74 = .ok (.iload 4, 2) := by decide +kernel
theorem dX12_chain_76 : decode cX12_chain 76 = .ok (.iaload, 1) := by decide +kernel
theorem dX12_chain_77 : decode cX12_chain 77 = .ok (.invokevirtual 251, 3) := by decide +kernel
theorem dX12_chain_80 : decode cX12_chain 80 = .ok (.ifCond .eq 7, 3) := by decide +kernel
theorem dX12_chain_83 : decode cX12_chain 83 = .ok (.iconst 1, 1) := by decide +kernel
theorem dX12_chain_84 : decode cX12_chain 84 = .ok (.goto 4, 3) := by decide +kernel
theorem dX12_chain_87 : decode cX12_chain 87 = .ok (.iconst 0, 1) := by decide +kernel
theorem dX12_chain_88 : decode cX12_chain 88 = .ok (.istore 7, 2) := by decide +kernel
theorem dX12_chain_90 : decode cX12_chain 90 = .ok (.iload 7, 2) := by decide +kernel
theorem dX12_chain_92 : decode cX12_chain 92 = .ok (.ifCond .eq 25, 3) := by decide +kernel
theorem dX12_chain_95 : decode cX12_chain 95 = .ok (.iconst 1, 1) := by decide +kernel
theorem dX12_chain_96 : decode cX12_chain 96 = .ok (.aload_n 0, 1) := by decide +kernel
theorem dX12_chain_97 : decode cX12_chain 97 = .ok (.getfield 68, 3) := by decide +kernel
theorem dX12_chain_100 : decode cX12_chain 100 = .ok (.bipush 8, 2) := by decide +kernel
theorem dX12_chain_102 : decode cX12_chain 102 = .ok (.iload_n 3, 1) := by decide +kernel
theorem dX12_chain_103 : decode cX12_chain 103 = .ok (.iconst 1, 1) := by decide +kernel
theorem dX12_chain_104 : decode cX12_chain 104 = .ok (.iload 6, 2) := by decide +kernel
theorem dX12_chain_106 : decode cX12_chain 106 = .ok (.ishl, 1) := by decide +kernel
theorem dX12_chain_107 : decode cX12_chain 107 = .ok (.ior, 1) := by decide +kernel
theorem dX12_chain_108 : decode cX12_chain 108 = .ok (.imul, 1) := by decide +kernel
theorem dX12_chain_109 : decode cX12_chain 109 = .ok (.iload 6, 2) := by decide +kernel
theorem dX12_chain_111 : decode cX12_chain 111 = .ok (.iadd, 1) := by decide +kernel
theorem dX12_chain_112 : decode cX12_chain 112 = .ok (.iaload, 1) := by decide +kernel
theorem dX12_chain_113 : decode cX12_chain 113 = .ok (.iadd, 1) := by decide +kernel
theorem dX12_chain_114 : decode cX12_chain 114 = .ok (.goto 4, 3) := by decide +kernel
theorem dX12_chain_117 : decode cX12_chain 117 = .ok (.iconst 0, 1) := by decide +kernel
theorem dX12_chain_118 : decode cX12_chain 118 = .ok (.istore 8, 2) := by decide +kernel
theorem dX12_chain_120 : decode cX12_chain 120 = .ok (.iload 8, 2) := by decide +kernel
theorem dX12_chain_122 : decode cX12_chain 122 = .ok (.iload 5, 2) := by decide +kernel
theorem dX12_chain_124 : decode cX12_chain 124 = .ok (.if_icmp .le 8, 3) := by decide +kernel
theorem dX12_chain_127 : decode cX12_chain 127 = .ok (.iload 8, 2) := by decide +kernel
theorem dX12_chain_129 : decode cX12_chain 129 = .ok (.goto 5, 3) := by decide +kernel
theorem dX12_chain_132 : decode cX12_chain 132 = .ok (.iload 5, 2) := by decide +kernel
theorem dX12_chain_134 : decode cX12_chain 134 = .ok (.istore 5, 2) := by decide +kernel
theorem dX12_chain_136 : decode cX12_chain 136 = .ok (.iinc 6 1, 3) := by decide +kernel
theorem dX12_chain_139 : decode cX12_chain 139 = .ok (.goto (-90), 3) := by decide +kernel
theorem dX12_chain_142 : decode cX12_chain 142 = .ok (.aload_n 0, 1) := by decide +kernel
theorem dX12_chain_143 : decode cX12_chain 143 = .ok (.getfield 68, 3) := by decide +kernel
theorem dX12_chain_146 : decode cX12_chain 146 = .ok (.bipush 8, 2) := by decide +kernel
theorem dX12_chain_148 : decode cX12_chain 148 = .ok (.iload_n 3, 1) := by decide +kernel
theorem dX12_chain_149 : decode cX12_chain 149 = .ok (.imul, 1) := by decide +kernel
theorem dX12_chain_150 : decode cX12_chain 150 = .ok (.iload 4, 2) := by decide +kernel
theorem dX12_chain_152 : decode cX12_chain 152 = .ok (.iadd, 1) := by decide +kernel
theorem dX12_chain_153 : decode cX12_chain 153 = .ok (.iload 5, 2) := by decide +kernel
theorem dX12_chain_155 : decode cX12_chain 155 = .ok (.iastore, 1) := by decide +kernel
theorem dX12_chain_156 : decode cX12_chain 156 = .ok (.iinc 4 1, 3) := by decide +kernel
theorem dX12_chain_159 : decode cX12_chain 159 = .ok (.goto (-125), 3) := by decide +kernel
theorem dX12_chain_162 : decode cX12_chain 162 = .ok (.iinc 3 (-1), 3) := by decide +kernel
theorem dX12_chain_165 : decode cX12_chain 165 = .ok (.goto (-138), 3) := by decide +kernel
theorem dX12_chain_168 : decode cX12_chain 168 = .ok (.iconst 0, 1) := by decide +kernel
theorem dX12_chain_169 : decode cX12_chain 169 = .ok (.istore_n 3, 1) := by decide +kernel
theorem dX12_chain_170 : decode cX12_chain 170 = .ok (.iload_n 1, 1) := by decide +kernel
theorem dX12_chain_171 : decode cX12_chain 171 = .ok (.istore 4, 2) := by decide +kernel
theorem dX12_chain_173 : decode cX12_chain 173 = .ok (.iconst 0, 1) := by decide +kernel
theorem dX12_chain_174 : decode cX12_chain 174 = .ok (.istore 5, 2) := by decide +kernel
theorem dX12_chain_176 : decode cX12_chain 176 = .ok (.iconst (-1), 1) := by decide +kernel
theorem dX12_chain_177 : decode cX12_chain 177 = .ok (.istore 6, 2) := by decide +kernel
theorem dX12_chain_179 : decode cX12_chain 179 = .ok (.iconst 1, 1) := by decide +kernel
theorem dX12_chain_180 : decode cX12_chain 180 = .ok (.istore 7, 2) := by decide +kernel
theorem dX12_chain_182 : decode cX12_chain 182 = .ok (.iload 7, 2) := by decide +kernel
theorem dX12_chain_184 : decode cX12_chain 184 = .ok (.ifCond .eq 171, 3) := by decide +kernel
theorem dX12_chain_187 : decode cX12_chain 187 = .ok (.iconst (-1), 1) := by decide +kernel
theorem dX12_chain_188 : decode cX12_chain 188 = .ok (.istore 8, 2) := by decide +kernel
theorem dX12_chain_190 : decode cX12_chain 190 = .ok (.iconst 0, 1) := by decide +kernel
theorem dX12_chain_191 : decode cX12_chain 191 = .ok (.istore 9, 2) := by decide +kernel
theorem dX12_chain_193 : decode cX12_chain 193 = .ok (.iconst 0, 1) := by decide +kernel
theorem dX12_chain_194 : decode cX12_chain 194 = .ok (.istore 10, 2) := by decide +kernel
theorem dX12_chain_196 : decode cX12_chain 196 = .ok (.iload 10, 2) := by decide +kernel
theorem dX12_chain_198 : decode cX12_chain 198 = .ok (.aload_n 0, 1) := by decide +kernel
theorem dX12_chain_199 : decode cX12_chain 199 = .ok (.getfield 238, 3) := by decide +kernel
theorem dX12_chain_202 : decode cX12_chain 202 = .ok (.if_icmp .ge 98, 3) := by decide +kernel
theorem dX12_chain_205 : decode cX12_chain 205 = .ok (.iload_n 3, 1) := by decide +kernel
theorem dX12_chain_206 : decode cX12_chain 206 = .ok (.iload 10, 2) := by decide +kernel
theorem dX12_chain_208 : decode cX12_chain 208 = .ok (.ishr, 1) := by decide +kernel
theorem dX12_chain_209 : decode cX12_chain 209 = .ok (.iconst 1, 1) := by decide +kernel
theorem dX12_chain_210 : decode cX12_chain 210 = .ok (.iand, 1) := by decide +kernel
theorem dX12_chain_211 : decode cX12_chain 211 = .ok (.ifCond .ne 18, 3) := by decide +kernel
theorem dX12_chain_214 : decode cX12_chain 214 = .ok (.aload_n 0, 1) := by decide +kernel
theorem dX12_chain_215 : decode cX12_chain 215 = .ok (.iload 10, 2) := by decide +kernel
theorem dX12_chain_217 : decode cX12_chain 217 = .ok (.iload 4, 2) := by decide +kernel
theorem dX12_chain_219 : decode cX12_chain 219 = .ok (.invokevirtual 251, 3) := by decide +kernel
theorem dX12_chain_222 : decode cX12_chain 222 = .ok (.ifCond .eq 7, 3) := by decide +kernel
theorem dX12_chain_225 : decode cX12_chain 225 = .ok (.iconst 1, 1) := by decide +kernel
theorem dX12_chain_226 : decode cX12_chain 226 = .ok (.goto 4, 3) := by decide +kernel
theorem dX12_chain_229 : decode cX12_chain 229 = .ok (.iconst 0, 1) := by decide +kernel
theorem dX12_chain_230 : decode cX12_chain 230 = .ok (.istore 11, 2) := by decide +kernel
theorem dX12_chain_232 : decode cX12_chain 232 = .ok (.iload 11, 2) := by decide +kernel
theorem dX12_chain_234 : decode cX12_chain 234 = .ok (.ifCond .eq 25, 3) := by decide +kernel
theorem dX12_chain_237 : decode cX12_chain 237 = .ok (.iconst 1, 1) := by decide +kernel
theorem dX12_chain_238 : decode cX12_chain 238 = .ok (.aload_n 0, 1) := by decide +kernel
theorem dX12_chain_239 : decode cX12_chain 239 = .ok (.getfield 68, 3) := by decide +kernel
theorem dX12_chain_242 : decode cX12_chain 242 = .ok (.bipush 8, 2) := by decide +kernel
theorem dX12_chain_244 : decode cX12_chain 244 = .ok (.iload_n 3, 1) := by decide +kernel
theorem dX12_chain_245 : decode cX12_chain 245 = .ok (.iconst 1, 1) := by decide +kernel
theorem dX12_chain_246 : decode cX12_chain 246 = .ok (.iload 10, 2) := by decide +kernel
theorem dX12_chain_248 : decode cX12_chain 248 = .ok (.ishl, 1) := by decide +kernel
theorem dX12_chain_249 : decode cX12_chain 249 = .ok (.ior, 1) := by decide +kernel
theorem dX12_chain_250 : decode cX12_chain 250 = .ok (.imul, 1) := by decide +kernel
theorem dX12_chain_251 : decode cX12_chain 251 = .ok (.iload 10, 2) := by decide +kernel
theorem dX12_chain_253 : decode cX12_chain 253 = .ok (.iadd, 1) := by decide +kernel
theorem dX12_chain_254 : decode cX12_chain 254 = .ok (.iaload, 1) := by decide +kernel
theorem dX12_chain_255 : decode cX12_chain 255 = .ok (.iadd, 1) := by decide +kernel
theorem dX12_chain_256 : decode cX12_chain 256 = .ok (.goto 4, 3) := by decide +kernel
theorem dX12_chain_259 : decode cX12_chain 259 = .ok (.iconst 0, 1) := by decide +kernel
theorem dX12_chain_260 : decode cX12_chain 260 = .ok (.istore 12, 2) := by decide +kernel
theorem dX12_chain_262 : decode cX12_chain 262 = .ok (.iload 12, 2) := by decide +kernel
theorem dX12_chain_264 : decode cX12_chain 264 = .ok (.iload 9, 2) := by decide +kernel
theorem dX12_chain_266 : decode cX12_chain 266 = .ok (.if_icmp .le 8, 3) := by decide +kernel
theorem dX12_chain_269 : decode cX12_chain 269 = .ok (.iload 10, 2) := by decide +kernel
theorem dX12_chain_271 : decode cX12_chain 271 = .ok (.goto 5, 3) := by decide +kernel
theorem dX12_chain_274 : decode cX12_chain 274 = .ok (.iload 8, 2) := by decide +kernel
theorem dX12_chain_276 : decode cX12_chain 276 = .ok (.istore 8, 2) := by decide +kernel
theorem dX12_chain_278 : decode cX12_chain 278 = .ok (.iload 12, 2) := by decide +kernel
theorem dX12_chain_280 : decode cX12_chain 280 = .ok (.iload 9, 2) := by decide +kernel
theorem dX12_chain_282 : decode cX12_chain 282 = .ok (.if_icmp .le 8, 3) := by decide +kernel
theorem dX12_chain_285 : decode cX12_chain 285 = .ok (.iload 12, 2) := by decide +kernel
theorem dX12_chain_287 : decode cX12_chain 287 = .ok (.goto 5, 3) := by decide +kernel
theorem dX12_chain_290 : decode cX12_chain 290 = .ok (.iload 9, 2) := by decide +kernel
theorem dX12_chain_292 : decode cX12_chain 292 = .ok (.istore 9, 2) := by decide +kernel
theorem dX12_chain_294 : decode cX12_chain 294 = .ok (.iinc 10 1, 3) := by decide +kernel
theorem dX12_chain_297 : decode cX12_chain 297 = .ok (.goto (-101), 3) := by decide +kernel
theorem dX12_chain_300 : decode cX12_chain 300 = .ok (.iload 8, 2) := by decide +kernel
theorem dX12_chain_302 : decode cX12_chain 302 = .ok (.iconst (-1), 1) := by decide +kernel
theorem dX12_chain_303 : decode cX12_chain 303 = .ok (.if_icmp .eq 7, 3) := by decide +kernel
theorem dX12_chain_306 : decode cX12_chain 306 = .ok (.iconst 1, 1) := by decide +kernel
theorem dX12_chain_307 : decode cX12_chain 307 = .ok (.goto 4, 3) := by decide +kernel
theorem dX12_chain_310 : decode cX12_chain 310 = .ok (.iconst 0, 1) := by decide +kernel
theorem dX12_chain_311 : decode cX12_chain 311 = .ok (.istore 7, 2) := by decide +kernel
theorem dX12_chain_313 : decode cX12_chain 313 = .ok (.iload 7, 2) := by decide +kernel
theorem dX12_chain_315 : decode cX12_chain 315 = .ok (.ifCond .eq 37, 3) := by decide +kernel
theorem dX12_chain_318 : decode cX12_chain 318 = .ok (.iload 5, 2) := by decide +kernel
theorem dX12_chain_320 : decode cX12_chain 320 = .ok (.iload_n 2, 1) := by decide +kernel
theorem dX12_chain_321 : decode cX12_chain 321 = .ok (.if_icmp .ne 8, 3) := by decide +kernel
theorem dX12_chain_324 : decode cX12_chain 324 = .ok (.iload 8, 2) := by decide +kernel
theorem dX12_chain_326 : decode cX12_chain 326 = .ok (.goto 5, 3) := by decide +kernel
theorem dX12_chain_329 : decode cX12_chain 329 = .ok (.iload 6, 2) := by decide +kernel
theorem dX12_chain_331 : decode cX12_chain 331 = .ok (.istore 6, 2) := by decide +kernel
theorem dX12_chain_333 : decode cX12_chain 333 = .ok (.iinc 5 1, 3) := by decide +kernel
theorem dX12_chain_336 : decode cX12_chain 336 = .ok (.iload_n 3, 1) := by decide +kernel
theorem dX12_chain_337 : decode cX12_chain 337 = .ok (.iconst 1, 1) := by decide +kernel
theorem dX12_chain_338 : decode cX12_chain 338 = .ok (.iload 8, 2) := by decide +kernel
theorem dX12_chain_340 : decode cX12_chain 340 = .ok (.ishl, 1) := by decide +kernel
theorem dX12_chain_341 : decode cX12_chain 341 = .ok (.ior, 1) := by decide +kernel
theorem dX12_chain_342 : decode cX12_chain 342 = .ok (.istore_n 3, 1) := by decide +kernel
theorem dX12_chain_343 : decode cX12_chain 343 = .ok (.aload_n 0, 1) := by decide +kernel
theorem dX12_chain_344 : decode cX12_chain 344 = .ok (.getfield 59, 3) := by decide +kernel
theorem dX12_chain_347 : decode cX12_chain 347 = .ok (.iload 8, 2) := by decide +kernel
theorem dX12_chain_349 : decode cX12_chain 349 = .ok (.iaload, 1) := by decide +kernel
theorem dX12_chain_350 : decode cX12_chain 350 = .ok (.istore 4, 2) := by decide +kernel
theorem dX12_chain_352 : decode cX12_chain 352 = .ok (.goto (-170), 3) := by decide +kernel
theorem dX12_chain_355 : decode cX12_chain 355 = .ok (.iload_n 2, 1) := by decide +kernel
theorem dX12_chain_356 : decode cX12_chain 356 = .ok (.iconst (-1), 1) := by decide +kernel
theorem dX12_chain_357 : decode cX12_chain 357 = .ok (.if_icmp .ne 8, 3) := by decide +kernel
theorem dX12_chain_360 : decode cX12_chain 360 = .ok (.iload 5, 2) := by decide +kernel
theorem dX12_chain_362 : decode cX12_chain 362 = .ok (.goto 5, 3) := by decide +kernel
theorem dX12_chain_365 : decode cX12_chain 365 = .ok (.iload 6, 2) := by decide +kernel
theorem dX12_chain_367 : decode cX12_chain 367 = .ok (.ireturn, 1) := by decide +kernel
theorem dX12_mean_0 : decode cX12_mean 0 = .ok (.iload_n 1, 1) := by decide +kernel
theorem dX12_mean_1 : decode cX12_mean 1 = .ok (.iconst 1, 1) := by decide +kernel
theorem dX12_mean_2 : decode cX12_mean 2 = .ok (.bipush 9, 2) := by decide +kernel
theorem dX12_mean_4 : decode cX12_mean 4 = .ok (.invokestatic 75, 3) := by decide +kernel
theorem dX12_mean_7 : decode cX12_mean 7 = .ok (.ifCond .eq 33, 3) := by decide +kernel
theorem dX12_mean_10 : decode cX12_mean 10 = .ok (.iload_n 2, 1) := by decide +kernel
theorem dX12_mean_11 : decode cX12_mean 11 = .ok (.iconst 1, 1) := by decide +kernel
theorem dX12_mean_12 : decode cX12_mean 12 = .ok (.bipush 9, 2) := by decide +kernel
theorem dX12_mean_14 : decode cX12_mean 14 = .ok (.invokestatic 75, 3) := by decide +kernel
theorem dX12_mean_17 : decode cX12_mean 17 = .ok (.ifCond .eq 23, 3) := by decide +kernel
theorem dX12_mean_20 : decode cX12_mean 20 = .ok (.iload_n 3, 1) := by decide +kernel
theorem dX12_mean_21 : decode cX12_mean 21 = .ok (.iconst 1, 1) := by decide +kernel
theorem dX12_mean_22 : decode cX12_mean 22 = .ok (.bipush 6, 2) := by decide +kernel
theorem dX12_mean_24 : decode cX12_mean 24 = .ok (.invokestatic 75, 3) := by decide +kernel
theorem dX12_mean_27 : decode cX12_mean 27 = .ok (.ifCond .eq 13, 3) := by decide +kernel
theorem dX12_mean_30 : decode cX12_mean 30 = .ok (.iload 4, 2) := by decide +kernel
theorem dX12_mean_32 : decode cX12_mean 32 = .ok (.iconst 0, 1) := by decide +kernel
theorem dX12_mean_33 : decode cX12_mean 33 = .ok (.iconst 1, 1) := by decide +kernel
theorem dX12_mean_34 : decode cX12_mean 34 = .ok (.invokestatic 75, 3) := by decide +kernel
theorem dX12_mean_37 : decode cX12_mean 37 = .ok (.ifCond .ne 7, 3) := by decide +kernel
theorem dX12_mean_40 : decode cX12_mean 40 = .ok (.ldc2_w 141, 3) := by decide +kernel
theorem dX12_mean_43 : decode cX12_mean 43 = .ok (.lreturn, 1) := by decide +kernel
theorem dX12_mean_44 : decode cX12_mean 44 = .ok (.lconst 0, 1) := by decide +kernel
theorem dX12_mean_45 : decode cX12_mean 45 = .ok (.lstore 5, 2) := by decide +kernel
theorem dX12_mean_47 : decode cX12_mean 47 = .ok (.lconst 0, 1) := by decide +kernel
theorem dX12_mean_48 : decode cX12_mean 48 = .ok (.lstore 7, 2) := by decide +kernel
theorem dX12_mean_50 : decode cX12_mean 50 = .ok (.iconst 0, 1) := by decide +kernel
theorem dX12_mean_51 : decode cX12_mean 51 = .ok (.istore 9, 2) := by decide +kernel
theorem dX12_mean_53 : decode cX12_mean 53 = .ok (.iload 9, 2) := by decide +kernel
theorem dX12_mean_55 : decode cX12_mean 55 = .ok (.iload_n 3, 1) := by decide +kernel
theorem dX12_mean_56 : decode cX12_mean 56 = .ok (.if_icmp .gt 73, 3) := by decide +kernel
theorem dX12_mean_59 : decode cX12_mean 59 = .ok (.lconst 1, 1) := by decide +kernel
theorem dX12_mean_60 : decode cX12_mean 60 = .ok (.lstore 10, 2) := by decide +kernel
theorem dX12_mean_62 : decode cX12_mean 62 = .ok (.iconst 0, 1) := by decide +kernel
theorem dX12_mean_63 : decode cX12_mean 63 = .ok (.istore 12, 2) := by decide +kernel
theorem dX12_mean_65 : decode cX12_mean 65 = .ok (.iload 12, 2) := by decide +kernel
theorem dX12_mean_67 : decode cX12_mean 67 = .ok (.iload_n 3, 1) := by decide +kernel
theorem dX12_mean_68 : decode cX12_mean 68 = .ok (.if_icmp .ge 37, 3) := by decide +kernel
theorem dX12_mean_71 : decode cX12_mean 71 = .ok (.lload 10, 2) := by decide +kernel
theorem dX12_mean_73 : decode cX12_mean 73 = .ok (.iload 12, 2) := by decide +kernel
theorem dX12_mean_75 : decode cX12_mean 75 = .ok (.iload 9, 2) := by decide +kernel
theorem dX12_mean_77 : decode cX12_mean 77 = .ok (.if_icmp .ge 12, 3) := by decide +kernel
theorem dX12_mean_80 : decode cX12_mean 80 = .ok (.iload_n 1, 1) := by decide +kernel
theorem dX12_mean_81 : decode cX12_mean 81 = .ok (.bipush 10, 2) := by decide +kernel
theorem dX12_mean_83 : decode cX12_mean 83 = .ok (.iload_n 2, 1) := by decide +kernel
theorem dX12_mean_84 : decode cX12_mean 84 = .ok (.isub, 1) := by decide +kernel
theorem dX12_mean_85 : decode cX12_mean 85 = .ok (.imul, 1) := by decide +kernel
theorem dX12_mean_86 : decode cX12_mean 86 = .ok (.goto 9, 3) := by decide +kernel
theorem dX12_mean_89 : decode cX12_mean 89 = .ok (.iload_n 2, 1) := by decide +kernel
theorem dX12_mean_90 : decode cX12_mean 90 = .ok (.bipush 10, 2) := by decide +kernel
theorem dX12_mean_92 : decode cX12_mean 92 = .ok (.iload_n 1, 1) := by decide +kernel
theorem dX12_mean_93 : decode cX12_mean 93 = .ok (.isub, 1) := by decide +kernel
theorem dX12_mean_94 : decode cX12_mean 94 = .ok (.imul, 1) := by decide +kernel
theorem dX12_mean_95 : decode cX12_mean 95 = .ok (.i2l, 1) := by decide +kernel
theorem dX12_mean_96 : decode cX12_mean 96 = .ok (.lmul, 1) := by decide +kernel
theorem dX12_mean_97 : decode cX12_mean 97 = .ok (.lstore 10, 2) := by decide +kernel
theorem dX12_mean_99 : decode cX12_mean 99 = .ok (.iinc 12 1, 3) := by decide +kernel
theorem dX12_mean_102 : decode cX12_mean 102 = .ok (.goto (-37), 3) := by decide +kernel
theorem dX12_mean_105 : decode cX12_mean 105 = .ok (.lload 5, 2) := by decide +kernel
theorem dX12_mean_107 : decode cX12_mean 107 = .ok (.iload 9, 2) := by decide +kernel
theorem dX12_mean_109 : decode cX12_mean 109 = .ok (.i2l, 1) := by decide +kernel
theorem dX12_mean_110 : decode cX12_mean 110 = .ok (.lload 10, 2) := by decide +kernel
theorem dX12_mean_112 : decode cX12_mean 112 = .ok (.lmul, 1) := by decide +kernel
theorem dX12_mean_113 : decode cX12_mean 113 = .ok (.ladd, 1) := by decide +kernel
theorem dX12_mean_114 : decode cX12_mean 114 = .ok (.lstore 5, 2) := by decide +kernel
theorem dX12_mean_116 : decode cX12_mean 116 = .ok (.lload 7, 2) := by decide +kernel
theorem dX12_mean_118 : decode cX12_mean 118 = .ok (.lload 10, 2) := by decide +kernel
theorem dX12_mean_120 : decode cX12_mean 120 = .ok (.ladd, 1) := by decide +kernel
theorem dX12_mean_121 : decode cX12_mean 121 = .ok (.lstore 7, 2) := by decide +kernel
theorem dX12_mean_123 : decode cX12_mean 123 = .ok (.iinc 9 1, 3) := by decide +kernel
theorem dX12_mean_126 : decode cX12_mean 126 = .ok (.goto (-73), 3) := by decide +kernel
theorem dX12_mean_129 : decode cX12_mean 129 = .ok (.lload 5, 2) := by decide +kernel
theorem dX12_mean_131 : decode cX12_mean 131 = .ok (.lload 7, 2) := by decide +kernel
theorem dX12_mean_133 : decode cX12_mean 133 = .ok (.invokestatic 226, 3) := by decide +kernel
theorem dX12_mean_136 : decode cX12_mean 136 = .ok (.lstore 9, 2) := by decide +kernel
theorem dX12_mean_138 : decode cX12_mean 138 = .ok (.iload 4, 2) := by decide +kernel
theorem dX12_mean_140 : decode cX12_mean 140 = .ok (.ifCond .ne 8, 3) := by decide +kernel
theorem dX12_mean_143 : decode cX12_mean 143 = .ok (.lload 5, 2) := by decide +kernel
theorem dX12_mean_145 : decode cX12_mean 145 = .ok (.goto 5, 3) := by decide +kernel
theorem dX12_mean_148 : decode cX12_mean 148 = .ok (.lload 7, 2) := by decide +kernel
theorem dX12_mean_150 : decode cX12_mean 150 = .ok (.lload 9, 2) := by decide +kernel
theorem dX12_mean_152 : decode cX12_mean 152 = .ok (.ldiv, 1) := by decide +kernel
theorem dX12_mean_153 : decode cX12_mean 153 = .ok (.lreturn, 1) := by decide +kernel
theorem dX12_count_0 : decode cX12_count 0 = .ok (.iload_n 1, 1) := by decide +kernel
theorem dX12_count_1 : decode cX12_count 1 = .ok (.tableswitch 87 0 6 #[43, 51, 59, 64, 69, 74, 79], 43) := by decide +kernel
theorem dX12_count_44 : decode cX12_count 44 = .ok (.aload_n 0, 1) := by decide +kernel
theorem dX12_count_45 : decode cX12_count 45 = .ok (.getfield 22, 3) := by decide +kernel
theorem dX12_count_48 : decode cX12_count 48 = .ok (.bipush 86, 2) := by decide +kernel
theorem dX12_count_50 : decode cX12_count 50 = .ok (.iaload, 1) := by decide +kernel
theorem dX12_count_51 : decode cX12_count 51 = .ok (.ireturn, 1) := by decide +kernel
theorem dX12_count_52 : decode cX12_count 52 = .ok (.aload_n 0, 1) := by decide +kernel
theorem dX12_count_53 : decode cX12_count 53 = .ok (.getfield 22, 3) := by decide +kernel
theorem dX12_count_56 : decode cX12_count 56 = .ok (.bipush 84, 2) := by decide +kernel
theorem dX12_count_58 : decode cX12_count 58 = .ok (.iaload, 1) := by decide +kernel
theorem dX12_count_59 : decode cX12_count 59 = .ok (.ireturn, 1) := by decide +kernel
theorem dX12_count_60 : decode cX12_count 60 = .ok (.aload_n 0, 1) := by decide +kernel
theorem dX12_count_61 : decode cX12_count 61 = .ok (.getfield 83, 3) := by decide +kernel
theorem dX12_count_64 : decode cX12_count 64 = .ok (.ireturn, 1) := by decide +kernel
theorem dX12_count_65 : decode cX12_count 65 = .ok (.aload_n 0, 1) := by decide +kernel
theorem dX12_count_66 : decode cX12_count 66 = .ok (.getfield 87, 3) := by decide +kernel
theorem dX12_count_69 : decode cX12_count 69 = .ok (.ireturn, 1) := by decide +kernel
theorem dX12_count_70 : decode cX12_count 70 = .ok (.aload_n 0, 1) := by decide +kernel
theorem dX12_count_71 : decode cX12_count 71 = .ok (.getfield 110, 3) := by decide +kernel
theorem dX12_count_74 : decode cX12_count 74 = .ok (.ireturn, 1) := by decide +kernel
theorem dX12_count_75 : decode cX12_count 75 = .ok (.aload_n 0, 1) := by decide +kernel
theorem dX12_count_76 : decode cX12_count 76 = .ok (.getfield 238, 3) := by decide +kernel
theorem dX12_count_79 : decode cX12_count 79 = .ok (.ireturn, 1) := by decide +kernel
theorem dX12_count_80 : decode cX12_count 80 = .ok (.aload_n 0, 1) := by decide +kernel
theorem dX12_count_81 : decode cX12_count 81 = .ok (.getfield 22, 3) := by decide +kernel
theorem dX12_count_84 : decode cX12_count 84 = .ok (.bipush 85, 2) := by decide +kernel
theorem dX12_count_86 : decode cX12_count 86 = .ok (.iaload, 1) := by decide +kernel
theorem dX12_count_87 : decode cX12_count 87 = .ok (.ireturn, 1) := by decide +kernel
theorem dX12_count_88 : decode cX12_count 88 = .ok (.bipush (-3), 2) := by decide +kernel
theorem dX12_count_90 : decode cX12_count 90 = .ok (.ireturn, 1) := by decide +kernel
theorem dJ6_numberOfTrailingZeros_0f7a4_0 : decode cJ6_numberOfTrailingZeros_0f7a4 0 = .ok (.iload_n 0, 1) := by decide +kernel
theorem dJ6_numberOfTrailingZeros_0f7a4_1 : decode cJ6_numberOfTrailingZeros_0f7a4 1 = .ok (.iconst (-1), 1) := by decide +kernel
theorem dJ6_numberOfTrailingZeros_0f7a4_2 : decode cJ6_numberOfTrailingZeros_0f7a4 2 = .ok (.ixor, 1) := by decide +kernel
theorem dJ6_numberOfTrailingZeros_0f7a4_3 : decode cJ6_numberOfTrailingZeros_0f7a4 3 = .ok (.iload_n 0, 1) := by decide +kernel
theorem dJ6_numberOfTrailingZeros_0f7a4_4 : decode cJ6_numberOfTrailingZeros_0f7a4 4 = .ok (.iconst 1, 1) := by decide +kernel
theorem dJ6_numberOfTrailingZeros_0f7a4_5 : decode cJ6_numberOfTrailingZeros_0f7a4 5 = .ok (.isub, 1) := by decide +kernel
theorem dJ6_numberOfTrailingZeros_0f7a4_6 : decode cJ6_numberOfTrailingZeros_0f7a4 6 = .ok (.iand, 1) := by decide +kernel
theorem dJ6_numberOfTrailingZeros_0f7a4_7 : decode cJ6_numberOfTrailingZeros_0f7a4 7 = .ok (.istore_n 0, 1) := by decide +kernel
theorem dJ6_numberOfTrailingZeros_0f7a4_8 : decode cJ6_numberOfTrailingZeros_0f7a4 8 = .ok (.iload_n 0, 1) := by decide +kernel
theorem dJ6_numberOfTrailingZeros_0f7a4_9 : decode cJ6_numberOfTrailingZeros_0f7a4 9 = .ok (.ifCond .gt 8, 3) := by decide +kernel
theorem dJ6_numberOfTrailingZeros_0f7a4_12 : decode cJ6_numberOfTrailingZeros_0f7a4 12 = .ok (.iload_n 0, 1) := by decide +kernel
theorem dJ6_numberOfTrailingZeros_0f7a4_13 : decode cJ6_numberOfTrailingZeros_0f7a4 13 = .ok (.bipush 32, 2) := by decide +kernel
theorem dJ6_numberOfTrailingZeros_0f7a4_15 : decode cJ6_numberOfTrailingZeros_0f7a4 15 = .ok (.iand, 1) := by decide +kernel
theorem dJ6_numberOfTrailingZeros_0f7a4_16 : decode cJ6_numberOfTrailingZeros_0f7a4 16 = .ok (.ireturn, 1) := by decide +kernel
theorem dJ6_numberOfTrailingZeros_0f7a4_17 : decode cJ6_numberOfTrailingZeros_0f7a4 17 = .ok (.iconst 1, 1) := by decide +kernel
theorem dJ6_numberOfTrailingZeros_0f7a4_18 : decode cJ6_numberOfTrailingZeros_0f7a4 18 = .ok (.istore_n 1, 1) := by decide +kernel
theorem dJ6_numberOfTrailingZeros_0f7a4_19 : decode cJ6_numberOfTrailingZeros_0f7a4 19 = .ok (.iload_n 0, 1) := by decide +kernel
theorem dJ6_numberOfTrailingZeros_0f7a4_20 : decode cJ6_numberOfTrailingZeros_0f7a4 20 = .ok (.ldc_w 264, 3) := by decide +kernel
theorem dJ6_numberOfTrailingZeros_0f7a4_23 : decode cJ6_numberOfTrailingZeros_0f7a4 23 = .ok (.if_icmp .le 11, 3) := by decide +kernel
theorem dJ6_numberOfTrailingZeros_0f7a4_26 : decode cJ6_numberOfTrailingZeros_0f7a4 26 = .ok (.iinc 1 16, 3) := by decide +kernel
theorem dJ6_numberOfTrailingZeros_0f7a4_29 : decode cJ6_numberOfTrailingZeros_0f7a4 29 = .ok (.iload_n 0, 1) := by decide +kernel
theorem dJ6_numberOfTrailingZeros_0f7a4_30 : decode cJ6_numberOfTrailingZeros_0f7a4 30 = .ok (.bipush 16, 2) := by decide +kernel
theorem dJ6_numberOfTrailingZeros_0f7a4_32 : decode cJ6_numberOfTrailingZeros_0f7a4 32 = .ok (.iushr, 1) := by decide +kernel
theorem dJ6_numberOfTrailingZeros_0f7a4_33 : decode cJ6_numberOfTrailingZeros_0f7a4 33 = .ok (.istore_n 0, 1) := by decide +kernel
theorem dJ6_numberOfTrailingZeros_0f7a4_34 : decode cJ6_numberOfTrailingZeros_0f7a4 34 = .ok (.iload_n 0, 1) := by decide +kernel
theorem dJ6_numberOfTrailingZeros_0f7a4_35 : decode cJ6_numberOfTrailingZeros_0f7a4 35 = .ok (.sipush 256, 3) := by decide +kernel
theorem dJ6_numberOfTrailingZeros_0f7a4_38 : decode cJ6_numberOfTrailingZeros_0f7a4 38 = .ok (.if_icmp .le 11, 3) := by decide +kernel
theorem dJ6_numberOfTrailingZeros_0f7a4_41 : decode cJ6_numberOfTrailingZeros_0f7a4 41 = .ok (.iinc 1 8, 3) := by decide +kernel
theorem dJ6_numberOfTrailingZeros_0f7a4_44 : decode cJ6_numberOfTrailingZeros_0f7a4 44 = .ok (.iload_n 0, 1) := by decide +kernel
theorem dJ6_numberOfTrailingZeros_0f7a4_45 : decode cJ6_numberOfTrailingZeros_0f7a4 45 = .ok (.bipush 8, 2) := by decide +kernel
theorem dJ6_numberOfTrailingZeros_0f7a4_47 : decode cJ6_numberOfTrailingZeros_0f7a4 47 = .ok (.iushr, 1) := by decide +kernel
theorem dJ6_numberOfTrailingZeros_0f7a4_48 : decode cJ6_numberOfTrailingZeros_0f7a4 48 = .ok (.istore_n 0, 1) := by decide +kernel
theorem dJ6_numberOfTrailingZeros_0f7a4_49 : decode cJ6_numberOfTrailingZeros_0f7a4 49 = .ok (.iload_n 0, 1) := by decide +kernel
theorem dJ6_numberOfTrailingZeros_0f7a4_50 : decode cJ6_numberOfTrailingZeros_0f7a4 50 = .ok (.bipush 16, 2) := by decide +kernel
theorem dJ6_numberOfTrailingZeros_0f7a4_52 : decode cJ6_numberOfTrailingZeros_0f7a4 52 = .ok (.if_icmp .le 10, 3) := by decide +kernel
theorem dJ6_numberOfTrailingZeros_0f7a4_55 : decode cJ6_numberOfTrailingZeros_0f7a4 55 = .ok (.iinc 1 4, 3) := by decide +kernel
theorem dJ6_numberOfTrailingZeros_0f7a4_58 : decode cJ6_numberOfTrailingZeros_0f7a4 58 = .ok (.iload_n 0, 1) := by decide +kernel
theorem dJ6_numberOfTrailingZeros_0f7a4_59 : decode cJ6_numberOfTrailingZeros_0f7a4 59 = .ok (.iconst 4, 1) := by decide +kernel
theorem dJ6_numberOfTrailingZeros_0f7a4_60 : decode cJ6_numberOfTrailingZeros_0f7a4 60 = .ok (.iushr, 1) := by decide +kernel
theorem dJ6_numberOfTrailingZeros_0f7a4_61 : decode cJ6_numberOfTrailingZeros_0f7a4 61 = .ok (.istore_n 0, 1) := by decide +kernel
theorem dJ6_numberOfTrailingZeros_0f7a4_62 : decode cJ6_numberOfTrailingZeros_0f7a4 62 = .ok (.iload_n 0, 1) := by decide +kernel
theorem dJ6_numberOfTrailingZeros_0f7a4_63 : decode cJ6_numberOfTrailingZeros_0f7a4 63 = .ok (.iconst 4, 1) := by decide +kernel
theorem dJ6_numberOfTrailingZeros_0f7a4_64 : decode cJ6_numberOfTrailingZeros_0f7a4 64 = .ok (.if_icmp .le 10, 3) := by decide +kernel
theorem dJ6_numberOfTrailingZeros_0f7a4_67 : decode cJ6_numberOfTrailingZeros_0f7a4 67 = .ok (.iinc 1 2, 3) := by decide +kernel
theorem dJ6_numberOfTrailingZeros_0f7a4_70 : decode cJ6_numberOfTrailingZeros_0f7a4 70 = .ok (.iload_n 0, 1) := by decide +kernel
theorem dJ6_numberOfTrailingZeros_0f7a4_71 : decode cJ6_numberOfTrailingZeros_0f7a4 71 = .ok (.iconst 2, 1) := by decide +kernel
theorem dJ6_numberOfTrailingZeros_0f7a4_72 : decode cJ6_numberOfTrailingZeros_0f7a4 72 = .ok (.iushr, 1) := by decide +kernel
theorem dJ6_numberOfTrailingZeros_0f7a4_73 : decode cJ6_numberOfTrailingZeros_0f7a4 73 = .ok (.istore_n 0, 1) := by decide +kernel
theorem dJ6_numberOfTrailingZeros_0f7a4_74 : decode cJ6_numberOfTrailingZeros_0f7a4 74 = .ok (.iload_n 1, 1) := by decide +kernel
theorem dJ6_numberOfTrailingZeros_0f7a4_75 : decode cJ6_numberOfTrailingZeros_0f7a4 75 = .ok (.iload_n 0, 1) := by decide +kernel
theorem dJ6_numberOfTrailingZeros_0f7a4_76 : decode cJ6_numberOfTrailingZeros_0f7a4 76 = .ok (.iconst 1, 1) := by decide +kernel
theorem dJ6_numberOfTrailingZeros_0f7a4_77 : decode cJ6_numberOfTrailingZeros_0f7a4 77 = .ok (.iushr, 1) := by decide +kernel
theorem dJ6_numberOfTrailingZeros_0f7a4_78 : decode cJ6_numberOfTrailingZeros_0f7a4 78 = .ok (.iadd, 1) := by decide +kernel
theorem dJ6_numberOfTrailingZeros_0f7a4_79 : decode cJ6_numberOfTrailingZeros_0f7a4 79 = .ok (.ireturn, 1) := by decide +kernel
theorem dJ9_min_7cf53_0 : decode cJ9_min_7cf53 0 = .ok (.iload_n 0, 1) := by decide +kernel
theorem dJ9_min_7cf53_1 : decode cJ9_min_7cf53 1 = .ok (.iload_n 1, 1) := by decide +kernel
theorem dJ9_min_7cf53_2 : decode cJ9_min_7cf53 2 = .ok (.if_icmp .gt 7, 3) := by decide +kernel
theorem dJ9_min_7cf53_5 : decode cJ9_min_7cf53 5 = .ok (.iload_n 0, 1) := by decide +kernel
theorem dJ9_min_7cf53_6 : decode cJ9_min_7cf53 6 = .ok (.goto 4, 3) := by decide +kernel
theorem dJ9_min_7cf53_9 : decode cJ9_min_7cf53 9 = .ok (.iload_n 1, 1) := by decide +kernel
theorem dJ9_min_7cf53_10 : decode cJ9_min_7cf53 10 = .ok (.ireturn, 1) := by decide +kernel
theorem dJ0_length_8abf5_0 : decode cJ0_length_8abf5 0 = .ok (.aload_n 0, 1) := by decide +kernel
theorem dJ0_length_8abf5_1 : decode cJ0_length_8abf5 1 = .ok (.getfield 9, 3) := by decide +kernel
theorem dJ0_length_8abf5_4 : decode cJ0_length_8abf5 4 = .ok (.arraylength, 1) := by decide +kernel
theorem dJ0_length_8abf5_5 : decode cJ0_length_8abf5 5 = .ok (.aload_n 0, 1) := by decide +kernel
theorem dJ0_length_8abf5_6 : decode cJ0_length_8abf5 6 = .ok (.invokevirtual 335, 3) := by decide +kernel
theorem dJ0_length_8abf5_9 : decode cJ0_length_8abf5 9 = .ok (.ishr, 1) := by decide +kernel
theorem dJ0_length_8abf5_10 : decode cJ0_length_8abf5 10 = .ok (.ireturn, 1) := by decide +kernel
theorem dJ0_charAt_5068e_0 : decode cJ0_charAt_5068e 0 = .ok (.aload_n 0, 1) := by decide +kernel
theorem dJ0_charAt_5068e_1 : decode cJ0_charAt_5068e 1 = .ok (.invokevirtual 492, 3) := by decide +kernel
theorem dJ0_charAt_5068e_4 : decode cJ0_charAt_5068e 4 = .ok (.ifCond .eq 12, 3) := by decide +kernel
theorem dJ0_charAt_5068e_7 : decode cJ0_charAt_5068e 7 = .ok (.aload_n 0, 1) := by decide +kernel
theorem dJ0_charAt_5068e_8 : decode cJ0_charAt_5068e 8 = .ok (.getfield 9, 3) := by decide +kernel
theorem dJ0_charAt_5068e_11 : decode cJ0_charAt_5068e 11 = .ok (.iload_n 1, 1) := by decide +kernel
theorem dJ0_charAt_5068e_12 : decode cJ0_charAt_5068e 12 = .ok (.invokestatic 495, 3) := by decide +kernel
theorem dJ0_charAt_5068e_15 : decode cJ0_charAt_5068e 15 = .ok (.ireturn, 1) := by decide +kernel
theorem dJ0_charAt_5068e_16 : decode cJ0_charAt_5068e 16 = .ok (.aload_n 0, 1) := by decide +kernel
theorem dJ0_charAt_5068e_17 : decode cJ0_charAt_5068e 17 = .ok (.getfield 9, 3) := by decide +kernel
theorem dJ0_charAt_5068e_20 : decode cJ0_charAt_5068e 20 = .ok (.iload_n 1, 1) := by decide +kernel
theorem dJ0_charAt_5068e_21 : decode cJ0_charAt_5068e 21 = .ok (.invokestatic 498, 3) := by decide +kernel
theorem dJ0_charAt_5068e_24 : decode cJ0_charAt_5068e 24 = .ok (.ireturn, 1) := by decide +kernel
theorem dJ0_coder_7d493_0 : decode cJ0_coder_7d493 0 = .ok (.getstatic 38, 3) := by decide +kernel
theorem dJ0_coder_7d493_3 : decode cJ0_coder_7d493 3 = .ok (.ifCond .eq 10, 3) := by decide +kernel
theorem dJ0_coder_7d493_6 : decode cJ0_coder_7d493 6 = .ok (.aload_n 0, 1) := by decide +kernel
theorem dJ0_coder_7d493_7 : decode cJ0_coder_7d493 7 = .ok (.getfield 15, 3) := by decide +kernel
theorem dJ0_coder_7d493_10 : decode cJ0_coder_7d493 10 = .ok (.goto 4, 3) := by decide +kernel
theorem dJ0_coder_7d493_13 : decode cJ0_coder_7d493 13 = .ok (.iconst 1, 1) := by decide +kernel
theorem dJ0_coder_7d493_14 : decode cJ0_coder_7d493 14 = .ok (.ireturn, 1) := by decide +kernel
theorem dJ0_isLatin1_aae02_0 : decode cJ0_isLatin1_aae02 0 = .ok (.getstatic 38, 3) := by decide +kernel
theorem dJ0_isLatin1_aae02_3 : decode cJ0_isLatin1_aae02 3 = .ok (.ifCond .eq 14, 3) := by decide +kernel
theorem dJ0_isLatin1_aae02_6 : decode cJ0_isLatin1_aae02 6 = .ok (.aload_n 0, 1) := by decide +kernel
theorem dJ0_isLatin1_aae02_7 : decode cJ0_isLatin1_aae02 7 = .ok (.getfield 15, 3) := by decide +kernel
theorem dJ0_isLatin1_aae02_10 : decode cJ0_isLatin1_aae02 10 = .ok (.ifCond .ne 7, 3) := by decide +kernel
theorem dJ0_isLatin1_aae02_13 : decode cJ0_isLatin1_aae02 13 = .ok (.iconst 1, 1) := by decide +kernel
theorem dJ0_isLatin1_aae02_14 : decode cJ0_isLatin1_aae02 14 = .ok (.goto 4, 3) := by decide +kernel
theorem dJ0_isLatin1_aae02_17 : decode cJ0_isLatin1_aae02 17 = .ok (.iconst 0, 1) := by decide +kernel
theorem dJ0_isLatin1_aae02_18 : decode cJ0_isLatin1_aae02 18 = .ok (.ireturn, 1) := by decide +kernel
theorem dJ0_checkIndex_df160_0 : decode cJ0_checkIndex_df160 0 = .ok (.iload_n 0, 1) := by decide +kernel
theorem dJ0_checkIndex_df160_1 : decode cJ0_checkIndex_df160 1 = .ok (.iload_n 1, 1) := by decide +kernel
theorem dJ0_checkIndex_df160_2 : decode cJ0_checkIndex_df160 2 = .ok (.getstatic 1053, 3) := by decide +kernel
theorem dJ0_checkIndex_df160_5 : decode cJ0_checkIndex_df160 5 = .ok (.invokestatic 1059, 3) := by decide +kernel
theorem dJ0_checkIndex_df160_8 : decode cJ0_checkIndex_df160 8 = .ok (.pop, 1) := by decide +kernel
theorem dJ0_checkIndex_df160_9 : decode cJ0_checkIndex_df160 9 = .ok (.return_, 1) := by decide +kernel
theorem dJ1_charAt_3b067_0 : decode cJ1_charAt_3b067 0 = .ok (.iload_n 1, 1) := by decide +kernel
theorem dJ1_charAt_3b067_1 : decode cJ1_charAt_3b067 1 = .ok (.aload_n 0, 1) := by decide +kernel
theorem dJ1_charAt_3b067_2 : decode cJ1_charAt_3b067 2 = .ok (.arraylength, 1) := by decide +kernel
theorem dJ1_charAt_3b067_3 : decode cJ1_charAt_3b067 3 = .ok (.invokestatic 9, 3) := by decide +kernel
theorem dJ1_charAt_3b067_6 : decode cJ1_charAt_3b067 6 = .ok (.aload_n 0, 1) := by decide +kernel
theorem dJ1_charAt_3b067_7 : decode cJ1_charAt_3b067 7 = .ok (.iload_n 1, 1) := by decide +kernel
theorem dJ1_charAt_3b067_8 : decode cJ1_charAt_3b067 8 = .ok (.baload, 1) := by decide +kernel
theorem dJ1_charAt_3b067_9 : decode cJ1_charAt_3b067 9 = .ok (.sipush 255, 3) := by decide +kernel
theorem dJ1_charAt_3b067_12 : decode cJ1_charAt_3b067 12 = .ok (.iand, 1) := by decide +kernel
theorem dJ1_charAt_3b067_13 : decode cJ1_charAt_3b067 13 = .ok (.i2c, 1) := by decide +kernel
theorem dJ1_charAt_3b067_14 : decode cJ1_charAt_3b067 14 = .ok (.ireturn, 1) := by decide +kernel
theorem dJ2_getChar_3b067_0 : decode cJ2_getChar_3b067 0 = .ok (.getstatic 44, 3) := by decide +kernel
theorem dJ2_getChar_3b067_3 : decode cJ2_getChar_3b067 3 = .ok (.ifCond .ne 25, 3) := by decide +kernel
theorem dJ2_getChar_3b067_6 : decode cJ2_getChar_3b067 6 = .ok (.iload_n 1, 1) := by decide +kernel
theorem dJ2_getChar_3b067_7 : decode cJ2_getChar_3b067 7 = .ok (.ifCond .lt 11, 3) := by decide +kernel
theorem dJ2_getChar_3b067_10 : decode cJ2_getChar_3b067 10 = .ok (.iload_n 1, 1) := by decide +kernel
theorem dJ2_getChar_3b067_11 : decode cJ2_getChar_3b067 11 = .ok (.aload_n 0, 1) := by decide +kernel
theorem dJ2_getChar_3b067_12 : decode cJ2_getChar_3b067 12 = .ok (.invokestatic 48, 3) := by decide +kernel
theorem dJ2_getChar_3b067_15 : decode cJ2_getChar_3b067 15 = .ok (.if_icmp .lt 13, 3) := by decide +kernel
theorem dJ2_getChar_3b067_18 : decode cJ2_getChar_3b067 18 = .ok (.new 52, 3) := by decide +kernel
theorem dJ2_getChar_3b067_21 : decode cJ2_getChar_3b067 21 = .ok (.dup, 1) := by decide +kernel
theorem dJ2_getChar_3b067_22 : decode cJ2_getChar_3b067 22 = .ok (.ldc 54, 2) := by decide +kernel
theorem dJ2_getChar_3b067_24 : decode cJ2_getChar_3b067 24 = .ok (.invokespecial 56, 3) := by decide +kernel
theorem dJ2_getChar_3b067_27 : decode cJ2_getChar_3b067 27 = .ok (.athrow, 1) := by decide +kernel
theorem dJ2_getChar_3b067_28 : decode cJ2_getChar_3b067 28 = .ok (.iload_n 1, 1) := by decide +kernel
theorem dJ2_getChar_3b067_29 : decode cJ2_getChar_3b067 29 = .ok (.iconst 1, 1) := by decide +kernel
theorem dJ2_getChar_3b067_30 : decode cJ2_getChar_3b067 30 = .ok (.ishl, 1) := by decide +kernel
theorem dJ2_getChar_3b067_31 : decode cJ2_getChar_3b067 31 = .ok (.istore_n 1, 1) := by decide +kernel
theorem dJ2_getChar_3b067_32 : decode cJ2_getChar_3b067 32 = .ok (.aload_n 0, 1) := by decide +kernel
theorem dJ2_getChar_3b067_33 : decode cJ2_getChar_3b067 33 = .ok (.iload_n 1, 1) := by decide +kernel
theorem dJ2_getChar_3b067_34 : decode cJ2_getChar_3b067 34 = .ok (.iinc 1 1, 3) := by decide +kernel
theorem dJ2_getChar_3b067_37 : decode cJ2_getChar_3b067 37 = .ok (.baload, 1) := by decide +kernel
theorem dJ2_getChar_3b067_38 : decode cJ2_getChar_3b067 38 = .ok (.sipush 255, 3) := by decide +kernel
theorem dJ2_getChar_3b067_41 : decode cJ2_getChar_3b067 41 = .ok (.iand, 1) := by decide +kernel
theorem dJ2_getChar_3b067_42 : decode cJ2_getChar_3b067 42 = .ok (.getstatic 59, 3) := by decide +kernel
theorem dJ2_getChar_3b067_45 : decode cJ2_getChar_3b067 45 = .ok (.ishl, 1) := by decide +kernel
theorem dJ2_getChar_3b067_46 : decode cJ2_getChar_3b067 46 = .ok (.aload_n 0, 1) := by decide +kernel
theorem dJ2_getChar_3b067_47 : decode cJ2_getChar_3b067 47 = .ok (.iload_n 1, 1) := by decide +kernel
theorem dJ2_getChar_3b067_48 : decode cJ2_getChar_3b067 48 = .ok (.baload, 1) := by decide +kernel
theorem dJ2_getChar_3b067_49 : decode cJ2_getChar_3b067 49 = .ok (.sipush 255, 3) := by decide +kernel
theorem dJ2_getChar_3b067_52 : decode cJ2_getChar_3b067 52 = .ok (.iand, 1) := by decide +kernel
theorem dJ2_getChar_3b067_53 : decode cJ2_getChar_3b067 53 = .ok (.getstatic 63, 3) := by decide +kernel
theorem dJ2_getChar_3b067_56 : decode cJ2_getChar_3b067 56 = .ok (.ishl, 1) := by decide +kernel
theorem dJ2_getChar_3b067_57 : decode cJ2_getChar_3b067 57 = .ok (.ior, 1) := by decide +kernel
theorem dJ2_getChar_3b067_58 : decode cJ2_getChar_3b067 58 = .ok (.i2c, 1) := by decide +kernel
theorem dJ2_getChar_3b067_59 : decode cJ2_getChar_3b067 59 = .ok (.ireturn, 1) := by decide +kernel
theorem dJ2_length_9d52b_0 : decode cJ2_length_9d52b 0 = .ok (.aload_n 0, 1) := by decide +kernel
theorem dJ2_length_9d52b_1 : decode cJ2_length_9d52b 1 = .ok (.arraylength, 1) := by decide +kernel
theorem dJ2_length_9d52b_2 : decode cJ2_length_9d52b 2 = .ok (.iconst 1, 1) := by decide +kernel
theorem dJ2_length_9d52b_3 : decode cJ2_length_9d52b 3 = .ok (.ishr, 1) := by decide +kernel
theorem dJ2_length_9d52b_4 : decode cJ2_length_9d52b 4 = .ok (.ireturn, 1) := by decide +kernel
theorem dJ2_charAt_3b067_0 : decode cJ2_charAt_3b067 0 = .ok (.iload_n 1, 1) := by decide +kernel
theorem dJ2_charAt_3b067_1 : decode cJ2_charAt_3b067 1 = .ok (.aload_n 0, 1) := by decide +kernel
theorem dJ2_charAt_3b067_2 : decode cJ2_charAt_3b067 2 = .ok (.invokestatic 67, 3) := by decide +kernel
theorem dJ2_charAt_3b067_5 : decode cJ2_charAt_3b067 5 = .ok (.aload_n 0, 1) := by decide +kernel
theorem dJ2_charAt_3b067_6 : decode cJ2_charAt_3b067 6 = .ok (.iload_n 1, 1) := by decide +kernel
theorem dJ2_charAt_3b067_7 : decode cJ2_charAt_3b067 7 = .ok (.invokestatic 71, 3) := by decide +kernel
theorem dJ2_charAt_3b067_10 : decode cJ2_charAt_3b067 10 = .ok (.ireturn, 1) := by decide +kernel
theorem dJ2_checkIndex_2214a_0 : decode cJ2_checkIndex_2214a 0 = .ok (.iload_n 0, 1) := by decide +kernel
theorem dJ2_checkIndex_2214a_1 : decode cJ2_checkIndex_2214a 1 = .ok (.aload_n 1, 1) := by decide +kernel
theorem dJ2_checkIndex_2214a_2 : decode cJ2_checkIndex_2214a 2 = .ok (.invokestatic 48, 3) := by decide +kernel
theorem dJ2_checkIndex_2214a_5 : decode cJ2_checkIndex_2214a 5 = .ok (.invokestatic 414, 3) := by decide +kernel
theorem dJ2_checkIndex_2214a_8 : decode cJ2_checkIndex_2214a 8 = .ok (.return_, 1) := by decide +kernel
theorem dJ7_fill_53178_0 : decode cJ7_fill_53178 0 = .ok (.iconst 0, 1) := by decide +kernel
theorem dJ7_fill_53178_1 : decode cJ7_fill_53178 1 = .ok (.istore_n 2, 1) := by decide +kernel
theorem dJ7_fill_53178_2 : decode cJ7_fill_53178 2 = .ok (.aload_n 0, 1) := by decide +kernel
theorem dJ7_fill_53178_3 : decode cJ7_fill_53178 3 = .ok (.arraylength, 1) := by decide +kernel
theorem dJ7_fill_53178_4 : decode cJ7_fill_53178 4 = .ok (.istore_n 3, 1) := by decide +kernel
theorem dJ7_fill_53178_5 : decode cJ7_fill_53178 5 = .ok (.iload_n 2, 1) := by decide +kernel
theorem dJ7_fill_53178_6 : decode cJ7_fill_53178 6 = .ok (.iload_n 3, 1) := by decide +kernel
theorem dJ7_fill_53178_7 : decode cJ7_fill_53178 7 = .ok (.if_icmp .ge 13, 3) := by decide +kernel
theorem dJ7_fill_53178_10 : decode cJ7_fill_53178 10 = .ok (.aload_n 0, 1) := by decide +kernel
theorem dJ7_fill_53178_11 : decode cJ7_fill_53178 11 = .ok (.iload_n 2, 1) := by decide +kernel
theorem dJ7_fill_53178_12 : decode cJ7_fill_53178 12 = .ok (.iload_n 1, 1) := by decide +kernel
theorem dJ7_fill_53178_13 : decode cJ7_fill_53178 13 = .ok (.iastore, 1) := by decide +kernel
theorem dJ7_fill_53178_14 : decode cJ7_fill_53178 14 = .ok (.iinc 2 1, 3) := by decide +kernel
theorem dJ7_fill_53178_17 : decode cJ7_fill_53178 17 = .ok (.goto (-12), 3) := by decide +kernel
theorem dJ7_fill_53178_20 : decode cJ7_fill_53178 20 = .ok (.return_, 1) := by decide +kernel
theorem dJ3_checkIndex_8e157_0 : decode cJ3_checkIndex_8e157 0 = .ok (.iload_n 0, 1) := by decide +kernel
theorem dJ3_checkIndex_8e157_1 : decode cJ3_checkIndex_8e157 1 = .ok (.ifCond .lt 8, 3) := by decide +kernel
theorem dJ3_checkIndex_8e157_4 : decode cJ3_checkIndex_8e157 4 = .ok (.iload_n 0, 1) := by decide +kernel
theorem dJ3_checkIndex_8e157_5 : decode cJ3_checkIndex_8e157 5 = .ok (.iload_n 1, 1) := by decide +kernel
theorem dJ3_checkIndex_8e157_6 : decode cJ3_checkIndex_8e157 6 = .ok (.if_icmp .lt 10, 3) := by decide +kernel
theorem dJ3_checkIndex_8e157_9 : decode cJ3_checkIndex_8e157 9 = .ok (.aload_n 2, 1) := by decide +kernel
theorem dJ3_checkIndex_8e157_10 : decode cJ3_checkIndex_8e157 10 = .ok (.iload_n 0, 1) := by decide +kernel
theorem dJ3_checkIndex_8e157_11 : decode cJ3_checkIndex_8e157 11 = .ok (.iload_n 1, 1) := by decide +kernel
theorem dJ3_checkIndex_8e157_12 : decode cJ3_checkIndex_8e157 12 = .ok (.invokestatic 95, 3) := by decide +kernel
theorem dJ3_checkIndex_8e157_15 : decode cJ3_checkIndex_8e157 15 = .ok (.athrow, 1) := by decide +kernel
theorem dJ3_checkIndex_8e157_16 : decode cJ3_checkIndex_8e157 16 = .ok (.iload_n 0, 1) := by decide +kernel
theorem dJ3_checkIndex_8e157_17 : decode cJ3_checkIndex_8e157 17 = .ok (.ireturn, 1) := by decide +kernel
theorem dL_law_0 : decode cL_law 0 = .ok (.new 7, 3) := by decide +kernel
theorem dL_law_3 : decode cL_law 3 = .ok (.dup, 1) := by decide +kernel
theorem dL_law_4 : decode cL_law 4 = .ok (.invokespecial 9, 3) := by decide +kernel
theorem dL_law_7 : decode cL_law 7 = .ok (.astore_n 1, 1) := by decide +kernel
theorem dL_law_8 : decode cL_law 8 = .ok (.new 10, 3) := by decide +kernel
theorem dL_law_11 : decode cL_law 11 = .ok (.dup, 1) := by decide +kernel
theorem dL_law_12 : decode cL_law 12 = .ok (.invokespecial 12, 3) := by decide +kernel
theorem dL_law_15 : decode cL_law 15 = .ok (.astore_n 2, 1) := by decide +kernel
theorem dL_law_16 : decode cL_law 16 = .ok (.iconst 0, 1) := by decide +kernel
theorem dL_law_17 : decode cL_law 17 = .ok (.istore_n 3, 1) := by decide +kernel
theorem dL_law_18 : decode cL_law 18 = .ok (.iload_n 3, 1) := by decide +kernel
theorem dL_law_19 : decode cL_law 19 = .ok (.aload_n 0, 1) := by decide +kernel
theorem dL_law_20 : decode cL_law 20 = .ok (.arraylength, 1) := by decide +kernel
theorem dL_law_21 : decode cL_law 21 = .ok (.bipush 6, 2) := by decide +kernel
theorem dL_law_23 : decode cL_law 23 = .ok (.isub, 1) := by decide +kernel
theorem dL_law_24 : decode cL_law 24 = .ok (.if_icmp .gt 913, 3) := by decide +kernel
theorem dL_law_27 : decode cL_law 27 = .ok (.aload_n 0, 1) := by decide +kernel
theorem dL_law_28 : decode cL_law 28 = .ok (.iload_n 3, 1) := by decide +kernel
theorem dL_law_29 : decode cL_law 29 = .ok (.iaload, 1) := by decide +kernel
theorem dL_law_30 : decode cL_law 30 = .ok (.bipush 31, 2) := by decide +kernel
theorem dL_law_32 : decode cL_law 32 = .ok (.iand, 1) := by decide +kernel
theorem dL_law_33 : decode cL_law 33 = .ok (.tableswitch 898 0 25 #[119, 162, 195, 218, 241, 264, 287, 320, 353, 366, 429, 442, 455, 468, 491, 524, 557, 590, 623, 656, 719, 752, 775, 788, 821, 875], 119) := by decide +kernel
theorem dL_law_152 : decode cL_law 152 = .ok (.aload_n 1, 1) := by decide +kernel
theorem dL_law_153 : decode cL_law 153 = .ok (.aload_n 0, 1) := by decide +kernel
theorem dL_law_154 : decode cL_law 154 = .ok (.iload_n 3, 1) := by decide +kernel
theorem dL_law_155 : decode cL_law 155 = .ok (.iconst 1, 1) := by decide +kernel
theorem dL_law_156 : decode cL_law 156 = .ok (.iadd, 1) := by decide +kernel
theorem dL_law_157 : decode cL_law 157 = .ok (.iaload, 1) := by decide +kernel
theorem dL_law_158 : decode cL_law 158 = .ok (.aload_n 0, 1) := by decide +kernel
theorem dL_law_159 : decode cL_law 159 = .ok (.iload_n 3, 1) := by decide +kernel
theorem dL_law_160 : decode cL_law 160 = .ok (.iconst 2, 1) := by decide +kernel
theorem dL_law_161 : decode cL_law 161 = .ok (.iadd, 1) := by decide +kernel
theorem dL_law_162 : decode cL_law 162 = .ok (.iaload, 1) := by decide +kernel
theorem dL_law_163 : decode cL_law 163 = .ok (.aload_n 0, 1) := by decide +kernel
theorem dL_law_164 : decode cL_law 164 = .ok (.iload_n 3, 1) := by decide +kernel
theorem dL_law_165 : decode cL_law 165 = .ok (.iconst 3, 1) := by decide +kernel
theorem dL_law_166 : decode cL_law 166 = .ok (.iadd, 1) := by decide +kernel
theorem dL_law_167 : decode cL_law 167 = .ok (.iaload, 1) := by decide +kernel
theorem dL_law_168 : decode cL_law 168 = .ok (.invokevirtual 13, 3) := by decide +kernel
theorem dL_law_171 : decode cL_law 171 = .ok (.aload_n 2, 1) := by decide +kernel
theorem dL_law_172 : decode cL_law 172 = .ok (.aload_n 0, 1) := by decide +kernel
theorem dL_law_173 : decode cL_law 173 = .ok (.iload_n 3, 1) := by decide +kernel
theorem dL_law_174 : decode cL_law 174 = .ok (.iconst 1, 1) := by decide +kernel
theorem dL_law_175 : decode cL_law 175 = .ok (.iadd, 1) := by decide +kernel
theorem dL_law_176 : decode cL_law 176 = .ok (.iaload, 1) := by decide +kernel
theorem dL_law_177 : decode cL_law 177 = .ok (.aload_n 0, 1) := by decide +kernel
theorem dL_law_178 : decode cL_law 178 = .ok (.iload_n 3, 1) := by decide +kernel
theorem dL_law_179 : decode cL_law 179 = .ok (.iconst 2, 1) := by decide +kernel
theorem dL_law_180 : decode cL_law 180 = .ok (.iadd, 1) := by decide +kernel
theorem dL_law_181 : decode cL_law 181 = .ok (.iaload, 1) := by decide +kernel
theorem dL_law_182 : decode cL_law 182 = .ok (.aload_n 0, 1) := by decide +kernel
theorem dL_law_183 : decode cL_law 183 = .ok (.iload_n 3, 1) := by decide +kernel
theorem dL_law_184 : decode cL_law 184 = .ok (.iconst 3, 1) := by decide +kernel
theorem dL_law_185 : decode cL_law 185 = .ok (.iadd, 1) := by decide +kernel
theorem dL_law_186 : decode cL_law 186 = .ok (.iaload, 1) := by decide +kernel
theorem dL_law_187 : decode cL_law 187 = .ok (.invokevirtual 17, 3) := by decide +kernel
theorem dL_law_190 : decode cL_law 190 = .ok (.if_icmp .eq 741, 3) := by decide +kernel
theorem dL_law_193 : decode cL_law 193 = .ok (.iconst 0, 1) := by decide +kernel
theorem dL_law_194 : decode cL_law 194 = .ok (.ireturn, 1) := by decide +kernel
theorem dL_law_195 : decode cL_law 195 = .ok (.aload_n 1, 1) := by decide +kernel
theorem dL_law_196 : decode cL_law 196 = .ok (.aload_n 0, 1) := by decide +kernel
theorem dL_law_197 : decode cL_law 197 = .ok (.iload_n 3, 1) := by decide +kernel
theorem dL_law_198 : decode cL_law 198 = .ok (.iconst 1, 1) := by decide +kernel
theorem dL_law_199 : decode cL_law 199 = .ok (.iadd, 1) := by decide +kernel
theorem dL_law_200 : decode cL_law 200 = .ok (.iaload, 1) := by decide +kernel
theorem dL_law_201 : decode cL_law 201 = .ok (.aload_n 0, 1) := by decide +kernel
theorem dL_law_202 : decode cL_law 202 = .ok (.iload_n 3, 1) := by decide +kernel
theorem dL_law_203 : decode cL_law 203 = .ok (.iconst 2, 1) := by decide +kernel
theorem dL_law_204 : decode cL_law 204 = .ok (.iadd, 1) := by decide +kernel
theorem dL_law_205 : decode cL_law 205 = .ok (.iaload, 1) := by decide +kernel
theorem dL_law_206 : decode cL_law 206 = .ok (.invokevirtual 18, 3) := by decide +kernel
theorem dL_law_209 : decode cL_law 209 = .ok (.aload_n 2, 1) := by decide +kernel
theorem dL_law_210 : decode cL_law 210 = .ok (.aload_n 0, 1) := by decide +kernel
theorem dL_law_211 : decode cL_law 211 = .ok (.iload_n 3, 1) := by decide +kernel
theorem dL_law_212 : decode cL_law 212 = .ok (.iconst 1, 1) := by decide +kernel
theorem dL_law_213 : decode cL_law 213 = .ok (.iadd, 1) := by decide +kernel
theorem dL_law_214 : decode cL_law 214 = .ok (.iaload, 1) := by decide +kernel
theorem dL_law_215 : decode cL_law 215 = .ok (.aload_n 0, 1) := by decide +kernel
theorem dL_law_216 : decode cL_law 216 = .ok (.iload_n 3, 1) := by decide +kernel
theorem dL_law_217 : decode cL_law 217 = .ok (.iconst 2, 1) := by decide +kernel
theorem dL_law_218 : decode cL_law 218 = .ok (.iadd, 1) := by decide +kernel
theorem dL_law_219 : decode cL_law 219 = .ok (.iaload, 1) := by decide +kernel
theorem dL_law_220 : decode cL_law 220 = .ok (.invokevirtual 22, 3) := by decide +kernel
theorem dL_law_223 : decode cL_law 223 = .ok (.if_icmp .eq 708, 3) := by decide +kernel
theorem dL_law_226 : decode cL_law 226 = .ok (.iconst 0, 1) := by decide +kernel
theorem dL_law_227 : decode cL_law 227 = .ok (.ireturn, 1) := by decide +kernel
theorem dL_law_228 : decode cL_law 228 = .ok (.aload_n 1, 1) := by decide +kernel
theorem dL_law_229 : decode cL_law 229 = .ok (.aload_n 0, 1) := by decide +kernel
theorem dL_law_230 : decode cL_law 230 = .ok (.iload_n 3, 1) := by decide +kernel
theorem dL_law_231 : decode cL_law 231 = .ok (.iconst 1, 1) := by decide +kernel
theorem dL_law_232 : decode cL_law 232 = .ok (.iadd, 1) := by decide +kernel
theorem dL_law_233 : decode cL_law 233 = .ok (.iaload, 1) := by decide +kernel
theorem dL_law_234 : decode cL_law 234 = .ok (.invokevirtual 23, 3) := by decide +kernel
theorem dL_law_237 : decode cL_law 237 = .ok (.aload_n 2, 1) := by decide +kernel
theorem dL_law_238 : decode cL_law 238 = .ok (.aload_n 0, 1) := by decide +kernel
theorem dL_law_239 : decode cL_law 239 = .ok (.iload_n 3, 1) := by decide +kernel
theorem dL_law_240 : decode cL_law 240 = .ok (.iconst 1, 1) := by decide +kernel
theorem dL_law_241 : decode cL_law 241 = .ok (.iadd, 1) := by decide +kernel
theorem dL_law_242 : decode cL_law 242 = .ok (.iaload, 1) := by decide +kernel
theorem dL_law_243 : decode cL_law 243 = .ok (.invokevirtual 27, 3) := by decide +kernel
theorem dL_law_246 : decode cL_law 246 = .ok (.if_icmp .eq 685, 3) := by decide +kernel
theorem dL_law_249 : decode cL_law 249 = .ok (.iconst 0, 1) := by decide +kernel
theorem dL_law_250 : decode cL_law 250 = .ok (.ireturn, 1) := by decide +kernel
theorem dL_law_251 : decode cL_law 251 = .ok (.aload_n 1, 1) := by decide +kernel
theorem dL_law_252 : decode cL_law 252 = .ok (.aload_n 0, 1) := by decide +kernel
theorem dL_law_253 : decode cL_law 253 = .ok (.iload_n 3, 1) := by decide +kernel
theorem dL_law_254 : decode cL_law 254 = .ok (.iconst 1, 1) := by decide +kernel
theorem dL_law_255 : decode cL_law 255 = .ok (.iadd, 1) := by decide +kernel
theorem dL_law_256 : decode cL_law 256 = .ok (.iaload, 1) := by decide +kernel
theorem dL_law_257 : decode cL_law 257 = .ok (.invokevirtual 28, 3) := by decide +kernel
theorem dL_law_260 : decode cL_law 260 = .ok (.aload_n 2, 1) := by decide +kernel
theorem dL_law_261 : decode cL_law 261 = .ok (.aload_n 0, 1) := by decide +kernel
theorem dL_law_262 : decode cL_law 262 = .ok (.iload_n 3, 1) := by decide +kernel
theorem dL_law_263 : decode cL_law 263 = .ok (.iconst 1, 1) := by decide +kernel
theorem dL_law_264 : decode cL_law 264 = .ok (.iadd, 1) := by decide +kernel
theorem dL_law_265 : decode cL_law 265 = .ok (.iaload, 1) := by decide +kernel
theorem dL_law_266 : decode cL_law 266 = .ok (.invokevirtual 31, 3) := by decide +kernel
theorem dL_law_269 : decode cL_law 269 = .ok (.if_icmp .eq 662, 3) := by decide +kernel
theorem dL_law_272 : decode cL_law 272 = .ok (.iconst 0, 1) := by decide +kernel
theorem dL_law_273 : decode cL_law 273 = .ok (.ireturn, 1) := by decide +kernel
theorem dL_law_274 : decode cL_law 274 = .ok (.aload_n 1, 1) := by decide +kernel
theorem dL_law_275 : decode cL_law 275 = .ok (.aload_n 0, 1) := by decide +kernel
theorem dL_law_276 : decode cL_law 276 = .ok (.iload_n 3, 1) := by decide +kernel
theorem dL_law_277 : decode cL_law 277 = .ok (.iconst 1, 1) := by decide +kernel
theorem dL_law_278 : decode cL_law 278 = .ok (.iadd, 1) := by decide +kernel
theorem dL_law_279 : decode cL_law 279 = .ok (.iaload, 1) := by decide +kernel
theorem dL_law_280 : decode cL_law 280 = .ok (.invokevirtual 32, 3) := by decide +kernel
theorem dL_law_283 : decode cL_law 283 = .ok (.aload_n 2, 1) := by decide +kernel
theorem dL_law_284 : decode cL_law 284 = .ok (.aload_n 0, 1) := by decide +kernel
theorem dL_law_285 : decode cL_law 285 = .ok (.iload_n 3, 1) := by decide +kernel
theorem dL_law_286 : decode cL_law 286 = .ok (.iconst 1, 1) := by decide +kernel
theorem dL_law_287 : decode cL_law 287 = .ok (.iadd, 1) := by decide +kernel
theorem dL_law_288 : decode cL_law 288 = .ok (.iaload, 1) := by decide +kernel
theorem dL_law_289 : decode cL_law 289 = .ok (.invokevirtual 35, 3) := by decide +kernel
theorem dL_law_292 : decode cL_law 292 = .ok (.if_icmp .eq 639, 3) := by decide +kernel
theorem dL_law_295 : decode cL_law 295 = .ok (.iconst 0, 1) := by decide +kernel
theorem dL_law_296 : decode cL_law 296 = .ok (.ireturn, 1) := by decide +kernel
theorem dL_law_297 : decode cL_law 297 = .ok (.aload_n 1, 1) := by decide +kernel
theorem dL_law_298 : decode cL_law 298 = .ok (.aload_n 0, 1) := by decide +kernel
theorem dL_law_299 : decode cL_law 299 = .ok (.iload_n 3, 1) := by decide +kernel
theorem dL_law_300 : decode cL_law 300 = .ok (.iconst 1, 1) := by decide +kernel
theorem dL_law_301 : decode cL_law 301 = .ok (.iadd, 1) := by decide +kernel
theorem dL_law_302 : decode cL_law 302 = .ok (.iaload, 1) := by decide +kernel
theorem dL_law_303 : decode cL_law 303 = .ok (.invokevirtual 36, 3) := by decide +kernel
theorem dL_law_306 : decode cL_law 306 = .ok (.aload_n 2, 1) := by decide +kernel
theorem dL_law_307 : decode cL_law 307 = .ok (.aload_n 0, 1) := by decide +kernel
theorem dL_law_308 : decode cL_law 308 = .ok (.iload_n 3, 1) := by decide +kernel
theorem dL_law_309 : decode cL_law 309 = .ok (.iconst 1, 1) := by decide +kernel
theorem dL_law_310 : decode cL_law 310 = .ok (.iadd, 1) := by decide +kernel
theorem dL_law_311 : decode cL_law 311 = .ok (.iaload, 1) := by decide +kernel
theorem dL_law_312 : decode cL_law 312 = .ok (.invokevirtual 39, 3) := by decide +kernel
theorem dL_law_315 : decode cL_law 315 = .ok (.if_icmp .eq 616, 3) := by decide +kernel
theorem dL_law_318 : decode cL_law 318 = .ok (.iconst 0, 1) := by decide +kernel
theorem dL_law_319 : decode cL_law 319 = .ok (.ireturn, 1) := by decide +kernel
theorem dL_law_320 : decode cL_law 320 = .ok (.aload_n 1, 1) := by decide +kernel
theorem dL_law_321 : decode cL_law 321 = .ok (.aload_n 0, 1) := by decide +kernel
theorem dL_law_322 : decode cL_law 322 = .ok (.iload_n 3, 1) := by decide +kernel
theorem dL_law_323 : decode cL_law 323 = .ok (.iconst 1, 1) := by decide +kernel
theorem dL_law_324 : decode cL_law 324 = .ok (.iadd, 1) := by decide +kernel
theorem dL_law_325 : decode cL_law 325 = .ok (.iaload, 1) := by decide +kernel
theorem dL_law_326 : decode cL_law 326 = .ok (.aload_n 0, 1) := by decide +kernel
theorem dL_law_327 : decode cL_law 327 = .ok (.iload_n 3, 1) := by decide +kernel
theorem dL_law_328 : decode cL_law 328 = .ok (.iconst 2, 1) := by decide +kernel
theorem dL_law_329 : decode cL_law 329 = .ok (.iadd, 1) := by decide +kernel
theorem dL_law_330 : decode cL_law 330 = .ok (.iaload, 1) := by decide +kernel
theorem dL_law_331 : decode cL_law 331 = .ok (.invokevirtual 40, 3) := by decide +kernel
theorem dL_law_334 : decode cL_law 334 = .ok (.aload_n 2, 1) := by decide +kernel
theorem dL_law_335 : decode cL_law 335 = .ok (.aload_n 0, 1) := by decide +kernel
theorem dL_law_336 : decode cL_law 336 = .ok (.iload_n 3, 1) := by decide +kernel
theorem dL_law_337 : decode cL_law 337 = .ok (.iconst 1, 1) := by decide +kernel
theorem dL_law_338 : decode cL_law 338 = .ok (.iadd, 1) := by decide +kernel
theorem dL_law_339 : decode cL_law 339 = .ok (.iaload, 1) := by decide +kernel
theorem dL_law_340 : decode cL_law 340 = .ok (.aload_n 0, 1) := by decide +kernel
theorem dL_law_341 : decode cL_law 341 = .ok (.iload_n 3, 1) := by decide +kernel
theorem dL_law_342 : decode cL_law 342 = .ok (.iconst 2, 1) := by decide +kernel
theorem dL_law_343 : decode cL_law 343 = .ok (.iadd, 1) := by decide +kernel
theorem dL_law_344 : decode cL_law 344 = .ok (.iaload, 1) := by decide +kernel
theorem dL_law_345 : decode cL_law 345 = .ok (.invokevirtual 43, 3) := by decide +kernel
theorem dL_law_348 : decode cL_law 348 = .ok (.if_icmp .eq 583, 3) := by decide +kernel
theorem dL_law_351 : decode cL_law 351 = .ok (.iconst 0, 1) := by decide +kernel
theorem dL_law_352 : decode cL_law 352 = .ok (.ireturn, 1) := by decide +kernel
theorem dL_law_353 : decode cL_law 353 = .ok (.aload_n 1, 1) := by decide +kernel
theorem dL_law_354 : decode cL_law 354 = .ok (.aload_n 0, 1) := by decide +kernel
theorem dL_law_355 : decode cL_law 355 = .ok (.iload_n 3, 1) := by decide +kernel
theorem dL_law_356 : decode cL_law 356 = .ok (.iconst 1, 1) := by decide +kernel
theorem dL_law_357 : decode cL_law 357 = .ok (.iadd, 1) := by decide +kernel
theorem dL_law_358 : decode cL_law 358 = .ok (.iaload, 1) := by decide +kernel
theorem dL_law_359 : decode cL_law 359 = .ok (.aload_n 0, 1) := by decide +kernel
theorem dL_law_360 : decode cL_law 360 = .ok (.iload_n 3, 1) := by decide +kernel
theorem dL_law_361 : decode cL_law 361 = .ok (.iconst 2, 1) := by decide +kernel
theorem dL_law_362 : decode cL_law 362 = .ok (.iadd, 1) := by decide +kernel
theorem dL_law_363 : decode cL_law 363 = .ok (.iaload, 1) := by decide +kernel
theorem dL_law_364 : decode cL_law 364 = .ok (.invokevirtual 44, 3) := by decide +kernel
theorem dL_law_367 : decode cL_law 367 = .ok (.aload_n 2, 1) := by decide +kernel
theorem dL_law_368 : decode cL_law 368 = .ok (.aload_n 0, 1) := by decide +kernel
theorem dL_law_369 : decode cL_law 369 = .ok (.iload_n 3, 1) := by decide +kernel
theorem dL_law_370 : decode cL_law 370 = .ok (.iconst 1, 1) := by decide +kernel
theorem dL_law_371 : decode cL_law 371 = .ok (.iadd, 1) := by decide +kernel
theorem dL_law_372 : decode cL_law 372 = .ok (.iaload, 1) := by decide +kernel
theorem dL_law_373 : decode cL_law 373 = .ok (.aload_n 0, 1) := by decide +kernel
theorem dL_law_374 : decode cL_law 374 = .ok (.iload_n 3, 1) := by decide +kernel
theorem dL_law_375 : decode cL_law 375 = .ok (.iconst 2, 1) := by decide +kernel
theorem dL_law_376 : decode cL_law 376 = .ok (.iadd, 1) := by decide +kernel
theorem dL_law_377 : decode cL_law 377 = .ok (.iaload, 1) := by decide +kernel
theorem dL_law_378 : decode cL_law 378 = .ok (.invokevirtual 47, 3) := by decide +kernel
theorem dL_law_381 : decode cL_law 381 = .ok (.if_icmp .eq 550, 3) := by decide +kernel
theorem dL_law_384 : decode cL_law 384 = .ok (.iconst 0, 1) := by decide +kernel
theorem dL_law_385 : decode cL_law 385 = .ok (.ireturn, 1) := by decide +kernel
theorem dL_law_386 : decode cL_law 386 = .ok (.aload_n 1, 1) := by decide +kernel
theorem dL_law_387 : decode cL_law 387 = .ok (.invokevirtual 48, 3) := by decide +kernel
theorem dL_law_390 : decode cL_law 390 = .ok (.aload_n 2, 1) := by decide +kernel
theorem dL_law_391 : decode cL_law 391 = .ok (.invokevirtual 52, 3) := by decide +kernel
theorem dL_law_394 : decode cL_law 394 = .ok (.if_icmp .eq 537, 3) := by decide +kernel
theorem dL_law_397 : decode cL_law 397 = .ok (.iconst 0, 1) := by decide +kernel
theorem dL_law_398 : decode cL_law 398 = .ok (.ireturn, 1) := by decide +kernel
theorem dL_law_399 : decode cL_law 399 = .ok (.aload_n 1, 1) := by decide +kernel
theorem dL_law_400 : decode cL_law 400 = .ok (.aload_n 0, 1) := by decide +kernel
theorem dL_law_401 : decode cL_law 401 = .ok (.iload_n 3, 1) := by decide +kernel
theorem dL_law_402 : decode cL_law 402 = .ok (.iconst 1, 1) := by decide +kernel
theorem dL_law_403 : decode cL_law 403 = .ok (.iadd, 1) := by decide +kernel
theorem dL_law_404 : decode cL_law 404 = .ok (.iaload, 1) := by decide +kernel
theorem dL_law_405 : decode cL_law 405 = .ok (.i2l, 1) := by decide +kernel
theorem dL_law_406 : decode cL_law 406 = .ok (.bipush 32, 2) := by decide +kernel
theorem dL_law_408 : decode cL_law 408 = .ok (.lshl, 1) := by decide +kernel
theorem dL_law_409 : decode cL_law 409 = .ok (.aload_n 0, 1) := by decide +kernel
theorem dL_law_410 : decode cL_law 410 = .ok (.iload_n 3, 1) := by decide +kernel
theorem dL_law_411 : decode cL_law 411 = .ok (.iconst 2, 1) := by decide +kernel
theorem dL_law_412 : decode cL_law 412 = .ok (.iadd, 1) := by decide +kernel
theorem dL_law_413 : decode cL_law 413 = .ok (.iaload, 1) := by decide +kernel
theorem dL_law_414 : decode cL_law 414 = .ok (.i2l, 1) := by decide +kernel
theorem dL_law_415 : decode cL_law 415 = .ok (.ldc2_w 53, 3) := by decide +kernel
theorem dL_law_418 : decode cL_law 418 = .ok (.land, 1) := by decide +kernel
theorem dL_law_419 : decode cL_law 419 = .ok (.lor, 1) := by decide +kernel
theorem dL_law_420 : decode cL_law 420 = .ok (.aload_n 0, 1) := by decide +kernel
theorem dL_law_421 : decode cL_law 421 = .ok (.iload_n 3, 1) := by decide +kernel
theorem dL_law_422 : decode cL_law 422 = .ok (.iconst 3, 1) := by decide +kernel
theorem dL_law_423 : decode cL_law 423 = .ok (.iadd, 1) := by decide +kernel
theorem dL_law_424 : decode cL_law 424 = .ok (.iaload, 1) := by decide +kernel
theorem dL_law_425 : decode cL_law 425 = .ok (.invokevirtual 55, 3) := by decide +kernel
theorem dL_law_428 : decode cL_law 428 = .ok (.aload_n 2, 1) := by decide +kernel
theorem dL_law_429 : decode cL_law 429 = .ok (.aload_n 0, 1) := by decide +kernel
theorem dL_law_430 : decode cL_law 430 = .ok (.iload_n 3, 1) := by decide +kernel
theorem dL_law_431 : decode cL_law 431 = .ok (.iconst 1, 1) := by decide +kernel
theorem dL_law_432 : decode cL_law 432 = .ok (.iadd, 1) := by decide +kernel
theorem dL_law_433 : decode cL_law 433 = .ok (.iaload, 1) := by decide +kernel
theorem dL_law_434 : decode cL_law 434 = .ok (.i2l, 1) := by decide +kernel
theorem dL_law_435 : decode cL_law 435 = .ok (.bipush 32, 2) := by decide +kernel
theorem dL_law_437 : decode cL_law 437 = .ok (.lshl, 1) := by decide +kernel
theorem dL_law_438 : decode cL_law 438 = .ok (.aload_n 0, 1) := by decide +kernel
theorem dL_law_439 : decode cL_law 439 = .ok (.iload_n 3, 1) := by decide +kernel
theorem dL_law_440 : decode cL_law 440 = .ok (.iconst 2, 1) := by decide +kernel
theorem dL_law_441 : decode cL_law 441 = .ok (.iadd, 1) := by decide +kernel
theorem dL_law_442 : decode cL_law 442 = .ok (.iaload, 1) := by decide +kernel
theorem dL_law_443 : decode cL_law 443 = .ok (.i2l, 1) := by decide +kernel
theorem dL_law_444 : decode cL_law 444 = .ok (.ldc2_w 53, 3) := by decide +kernel
theorem dL_law_447 : decode cL_law 447 = .ok (.land, 1) := by decide +kernel
theorem dL_law_448 : decode cL_law 448 = .ok (.lor, 1) := by decide +kernel
theorem dL_law_449 : decode cL_law 449 = .ok (.aload_n 0, 1) := by decide +kernel
theorem dL_law_450 : decode cL_law 450 = .ok (.iload_n 3, 1) := by decide +kernel
theorem dL_law_451 : decode cL_law 451 = .ok (.iconst 3, 1) := by decide +kernel
theorem dL_law_452 : decode cL_law 452 = .ok (.iadd, 1) := by decide +kernel
theorem dL_law_453 : decode cL_law 453 = .ok (.iaload, 1) := by decide +kernel
theorem dL_law_454 : decode cL_law 454 = .ok (.invokevirtual 59, 3) := by decide +kernel
theorem dL_law_457 : decode cL_law 457 = .ok (.if_icmp .eq 474, 3) := by decide +kernel
theorem dL_law_460 : decode cL_law 460 = .ok (.iconst 0, 1) := by decide +kernel
theorem dL_law_461 : decode cL_law 461 = .ok (.ireturn, 1) := by decide +kernel
theorem dL_law_462 : decode cL_law 462 = .ok (.aload_n 1, 1) := by decide +kernel
theorem dL_law_463 : decode cL_law 463 = .ok (.invokevirtual 60, 3) := by decide +kernel
theorem dL_law_466 : decode cL_law 466 = .ok (.aload_n 2, 1) := by decide +kernel
theorem dL_law_467 : decode cL_law 467 = .ok (.invokevirtual 63, 3) := by decide +kernel
theorem dL_law_470 : decode cL_law 470 = .ok (.if_icmp .eq 461, 3) := by decide +kernel
theorem dL_law_473 : decode cL_law 473 = .ok (.iconst 0, 1) := by decide +kernel
theorem dL_law_474 : decode cL_law 474 = .ok (.ireturn, 1) := by decide +kernel
theorem dL_law_475 : decode cL_law 475 = .ok (.aload_n 1, 1) := by decide +kernel
theorem dL_law_476 : decode cL_law 476 = .ok (.invokevirtual 64, 3) := by decide +kernel
theorem dL_law_479 : decode cL_law 479 = .ok (.aload_n 2, 1) := by decide +kernel
theorem dL_law_480 : decode cL_law 480 = .ok (.invokevirtual 67, 3) := by decide +kernel
theorem dL_law_483 : decode cL_law 483 = .ok (.if_icmp .eq 448, 3) := by decide +kernel
theorem dL_law_486 : decode cL_law 486 = .ok (.iconst 0, 1) := by decide +kernel
theorem dL_law_487 : decode cL_law 487 = .ok (.ireturn, 1) := by decide +kernel
theorem dL_law_488 : decode cL_law 488 = .ok (.aload_n 1, 1) := by decide +kernel
theorem dL_law_489 : decode cL_law 489 = .ok (.invokevirtual 68, 3) := by decide +kernel
theorem dL_law_492 : decode cL_law 492 = .ok (.aload_n 2, 1) := by decide +kernel
theorem dL_law_493 : decode cL_law 493 = .ok (.invokevirtual 71, 3) := by decide +kernel
theorem dL_law_496 : decode cL_law 496 = .ok (.if_icmp .eq 435, 3) := by decide +kernel
theorem dL_law_499 : decode cL_law 499 = .ok (.iconst 0, 1) := by decide +kernel
theorem dL_law_500 : decode cL_law 500 = .ok (.ireturn, 1) := by decide +kernel
theorem dL_law_501 : decode cL_law 501 = .ok (.aload_n 1, 1) := by decide +kernel
theorem dL_law_502 : decode cL_law 502 = .ok (.aload_n 0, 1) := by decide +kernel
theorem dL_law_503 : decode cL_law 503 = .ok (.iload_n 3, 1) := by decide +kernel
theorem dL_law_504 : decode cL_law 504 = .ok (.iconst 1, 1) := by decide +kernel
theorem dL_law_505 : decode cL_law 505 = .ok (.iadd, 1) := by decide +kernel
theorem dL_law_506 : decode cL_law 506 = .ok (.iaload, 1) := by decide +kernel
theorem dL_law_507 : decode cL_law 507 = .ok (.invokevirtual 72, 3) := by decide +kernel
theorem dL_law_510 : decode cL_law 510 = .ok (.aload_n 2, 1) := by decide +kernel
theorem dL_law_511 : decode cL_law 511 = .ok (.aload_n 0, 1) := by decide +kernel
theorem dL_law_512 : decode cL_law 512 = .ok (.iload_n 3, 1) := by decide +kernel
theorem dL_law_513 : decode cL_law 513 = .ok (.iconst 1, 1) := by decide +kernel
theorem dL_law_514 : decode cL_law 514 = .ok (.iadd, 1) := by decide +kernel
theorem dL_law_515 : decode cL_law 515 = .ok (.iaload, 1) := by decide +kernel
theorem dL_law_516 : decode cL_law 516 = .ok (.invokevirtual 75, 3) := by decide +kernel
theorem dL_law_519 : decode cL_law 519 = .ok (.if_icmp .eq 412, 3) := by decide +kernel
theorem dL_law_522 : decode cL_law 522 = .ok (.iconst 0, 1) := by decide +kernel
theorem dL_law_523 : decode cL_law 523 = .ok (.ireturn, 1) := by decide +kernel
theorem dL_law_524 : decode cL_law 524 = .ok (.aload_n 1, 1) := by decide +kernel
theorem dL_law_525 : decode cL_law 525 = .ok (.aload_n 0, 1) := by decide +kernel
theorem dL_law_526 : decode cL_law 526 = .ok (.iload_n 3, 1) := by decide +kernel
theorem dL_law_527 : decode cL_law 527 = .ok (.iconst 1, 1) := by decide +kernel
theorem dL_law_528 : decode cL_law 528 = .ok (.iadd, 1) := by decide +kernel
theorem dL_law_529 : decode cL_law 529 = .ok (.iaload, 1) := by decide +kernel
theorem dL_law_530 : decode cL_law 530 = .ok (.aload_n 0, 1) := by decide +kernel
theorem dL_law_531 : decode cL_law 531 = .ok (.iload_n 3, 1) := by decide +kernel
theorem dL_law_532 : decode cL_law 532 = .ok (.iconst 2, 1) := by decide +kernel
theorem dL_law_533 : decode cL_law 533 = .ok (.iadd, 1) := by decide +kernel
theorem dL_law_534 : decode cL_law 534 = .ok (.iaload, 1) := by decide +kernel
theorem dL_law_535 : decode cL_law 535 = .ok (.invokevirtual 76, 3) := by decide +kernel
theorem dL_law_538 : decode cL_law 538 = .ok (.aload_n 2, 1) := by decide +kernel
theorem dL_law_539 : decode cL_law 539 = .ok (.aload_n 0, 1) := by decide +kernel
theorem dL_law_540 : decode cL_law 540 = .ok (.iload_n 3, 1) := by decide +kernel
theorem dL_law_541 : decode cL_law 541 = .ok (.iconst 1, 1) := by decide +kernel
theorem dL_law_542 : decode cL_law 542 = .ok (.iadd, 1) := by decide +kernel
theorem dL_law_543 : decode cL_law 543 = .ok (.iaload, 1) := by decide +kernel
theorem dL_law_544 : decode cL_law 544 = .ok (.aload_n 0, 1) := by decide +kernel
theorem dL_law_545 : decode cL_law 545 = .ok (.iload_n 3, 1) := by decide +kernel
theorem dL_law_546 : decode cL_law 546 = .ok (.iconst 2, 1) := by decide +kernel
theorem dL_law_547 : decode cL_law 547 = .ok (.iadd, 1) := by decide +kernel
theorem dL_law_548 : decode cL_law 548 = .ok (.iaload, 1) := by decide +kernel
theorem dL_law_549 : decode cL_law 549 = .ok (.invokevirtual 79, 3) := by decide +kernel
theorem dL_law_552 : decode cL_law 552 = .ok (.if_icmp .eq 379, 3) := by decide +kernel
theorem dL_law_555 : decode cL_law 555 = .ok (.iconst 0, 1) := by decide +kernel
theorem dL_law_556 : decode cL_law 556 = .ok (.ireturn, 1) := by decide +kernel
theorem dL_law_557 : decode cL_law 557 = .ok (.aload_n 1, 1) := by decide +kernel
theorem dL_law_558 : decode cL_law 558 = .ok (.aload_n 0, 1) := by decide +kernel
theorem dL_law_559 : decode cL_law 559 = .ok (.iload_n 3, 1) := by decide +kernel
theorem dL_law_560 : decode cL_law 560 = .ok (.iconst 1, 1) := by decide +kernel
theorem dL_law_561 : decode cL_law 561 = .ok (.iadd, 1) := by decide +kernel
theorem dL_law_562 : decode cL_law 562 = .ok (.iaload, 1) := by decide +kernel
theorem dL_law_563 : decode cL_law 563 = .ok (.aload_n 0, 1) := by decide +kernel
theorem dL_law_564 : decode cL_law 564 = .ok (.iload_n 3, 1) := by decide +kernel
theorem dL_law_565 : decode cL_law 565 = .ok (.iconst 2, 1) := by decide +kernel
theorem dL_law_566 : decode cL_law 566 = .ok (.iadd, 1) := by decide +kernel
theorem dL_law_567 : decode cL_law 567 = .ok (.iaload, 1) := by decide +kernel
theorem dL_law_568 : decode cL_law 568 = .ok (.invokevirtual 80, 3) := by decide +kernel
theorem dL_law_571 : decode cL_law 571 = .ok (.aload_n 2, 1) := by decide +kernel
theorem dL_law_572 : decode cL_law 572 = .ok (.aload_n 0, 1) := by decide +kernel
theorem dL_law_573 : decode cL_law 573 = .ok (.iload_n 3, 1) := by decide +kernel
theorem dL_law_574 : decode cL_law 574 = .ok (.iconst 1, 1) := by decide +kernel
theorem dL_law_575 : decode cL_law 575 = .ok (.iadd, 1) := by decide +kernel
theorem dL_law_576 : decode cL_law 576 = .ok (.iaload, 1) := by decide +kernel
theorem dL_law_577 : decode cL_law 577 = .ok (.aload_n 0, 1) := by decide +kernel
theorem dL_law_578 : decode cL_law 578 = .ok (.iload_n 3, 1) := by decide +kernel
theorem dL_law_579 : decode cL_law 579 = .ok (.iconst 2, 1) := by decide +kernel
theorem dL_law_580 : decode cL_law 580 = .ok (.iadd, 1) := by decide +kernel
theorem dL_law_581 : decode cL_law 581 = .ok (.iaload, 1) := by decide +kernel
theorem dL_law_582 : decode cL_law 582 = .ok (.invokevirtual 83, 3) := by decide +kernel
theorem dL_law_585 : decode cL_law 585 = .ok (.if_icmp .eq 346, 3) := by decide +kernel
theorem dL_law_588 : decode cL_law 588 = .ok (.iconst 0, 1) := by decide +kernel
theorem dL_law_589 : decode cL_law 589 = .ok (.ireturn, 1) := by decide +kernel
theorem dL_law_590 : decode cL_law 590 = .ok (.aload_n 1, 1) := by decide +kernel
theorem dL_law_591 : decode cL_law 591 = .ok (.aload_n 0, 1) := by decide +kernel
theorem dL_law_592 : decode cL_law 592 = .ok (.iload_n 3, 1) := by decide +kernel
theorem dL_law_593 : decode cL_law 593 = .ok (.iconst 1, 1) := by decide +kernel
theorem dL_law_594 : decode cL_law 594 = .ok (.iadd, 1) := by decide +kernel
theorem dL_law_595 : decode cL_law 595 = .ok (.iaload, 1) := by decide +kernel
theorem dL_law_596 : decode cL_law 596 = .ok (.aload_n 0, 1) := by decide +kernel
theorem dL_law_597 : decode cL_law 597 = .ok (.iload_n 3, 1) := by decide +kernel
theorem dL_law_598 : decode cL_law 598 = .ok (.iconst 2, 1) := by decide +kernel
theorem dL_law_599 : decode cL_law 599 = .ok (.iadd, 1) := by decide +kernel
theorem dL_law_600 : decode cL_law 600 = .ok (.iaload, 1) := by decide +kernel
theorem dL_law_601 : decode cL_law 601 = .ok (.invokevirtual 84, 3) := by decide +kernel
theorem dL_law_604 : decode cL_law 604 = .ok (.aload_n 2, 1) := by decide +kernel
theorem dL_law_605 : decode cL_law 605 = .ok (.aload_n 0, 1) := by decide +kernel
theorem dL_law_606 : decode cL_law 606 = .ok (.iload_n 3, 1) := by decide +kernel
theorem dL_law_607 : decode cL_law 607 = .ok (.iconst 1, 1) := by decide +kernel
theorem dL_law_608 : decode cL_law 608 = .ok (.iadd, 1) := by decide +kernel
theorem dL_law_609 : decode cL_law 609 = .ok (.iaload, 1) := by decide +kernel
theorem dL_law_610 : decode cL_law 610 = .ok (.aload_n 0, 1) := by decide +kernel
theorem dL_law_611 : decode cL_law 611 = .ok (.iload_n 3, 1) := by decide +kernel
theorem dL_law_612 : decode cL_law 612 = .ok (.iconst 2, 1) := by decide +kernel
theorem dL_law_613 : decode cL_law 613 = .ok (.iadd, 1) := by decide +kernel
theorem dL_law_614 : decode cL_law 614 = .ok (.iaload, 1) := by decide +kernel
theorem dL_law_615 : decode cL_law 615 = .ok (.invokevirtual 87, 3) := by decide +kernel
theorem dL_law_618 : decode cL_law 618 = .ok (.if_icmp .eq 313, 3) := by decide +kernel
theorem dL_law_621 : decode cL_law 621 = .ok (.iconst 0, 1) := by decide +kernel
theorem dL_law_622 : decode cL_law 622 = .ok (.ireturn, 1) := by decide +kernel
theorem dL_law_623 : decode cL_law 623 = .ok (.aload_n 1, 1) := by decide +kernel
theorem dL_law_624 : decode cL_law 624 = .ok (.aload_n 0, 1) := by decide +kernel
theorem dL_law_625 : decode cL_law 625 = .ok (.iload_n 3, 1) := by decide +kernel
theorem dL_law_626 : decode cL_law 626 = .ok (.iconst 1, 1) := by decide +kernel
theorem dL_law_627 : decode cL_law 627 = .ok (.iadd, 1) := by decide +kernel
theorem dL_law_628 : decode cL_law 628 = .ok (.iaload, 1) := by decide +kernel
theorem dL_law_629 : decode cL_law 629 = .ok (.aload_n 0, 1) := by decide +kernel
theorem dL_law_630 : decode cL_law 630 = .ok (.iload_n 3, 1) := by decide +kernel
theorem dL_law_631 : decode cL_law 631 = .ok (.iconst 2, 1) := by decide +kernel
theorem dL_law_632 : decode cL_law 632 = .ok (.iadd, 1) := by decide +kernel
theorem dL_law_633 : decode cL_law 633 = .ok (.iaload, 1) := by decide +kernel
theorem dL_law_634 : decode cL_law 634 = .ok (.invokevirtual 88, 3) := by decide +kernel
theorem dL_law_637 : decode cL_law 637 = .ok (.aload_n 2, 1) := by decide +kernel
theorem dL_law_638 : decode cL_law 638 = .ok (.aload_n 0, 1) := by decide +kernel
theorem dL_law_639 : decode cL_law 639 = .ok (.iload_n 3, 1) := by decide +kernel
theorem dL_law_640 : decode cL_law 640 = .ok (.iconst 1, 1) := by decide +kernel
theorem dL_law_641 : decode cL_law 641 = .ok (.iadd, 1) := by decide +kernel
theorem dL_law_642 : decode cL_law 642 = .ok (.iaload, 1) := by decide +kernel
theorem dL_law_643 : decode cL_law 643 = .ok (.aload_n 0, 1) := by decide +kernel
theorem dL_law_644 : decode cL_law 644 = .ok (.iload_n 3, 1) := by decide +kernel
theorem dL_law_645 : decode cL_law 645 = .ok (.iconst 2, 1) := by decide +kernel
theorem dL_law_646 : decode cL_law 646 = .ok (.iadd, 1) := by decide +kernel
theorem dL_law_647 : decode cL_law 647 = .ok (.iaload, 1) := by decide +kernel
theorem dL_law_648 : decode cL_law 648 = .ok (.invokevirtual 91, 3) := by decide +kernel
theorem dL_law_651 : decode cL_law 651 = .ok (.if_icmp .eq 280, 3) := by decide +kernel
theorem dL_law_654 : decode cL_law 654 = .ok (.iconst 0, 1) := by decide +kernel
theorem dL_law_655 : decode cL_law 655 = .ok (.ireturn, 1) := by decide +kernel
theorem dL_law_656 : decode cL_law 656 = .ok (.aload_n 1, 1) := by decide +kernel
theorem dL_law_657 : decode cL_law 657 = .ok (.aload_n 0, 1) := by decide +kernel
theorem dL_law_658 : decode cL_law 658 = .ok (.iload_n 3, 1) := by decide +kernel
theorem dL_law_659 : decode cL_law 659 = .ok (.iconst 1, 1) := by decide +kernel
theorem dL_law_660 : decode cL_law 660 = .ok (.iadd, 1) := by decide +kernel
theorem dL_law_661 : decode cL_law 661 = .ok (.iaload, 1) := by decide +kernel
theorem dL_law_662 : decode cL_law 662 = .ok (.aload_n 0, 1) := by decide +kernel
theorem dL_law_663 : decode cL_law 663 = .ok (.iload_n 3, 1) := by decide +kernel
theorem dL_law_664 : decode cL_law 664 = .ok (.iconst 2, 1) := by decide +kernel
theorem dL_law_665 : decode cL_law 665 = .ok (.iadd, 1) := by decide +kernel
theorem dL_law_666 : decode cL_law 666 = .ok (.iaload, 1) := by decide +kernel
theorem dL_law_667 : decode cL_law 667 = .ok (.invokevirtual 92, 3) := by decide +kernel
theorem dL_law_670 : decode cL_law 670 = .ok (.aload_n 2, 1) := by decide +kernel
theorem dL_law_671 : decode cL_law 671 = .ok (.aload_n 0, 1) := by decide +kernel
theorem dL_law_672 : decode cL_law 672 = .ok (.iload_n 3, 1) := by decide +kernel
theorem dL_law_673 : decode cL_law 673 = .ok (.iconst 1, 1) := by decide +kernel
theorem dL_law_674 : decode cL_law 674 = .ok (.iadd, 1) := by decide +kernel
theorem dL_law_675 : decode cL_law 675 = .ok (.iaload, 1) := by decide +kernel
theorem dL_law_676 : decode cL_law 676 = .ok (.aload_n 0, 1) := by decide +kernel
theorem dL_law_677 : decode cL_law 677 = .ok (.iload_n 3, 1) := by decide +kernel
theorem dL_law_678 : decode cL_law 678 = .ok (.iconst 2, 1) := by decide +kernel
theorem dL_law_679 : decode cL_law 679 = .ok (.iadd, 1) := by decide +kernel
theorem dL_law_680 : decode cL_law 680 = .ok (.iaload, 1) := by decide +kernel
theorem dL_law_681 : decode cL_law 681 = .ok (.invokevirtual 95, 3) := by decide +kernel
theorem dL_law_684 : decode cL_law 684 = .ok (.if_icmp .eq 247, 3) := by decide +kernel
theorem dL_law_687 : decode cL_law 687 = .ok (.iconst 0, 1) := by decide +kernel
theorem dL_law_688 : decode cL_law 688 = .ok (.ireturn, 1) := by decide +kernel
theorem dL_law_689 : decode cL_law 689 = .ok (.aload_n 1, 1) := by decide +kernel
theorem dL_law_690 : decode cL_law 690 = .ok (.aload_n 0, 1) := by decide +kernel
theorem dL_law_691 : decode cL_law 691 = .ok (.iload_n 3, 1) := by decide +kernel
theorem dL_law_692 : decode cL_law 692 = .ok (.iconst 1, 1) := by decide +kernel
theorem dL_law_693 : decode cL_law 693 = .ok (.iadd, 1) := by decide +kernel
theorem dL_law_694 : decode cL_law 694 = .ok (.iaload, 1) := by decide +kernel
theorem dL_law_695 : decode cL_law 695 = .ok (.aload_n 0, 1) := by decide +kernel
theorem dL_law_696 : decode cL_law 696 = .ok (.iload_n 3, 1) := by decide +kernel
theorem dL_law_697 : decode cL_law 697 = .ok (.iconst 2, 1) := by decide +kernel
theorem dL_law_698 : decode cL_law 698 = .ok (.iadd, 1) := by decide +kernel
theorem dL_law_699 : decode cL_law 699 = .ok (.iaload, 1) := by decide +kernel
theorem dL_law_700 : decode cL_law 700 = .ok (.aload_n 0, 1) := by decide +kernel
theorem dL_law_701 : decode cL_law 701 = .ok (.iload_n 3, 1) := by decide +kernel
theorem dL_law_702 : decode cL_law 702 = .ok (.iconst 3, 1) := by decide +kernel
theorem dL_law_703 : decode cL_law 703 = .ok (.iadd, 1) := by decide +kernel
theorem dL_law_704 : decode cL_law 704 = .ok (.iaload, 1) := by decide +kernel
theorem dL_law_705 : decode cL_law 705 = .ok (.aload_n 0, 1) := by decide +kernel
theorem dL_law_706 : decode cL_law 706 = .ok (.iload_n 3, 1) := by decide +kernel
theorem dL_law_707 : decode cL_law 707 = .ok (.iconst 4, 1) := by decide +kernel
theorem dL_law_708 : decode cL_law 708 = .ok (.iadd, 1) := by decide +kernel
theorem dL_law_709 : decode cL_law 709 = .ok (.iaload, 1) := by decide +kernel
theorem dL_law_710 : decode cL_law 710 = .ok (.aload_n 0, 1) := by decide +kernel
theorem dL_law_711 : decode cL_law 711 = .ok (.iload_n 3, 1) := by decide +kernel
theorem dL_law_712 : decode cL_law 712 = .ok (.iconst 5, 1) := by decide +kernel
theorem dL_law_713 : decode cL_law 713 = .ok (.iadd, 1) := by decide +kernel
theorem dL_law_714 : decode cL_law 714 = .ok (.iaload, 1) := by decide +kernel
theorem dL_law_715 : decode cL_law 715 = .ok (.invokevirtual 96, 3) := by decide +kernel
theorem dL_law_718 : decode cL_law 718 = .ok (.aload_n 2, 1) := by decide +kernel
theorem dL_law_719 : decode cL_law 719 = .ok (.aload_n 0, 1) := by decide +kernel
theorem dL_law_720 : decode cL_law 720 = .ok (.iload_n 3, 1) := by decide +kernel
theorem dL_law_721 : decode cL_law 721 = .ok (.iconst 1, 1) := by decide +kernel
theorem dL_law_722 : decode cL_law 722 = .ok (.iadd, 1) := by decide +kernel
theorem dL_law_723 : decode cL_law 723 = .ok (.iaload, 1) := by decide +kernel
theorem dL_law_724 : decode cL_law 724 = .ok (.aload_n 0, 1) := by decide +kernel
theorem dL_law_725 : decode cL_law 725 = .ok (.iload_n 3, 1) := by decide +kernel
theorem dL_law_726 : decode cL_law 726 = .ok (.iconst 2, 1) := by decide +kernel
theorem dL_law_727 : decode cL_law 727 = .ok (.iadd, 1) := by decide +kernel
theorem dL_law_728 : decode cL_law 728 = .ok (.iaload, 1) := by decide +kernel
theorem dL_law_729 : decode cL_law 729 = .ok (.aload_n 0, 1) := by decide +kernel
theorem dL_law_730 : decode cL_law 730 = .ok (.iload_n 3, 1) := by decide +kernel
theorem dL_law_731 : decode cL_law 731 = .ok (.iconst 3, 1) := by decide +kernel
theorem dL_law_732 : decode cL_law 732 = .ok (.iadd, 1) := by decide +kernel
theorem dL_law_733 : decode cL_law 733 = .ok (.iaload, 1) := by decide +kernel
theorem dL_law_734 : decode cL_law 734 = .ok (.aload_n 0, 1) := by decide +kernel
theorem dL_law_735 : decode cL_law 735 = .ok (.iload_n 3, 1) := by decide +kernel
theorem dL_law_736 : decode cL_law 736 = .ok (.iconst 4, 1) := by decide +kernel
theorem dL_law_737 : decode cL_law 737 = .ok (.iadd, 1) := by decide +kernel
theorem dL_law_738 : decode cL_law 738 = .ok (.iaload, 1) := by decide +kernel
theorem dL_law_739 : decode cL_law 739 = .ok (.aload_n 0, 1) := by decide +kernel
theorem dL_law_740 : decode cL_law 740 = .ok (.iload_n 3, 1) := by decide +kernel
theorem dL_law_741 : decode cL_law 741 = .ok (.iconst 5, 1) := by decide +kernel
theorem dL_law_742 : decode cL_law 742 = .ok (.iadd, 1) := by decide +kernel
theorem dL_law_743 : decode cL_law 743 = .ok (.iaload, 1) := by decide +kernel
theorem dL_law_744 : decode cL_law 744 = .ok (.invokevirtual 100, 3) := by decide +kernel
theorem dL_law_747 : decode cL_law 747 = .ok (.if_icmp .eq 184, 3) := by decide +kernel
theorem dL_law_750 : decode cL_law 750 = .ok (.iconst 0, 1) := by decide +kernel
theorem dL_law_751 : decode cL_law 751 = .ok (.ireturn, 1) := by decide +kernel
theorem dL_law_752 : decode cL_law 752 = .ok (.aload_n 1, 1) := by decide +kernel
theorem dL_law_753 : decode cL_law 753 = .ok (.aload_n 0, 1) := by decide +kernel
theorem dL_law_754 : decode cL_law 754 = .ok (.iload_n 3, 1) := by decide +kernel
theorem dL_law_755 : decode cL_law 755 = .ok (.iconst 1, 1) := by decide +kernel
theorem dL_law_756 : decode cL_law 756 = .ok (.iadd, 1) := by decide +kernel
theorem dL_law_757 : decode cL_law 757 = .ok (.iaload, 1) := by decide +kernel
theorem dL_law_758 : decode cL_law 758 = .ok (.aload_n 0, 1) := by decide +kernel
theorem dL_law_759 : decode cL_law 759 = .ok (.iload_n 3, 1) := by decide +kernel
theorem dL_law_760 : decode cL_law 760 = .ok (.iconst 2, 1) := by decide +kernel
theorem dL_law_761 : decode cL_law 761 = .ok (.iadd, 1) := by decide +kernel
theorem dL_law_762 : decode cL_law 762 = .ok (.iaload, 1) := by decide +kernel
theorem dL_law_763 : decode cL_law 763 = .ok (.invokevirtual 101, 3) := by decide +kernel
theorem dL_law_766 : decode cL_law 766 = .ok (.aload_n 2, 1) := by decide +kernel
theorem dL_law_767 : decode cL_law 767 = .ok (.aload_n 0, 1) := by decide +kernel
theorem dL_law_768 : decode cL_law 768 = .ok (.iload_n 3, 1) := by decide +kernel
theorem dL_law_769 : decode cL_law 769 = .ok (.iconst 1, 1) := by decide +kernel
theorem dL_law_770 : decode cL_law 770 = .ok (.iadd, 1) := by decide +kernel
theorem dL_law_771 : decode cL_law 771 = .ok (.iaload, 1) := by decide +kernel
theorem dL_law_772 : decode cL_law 772 = .ok (.aload_n 0, 1) := by decide +kernel
theorem dL_law_773 : decode cL_law 773 = .ok (.iload_n 3, 1) := by decide +kernel
theorem dL_law_774 : decode cL_law 774 = .ok (.iconst 2, 1) := by decide +kernel
theorem dL_law_775 : decode cL_law 775 = .ok (.iadd, 1) := by decide +kernel
theorem dL_law_776 : decode cL_law 776 = .ok (.iaload, 1) := by decide +kernel
theorem dL_law_777 : decode cL_law 777 = .ok (.invokevirtual 104, 3) := by decide +kernel
theorem dL_law_780 : decode cL_law 780 = .ok (.if_icmp .eq 151, 3) := by decide +kernel
theorem dL_law_783 : decode cL_law 783 = .ok (.iconst 0, 1) := by decide +kernel
theorem dL_law_784 : decode cL_law 784 = .ok (.ireturn, 1) := by decide +kernel
theorem dL_law_785 : decode cL_law 785 = .ok (.aload_n 1, 1) := by decide +kernel
theorem dL_law_786 : decode cL_law 786 = .ok (.aload_n 0, 1) := by decide +kernel
theorem dL_law_787 : decode cL_law 787 = .ok (.iload_n 3, 1) := by decide +kernel
theorem dL_law_788 : decode cL_law 788 = .ok (.iconst 1, 1) := by decide +kernel
theorem dL_law_789 : decode cL_law 789 = .ok (.iadd, 1) := by decide +kernel
theorem dL_law_790 : decode cL_law 790 = .ok (.iaload, 1) := by decide +kernel
theorem dL_law_791 : decode cL_law 791 = .ok (.invokevirtual 105, 3) := by decide +kernel
theorem dL_law_794 : decode cL_law 794 = .ok (.aload_n 2, 1) := by decide +kernel
theorem dL_law_795 : decode cL_law 795 = .ok (.aload_n 0, 1) := by decide +kernel
theorem dL_law_796 : decode cL_law 796 = .ok (.iload_n 3, 1) := by decide +kernel
theorem dL_law_797 : decode cL_law 797 = .ok (.iconst 1, 1) := by decide +kernel
theorem dL_law_798 : decode cL_law 798 = .ok (.iadd, 1) := by decide +kernel
theorem dL_law_799 : decode cL_law 799 = .ok (.iaload, 1) := by decide +kernel
theorem dL_law_800 : decode cL_law 800 = .ok (.invokevirtual 108, 3) := by decide +kernel
theorem dL_law_803 : decode cL_law 803 = .ok (.if_icmp .eq 128, 3) := by decide +kernel
theorem dL_law_806 : decode cL_law 806 = .ok (.iconst 0, 1) := by decide +kernel
theorem dL_law_807 : decode cL_law 807 = .ok (.ireturn, 1) := by decide +kernel
theorem dL_law_808 : decode cL_law 808 = .ok (.aload_n 1, 1) := by decide +kernel
theorem dL_law_809 : decode cL_law 809 = .ok (.invokevirtual 109, 3) := by decide +kernel
theorem dL_law_812 : decode cL_law 812 = .ok (.aload_n 2, 1) := by decide +kernel
theorem dL_law_813 : decode cL_law 813 = .ok (.invokevirtual 112, 3) := by decide +kernel
theorem dL_law_816 : decode cL_law 816 = .ok (.if_icmp .eq 115, 3) := by decide +kernel
theorem dL_law_819 : decode cL_law 819 = .ok (.iconst 0, 1) := by decide +kernel
theorem dL_law_820 : decode cL_law 820 = .ok (.ireturn, 1) := by decide +kernel
theorem dL_law_821 : decode cL_law 821 = .ok (.aload_n 1, 1) := by decide +kernel
theorem dL_law_822 : decode cL_law 822 = .ok (.aload_n 0, 1) := by decide +kernel
theorem dL_law_823 : decode cL_law 823 = .ok (.iload_n 3, 1) := by decide +kernel
theorem dL_law_824 : decode cL_law 824 = .ok (.iconst 1, 1) := by decide +kernel
theorem dL_law_825 : decode cL_law 825 = .ok (.iadd, 1) := by decide +kernel
theorem dL_law_826 : decode cL_law 826 = .ok (.iaload, 1) := by decide +kernel
theorem dL_law_827 : decode cL_law 827 = .ok (.aload_n 0, 1) := by decide +kernel
theorem dL_law_828 : decode cL_law 828 = .ok (.iload_n 3, 1) := by decide +kernel
theorem dL_law_829 : decode cL_law 829 = .ok (.iconst 2, 1) := by decide +kernel
theorem dL_law_830 : decode cL_law 830 = .ok (.iadd, 1) := by decide +kernel
theorem dL_law_831 : decode cL_law 831 = .ok (.iaload, 1) := by decide +kernel
theorem dL_law_832 : decode cL_law 832 = .ok (.invokevirtual 113, 3) := by decide +kernel
theorem dL_law_835 : decode cL_law 835 = .ok (.aload_n 2, 1) := by decide +kernel
theorem dL_law_836 : decode cL_law 836 = .ok (.aload_n 0, 1) := by decide +kernel
theorem dL_law_837 : decode cL_law 837 = .ok (.iload_n 3, 1) := by decide +kernel
theorem dL_law_838 : decode cL_law 838 = .ok (.iconst 1, 1) := by decide +kernel
theorem dL_law_839 : decode cL_law 839 = .ok (.iadd, 1) := by decide +kernel
theorem dL_law_840 : decode cL_law 840 = .ok (.iaload, 1) := by decide +kernel
theorem dL_law_841 : decode cL_law 841 = .ok (.aload_n 0, 1) := by decide +kernel
theorem dL_law_842 : decode cL_law 842 = .ok (.iload_n 3, 1) := by decide +kernel
theorem dL_law_843 : decode cL_law 843 = .ok (.iconst 2, 1) := by decide +kernel
theorem dL_law_844 : decode cL_law 844 = .ok (.iadd, 1) := by decide +kernel
theorem dL_law_845 : decode cL_law 845 = .ok (.iaload, 1) := by decide +kernel
theorem dL_law_846 : decode cL_law 846 = .ok (.invokevirtual 116, 3) := by decide +kernel
theorem dL_law_849 : decode cL_law 849 = .ok (.if_icmp .eq 82, 3) := by decide +kernel
theorem dL_law_852 : decode cL_law 852 = .ok (.iconst 0, 1) := by decide +kernel
theorem dL_law_853 : decode cL_law 853 = .ok (.ireturn, 1) := by decide +kernel
theorem dL_law_854 : decode cL_law 854 = .ok (.aload_n 1, 1) := by decide +kernel
theorem dL_law_855 : decode cL_law 855 = .ok (.aload_n 0, 1) := by decide +kernel
theorem dL_law_856 : decode cL_law 856 = .ok (.iload_n 3, 1) := by decide +kernel
theorem dL_law_857 : decode cL_law 857 = .ok (.iconst 1, 1) := by decide +kernel
theorem dL_law_858 : decode cL_law 858 = .ok (.iadd, 1) := by decide +kernel
theorem dL_law_859 : decode cL_law 859 = .ok (.iaload, 1) := by decide +kernel
theorem dL_law_860 : decode cL_law 860 = .ok (.aload_n 0, 1) := by decide +kernel
theorem dL_law_861 : decode cL_law 861 = .ok (.iload_n 3, 1) := by decide +kernel
theorem dL_law_862 : decode cL_law 862 = .ok (.iconst 2, 1) := by decide +kernel
theorem dL_law_863 : decode cL_law 863 = .ok (.iadd, 1) := by decide +kernel
theorem dL_law_864 : decode cL_law 864 = .ok (.iaload, 1) := by decide +kernel
theorem dL_law_865 : decode cL_law 865 = .ok (.aload_n 0, 1) := by decide +kernel
theorem dL_law_866 : decode cL_law 866 = .ok (.iload_n 3, 1) := by decide +kernel
theorem dL_law_867 : decode cL_law 867 = .ok (.iconst 3, 1) := by decide +kernel
theorem dL_law_868 : decode cL_law 868 = .ok (.iadd, 1) := by decide +kernel
theorem dL_law_869 : decode cL_law 869 = .ok (.iaload, 1) := by decide +kernel
theorem dL_law_870 : decode cL_law 870 = .ok (.aload_n 0, 1) := by decide +kernel
theorem dL_law_871 : decode cL_law 871 = .ok (.iload_n 3, 1) := by decide +kernel
theorem dL_law_872 : decode cL_law 872 = .ok (.iconst 4, 1) := by decide +kernel
theorem dL_law_873 : decode cL_law 873 = .ok (.iadd, 1) := by decide +kernel
theorem dL_law_874 : decode cL_law 874 = .ok (.iaload, 1) := by decide +kernel
theorem dL_law_875 : decode cL_law 875 = .ok (.invokevirtual 117, 3) := by decide +kernel
theorem dL_law_878 : decode cL_law 878 = .ok (.aload_n 2, 1) := by decide +kernel
theorem dL_law_879 : decode cL_law 879 = .ok (.aload_n 0, 1) := by decide +kernel
theorem dL_law_880 : decode cL_law 880 = .ok (.iload_n 3, 1) := by decide +kernel
theorem dL_law_881 : decode cL_law 881 = .ok (.iconst 1, 1) := by decide +kernel
theorem dL_law_882 : decode cL_law 882 = .ok (.iadd, 1) := by decide +kernel
theorem dL_law_883 : decode cL_law 883 = .ok (.iaload, 1) := by decide +kernel
theorem dL_law_884 : decode cL_law 884 = .ok (.aload_n 0, 1) := by decide +kernel
theorem dL_law_885 : decode cL_law 885 = .ok (.iload_n 3, 1) := by decide +kernel
theorem dL_law_886 : decode cL_law 886 = .ok (.iconst 2, 1) := by decide +kernel
theorem dL_law_887 : decode cL_law 887 = .ok (.iadd, 1) := by decide +kernel
theorem dL_law_888 : decode cL_law 888 = .ok (.iaload, 1) := by decide +kernel
theorem dL_law_889 : decode cL_law 889 = .ok (.aload_n 0, 1) := by decide +kernel
theorem dL_law_890 : decode cL_law 890 = .ok (.iload_n 3, 1) := by decide +kernel
theorem dL_law_891 : decode cL_law 891 = .ok (.iconst 3, 1) := by decide +kernel
theorem dL_law_892 : decode cL_law 892 = .ok (.iadd, 1) := by decide +kernel
theorem dL_law_893 : decode cL_law 893 = .ok (.iaload, 1) := by decide +kernel
theorem dL_law_894 : decode cL_law 894 = .ok (.aload_n 0, 1) := by decide +kernel
theorem dL_law_895 : decode cL_law 895 = .ok (.iload_n 3, 1) := by decide +kernel
theorem dL_law_896 : decode cL_law 896 = .ok (.iconst 4, 1) := by decide +kernel
theorem dL_law_897 : decode cL_law 897 = .ok (.iadd, 1) := by decide +kernel
theorem dL_law_898 : decode cL_law 898 = .ok (.iaload, 1) := by decide +kernel
theorem dL_law_899 : decode cL_law 899 = .ok (.invokevirtual 121, 3) := by decide +kernel
theorem dL_law_902 : decode cL_law 902 = .ok (.lcmp, 1) := by decide +kernel
theorem dL_law_903 : decode cL_law 903 = .ok (.ifCond .eq 28, 3) := by decide +kernel
theorem dL_law_906 : decode cL_law 906 = .ok (.iconst 0, 1) := by decide +kernel
theorem dL_law_907 : decode cL_law 907 = .ok (.ireturn, 1) := by decide +kernel
theorem dL_law_908 : decode cL_law 908 = .ok (.aload_n 1, 1) := by decide +kernel
theorem dL_law_909 : decode cL_law 909 = .ok (.aload_n 0, 1) := by decide +kernel
theorem dL_law_910 : decode cL_law 910 = .ok (.iload_n 3, 1) := by decide +kernel
theorem dL_law_911 : decode cL_law 911 = .ok (.iconst 1, 1) := by decide +kernel
theorem dL_law_912 : decode cL_law 912 = .ok (.iadd, 1) := by decide +kernel
theorem dL_law_913 : decode cL_law 913 = .ok (.iaload, 1) := by decide +kernel
theorem dL_law_914 : decode cL_law 914 = .ok (.invokevirtual 122, 3) := by decide +kernel
theorem dL_law_917 : decode cL_law 917 = .ok (.aload_n 2, 1) := by decide +kernel
theorem dL_law_918 : decode cL_law 918 = .ok (.aload_n 0, 1) := by decide +kernel
theorem dL_law_919 : decode cL_law 919 = .ok (.iload_n 3, 1) := by decide +kernel
theorem dL_law_920 : decode cL_law 920 = .ok (.iconst 1, 1) := by decide +kernel
theorem dL_law_921 : decode cL_law 921 = .ok (.iadd, 1) := by decide +kernel
theorem dL_law_922 : decode cL_law 922 = .ok (.iaload, 1) := by decide +kernel
theorem dL_law_923 : decode cL_law 923 = .ok (.invokevirtual 125, 3) := by decide +kernel
theorem dL_law_926 : decode cL_law 926 = .ok (.if_icmp .eq 5, 3) := by decide +kernel
theorem dL_law_929 : decode cL_law 929 = .ok (.iconst 0, 1) := by decide +kernel
theorem dL_law_930 : decode cL_law 930 = .ok (.ireturn, 1) := by decide +kernel
theorem dL_law_931 : decode cL_law 931 = .ok (.iinc 3 6, 3) := by decide +kernel
theorem dL_law_934 : decode cL_law 934 = .ok (.goto (-916), 3) := by decide +kernel
theorem dL_law_937 : decode cL_law 937 = .ok (.iconst 1, 1) := by decide +kernel
theorem dL_law_938 : decode cL_law 938 = .ok (.ireturn, 1) := by decide +kernel
end
section
def ab_fl0 : List (List Nat) := [[], [2, 13, 17, 21, 23, 44, 65, 73, 76, 79, 81], [3, 8, 9, 11], [4, 5, 6, 7], [], [], [], [], [], [10], [], [12], [], [0, 0, 0, 0, 14, 15, 16], [], [], [], [0, 0, 0, 0, 18, 19, 20], [], [], [], [22], [], [2, 24, 0, 0, 0, 0, 25], [32, 33, 34, 35, 36, 37, 38, 39, 40, 41, 42, 43], [26, 27, 28, 29, 30, 31], [], [], [], [], [], [], [], [], [], [], [], [], [], [], [], [], [], [], [2, 45, 0, 0, 0, 0, 46], [53, 54, 55, 56, 57, 58, 59, 60, 61, 62, 63, 64], [47, 48, 49, 50, 51, 52], [], [], [], [], [], [], [], [], [], [], [], [], [], [], [], [], [], [], [2, 66, 67, 72], [], [68, 69, 70, 71], [], [], [], [], [], [2, 74, 0, 75], [], [], [2, 77, 78], [], [], [76, 80], [], [76, 82, 83], [], [], [85, 86, 0, 87, 0, 88, 89, 90, 91, 92, 0, 93, 0, 0, 0, 0, 0, 0, 0, 94, 95, 96, 97, 98, 99, 0, 100, 101, 102, 103, 0, 104], [], [], [], [], [], [], [], [], [], [], [], [], [], [], [], [], [], [], [], []]
/-- the references that never change once all is made -/
def ab_F0 (i j : Nat) : Nat := (ab_fl0.getD i []).getD j 0
def ab_FB (F : Nat → Nat → Nat) : Prop := ∀ i j, i ≠ 24 → i ≠ 45 → F i j = ab_F0 i j
theorem ab_FB.at {F : Nat → Nat → Nat} (h : ab_FB F) (i j r : Nat) (h1 : Nat.beq i 24 = false) (h2 : Nat.beq i 45 = false) (hr : ab_F0 i j = r) : F i j = r := (h i j (Nat.ne_of_beq_eq_false h1) (Nat.ne_of_beq_eq_false h2)).trans hr
theorem ab_le_nil {b : List (Option ab_V)} : ab_le [] b := fun j v h => by simp at h
theorem ab_le_c {x : Option ab_V} {a b : List (Option ab_V)} (h : ab_le a b) : ab_le (x :: a) (x :: b) := fun j v hj => by
  cases j with
  | zero => exact hj
  | succ j => exact h j v hj
theorem ab_le_n {x : Option ab_V} {a b : List (Option ab_V)} (h : ab_le a b) : ab_le (none :: a) (x :: b) := fun j v hj => by
  cases j with
  | zero => simp at hj
  | succ j => exact h j v hj
section AX
variable {G : ab_G} {Y : ab_Y} {R : Room} {Z : ab_Zt} {kc ks : Nat} {n : Nat} {I : Nat → Nat → Int} {F : Nat → Nat → Nat} {h : ab_H} {pc : Nat} {ls : List (Option ab_V)} {st : List ab_V}
theorem aw_nm_i {e : Int} (k : ∀ z, z = e → aW G Y R Z kc ks h pc ls (ab_i z :: st)) : aW G Y R Z kc ks h pc ls (ab_i e :: st) := k e rfl
theorem aw_nm_l {e : Int} (k : ∀ z, z = e → aW G Y R Z kc ks h pc ls (ab_l z :: st)) : aW G Y R Z kc ks h pc ls (ab_l e :: st) := k e rfl
theorem aw_nm_r {e : Nat} (k : ∀ z, z = e → aW G Y R Z kc ks h pc ls (ab_r z :: st)) : aW G Y R Z kc ks h pc ls (ab_r e :: st) := k e rfl
theorem aw_getrv {idx k j i r : Nat} {fin : Bool} (hd : decode Y.2.1 pc = .ok (.getfield idx, 3)) (hF : ab_FL Y.1.cls idx k j fin) (hi : 1 ≤ i ∧ i ≤ n) (hk : (ab_sh i).1 = k) (ht : ab_tag (ab_ty k j) = 1) (hr : F i j = r) (kk : aW G Y R Z kc ks (n, I, F) (pc + 3) ls (ab_r r :: st)) : aW G Y R Z kc ks (n, I, F) pc ls (ab_r i :: st) :=
  aw_getr hd hF hi hk ht (by rw [hr]; exact kk)
theorem aw_getiv {idx k j i : Nat} {v : Int} {fin : Bool} (hd : decode Y.2.1 pc = .ok (.getfield idx, 3)) (hF : ab_FL Y.1.cls idx k j fin) (hi : 1 ≤ i ∧ i ≤ n) (hk : (ab_sh i).1 = k) (ht : ab_tag (ab_ty k j) = 0) (hr : I i j = v) (kk : aW G Y R Z kc ks (n, I, F) (pc + 3) ls (ab_i v :: st)) : aW G Y R Z kc ks (n, I, F) pc ls (ab_r i :: st) :=
  aw_geti hd hF hi hk ht (by rw [hr]; exact kk)
theorem aw_getlv {idx k j i : Nat} {v : Int} {fin : Bool} (hd : decode Y.2.1 pc = .ok (.getfield idx, 3)) (hF : ab_FL Y.1.cls idx k j fin) (hi : 1 ≤ i ∧ i ≤ n) (hk : (ab_sh i).1 = k) (ht : ab_tag (ab_ty k j) = 2) (hr : I i j = v) (kk : aW G Y R Z kc ks (n, I, F) (pc + 3) ls (ab_l v :: st)) : aW G Y R Z kc ks (n, I, F) pc ls (ab_r i :: st) :=
  aw_getl hd hF hi hk ht (by rw [hr]; exact kk)
theorem aw_ialdv {i l : Nat} {j v : Int} (hd : decode Y.2.1 pc = .ok (.iaload, 1)) (hi : 1 ≤ i ∧ i ≤ n) (hk : ab_sh i = (20, l)) (h0 : 0 ≤ j) (hl9 : j < l) (hz : l < 1000000) (hr : I i j.toNat = v) (kk : aW G Y R Z kc ks (n, I, F) (pc + 1) ls (ab_i v :: st)) : aW G Y R Z kc ks (n, I, F) pc ls (ab_i j :: ab_r i :: st) :=
  aw_iald hd hi hk h0 hl9 hz (by rw [hr]; exact kk)
theorem aw_aaldv {i l k r : Nat} {j : Int} (hd : decode Y.2.1 pc = .ok (.aaload, 1)) (hi : 1 ≤ i ∧ i ≤ n) (hk : ab_sh i = (k, l)) (hk2 : k = 23 ∨ k = 24) (h0 : 0 ≤ j) (hl9 : j < l) (hz : l < 1000000) (hr : F i j.toNat = r) (kk : aW G Y R Z kc ks (n, I, F) (pc + 1) ls (ab_r r :: st)) : aW G Y R Z kc ks (n, I, F) pc ls (ab_i j :: ab_r i :: st) :=
  aw_aald hd hi hk hk2 h0 hl9 hz (by rw [hr]; exact kk)
theorem aw_caldv {i l : Nat} {j v : Int} (hd : decode Y.2.1 pc = .ok (.caload, 1)) (hi : 1 ≤ i ∧ i ≤ n) (hk : ab_sh i = (21, l)) (h0 : 0 ≤ j) (hl9 : j < l) (hz : l < 1000000) (hr : I i j.toNat = v) (kk : aW G Y R Z kc ks (n, I, F) (pc + 1) ls (ab_i v :: st)) : aW G Y R Z kc ks (n, I, F) pc ls (ab_i j :: ab_r i :: st) :=
  aw_cald hd hi hk h0 hl9 hz (by rw [hr]; exact kk)
theorem aw_zaldv {i l : Nat} {j v : Int} (hd : decode Y.2.1 pc = .ok (.baload, 1)) (hi : 1 ≤ i ∧ i ≤ n) (hk : ab_sh i = (22, l)) (h0 : 0 ≤ j) (hl9 : j < l) (hz : l < 1000000) (hr : I i j.toNat = v) (kk : aW G Y R Z kc ks (n, I, F) (pc + 1) ls (ab_i v :: st)) : aW G Y R Z kc ks (n, I, F) pc ls (ab_i j :: ab_r i :: st) :=
  aw_zald hd hi hk h0 hl9 hz (by rw [hr]; exact kk)
theorem aw_iastv {i l q : Nat} {j x : Int} (hd : decode Y.2.1 pc = .ok (.iastore, 1)) (hi : 1 ≤ i ∧ i ≤ n) (hk : ab_sh i = (20, l)) (h0 : 0 ≤ j) (hl9 : j < l) (hz : l < 1000000) (hq : j.toNat = q) (kk : aW G Y R Z kc ks (n, ab_u I i q x, F) (pc + 1) ls st) : aW G Y R Z kc ks (n, I, F) pc ls (ab_i x :: ab_i j :: ab_r i :: st) :=
  aw_iast hd hi hk h0 hl9 hz (by rw [hq]; exact kk)
theorem aw_castv {i l q : Nat} {j x : Int} (hd : decode Y.2.1 pc = .ok (.castore, 1)) (hi : 1 ≤ i ∧ i ≤ n) (hk : ab_sh i = (21, l)) (h0 : 0 ≤ j) (hl9 : j < l) (hz : l < 1000000) (hx : (Int32.ofInt x).toUInt32.toUInt16.toUInt32.toInt32 = Int32.ofInt x) (hq : j.toNat = q) (kk : aW G Y R Z kc ks (n, ab_u I i q x, F) (pc + 1) ls st) : aW G Y R Z kc ks (n, I, F) pc ls (ab_i x :: ab_i j :: ab_r i :: st) :=
  aw_cast hd hi hk h0 hl9 hz hx (by rw [hq]; exact kk)
theorem aw_zastv {i l q : Nat} {j x : Int} (hd : decode Y.2.1 pc = .ok (.bastore, 1)) (hi : 1 ≤ i ∧ i ≤ n) (hk : ab_sh i = (22, l)) (h0 : 0 ≤ j) (hl9 : j < l) (hz : l < 1000000) (hx : x = 0 ∨ x = 1) (hq : j.toNat = q) (kk : aW G Y R Z kc ks (n, ab_u I i q x, F) (pc + 1) ls st) : aW G Y R Z kc ks (n, I, F) pc ls (ab_i x :: ab_i j :: ab_r i :: st) :=
  aw_zast hd hi hk h0 hl9 hz hx (by rw [hq]; exact kk)
theorem aw_aastv {i l v q : Nat} {j : Int} (hkc : ab_KC 4 RX4 TX4 5) (hd : decode Y.2.1 pc = .ok (.aastore, 1)) (hi : 1 ≤ i ∧ i ≤ n) (hk : ab_sh i = (24, l)) (h0 : 0 ≤ j) (hl9 : j < l) (hz : l < 1000000) (hv : 1 ≤ v ∧ v ≤ n) (hvk : (ab_sh v).1 = 4) (hq : j.toNat = q) (kk : aW G Y R Z kc ks (n, I, ab_w F i q v) (pc + 1) ls st) : aW G Y R Z kc ks (n, I, F) pc ls (ab_r v :: ab_i j :: ab_r i :: st) :=
  aw_aast hkc hd hi hk h0 hl9 hz hv hvk (by rw [hq]; exact kk)
/-- the same point, another name for the heap -/
theorem aw_hp {h' : ab_H} (e : h = h') (k : aW G Y R Z kc ks h' pc ls st) : aW G Y R Z kc ks h pc ls st := e ▸ k
theorem aw_st {st' : List ab_V} (e : st = st') (k : aW G Y R Z kc ks h pc ls st') : aW G Y R Z kc ks h pc ls st := e ▸ k
theorem aw_ls {ls' : List (Option ab_V)} (e : ls = ls') (k : aW G Y R Z kc ks h pc ls' st) : aW G Y R Z kc ks h pc ls st := e ▸ k
end AX
theorem sh_w {s : Nat} (h : s < 4) : ab_sh (4 + s) = (20, 4) := by
  match s, h with
  | 0, _ => rfl
  | 1, _ => rfl
  | 2, _ => rfl
  | 3, _ => rfl
theorem ab_FB.w {F : Nat → Nat → Nat} (hF : ab_FB F) {s : Nat} (h : s < 4) : F 3 s = 4 + s := by
  match s, h with
  | 0, _ => exact hF.at 3 0 4 rfl rfl rfl
  | 1, _ => exact hF.at 3 1 5 rfl rfl rfl
  | 2, _ => exact hF.at 3 2 6 rfl rfl rfl
  | 3, _ => exact hF.at 3 3 7 rfl rfl rfl
theorem sh_t23 {s : Nat} (h : s < 6) : ab_sh (26 + s) = (20, 4) := by
  match s, h with
  | 0, _ => rfl
  | 1, _ => rfl
  | 2, _ => rfl
  | 3, _ => rfl
  | 4, _ => rfl
  | 5, _ => rfl
theorem ab_FB.t23 {F : Nat → Nat → Nat} (hF : ab_FB F) {s : Nat} (h : s < 6) : F 25 s = 26 + s := by
  match s, h with
  | 0, _ => exact hF.at 25 0 26 rfl rfl rfl
  | 1, _ => exact hF.at 25 1 27 rfl rfl rfl
  | 2, _ => exact hF.at 25 2 28 rfl rfl rfl
  | 3, _ => exact hF.at 25 3 29 rfl rfl rfl
  | 4, _ => exact hF.at 25 4 30 rfl rfl rfl
  | 5, _ => exact hF.at 25 5 31 rfl rfl rfl
theorem sh_t44 {s : Nat} (h : s < 6) : ab_sh (47 + s) = (20, 4) := by
  match s, h with
  | 0, _ => rfl
  | 1, _ => rfl
  | 2, _ => rfl
  | 3, _ => rfl
  | 4, _ => rfl
  | 5, _ => rfl
theorem ab_FB.t44 {F : Nat → Nat → Nat} (hF : ab_FB F) {s : Nat} (h : s < 6) : F 46 s = 47 + s := by
  match s, h with
  | 0, _ => exact hF.at 46 0 47 rfl rfl rfl
  | 1, _ => exact hF.at 46 1 48 rfl rfl rfl
  | 2, _ => exact hF.at 46 2 49 rfl rfl rfl
  | 3, _ => exact hF.at 46 3 50 rfl rfl rfl
  | 4, _ => exact hF.at 46 4 51 rfl rfl rfl
  | 5, _ => exact hF.at 46 5 52 rfl rfl rfl
theorem sh_like {s : Nat} (h : s < 4) : ab_sh (68 + s) = (20, 5) := by
  match s, h with
  | 0, _ => rfl
  | 1, _ => rfl
  | 2, _ => rfl
  | 3, _ => rfl
theorem ab_FB.like {F : Nat → Nat → Nat} (hF : ab_FB F) {s : Nat} (h : s < 4) : F 67 s = 68 + s := by
  match s, h with
  | 0, _ => exact hF.at 67 0 68 rfl rfl rfl
  | 1, _ => exact hF.at 67 1 69 rfl rfl rfl
  | 2, _ => exact hF.at 67 2 70 rfl rfl rfl
  | 3, _ => exact hF.at 67 3 71 rfl rfl rfl
theorem sh_p23 {p : Nat} (h : 32 ≤ p ∧ p ≤ 43) : (ab_sh p).1 = 4 := by
  obtain ⟨k, rfl⟩ := Nat.exists_eq_add_of_le h.1
  have hk : k < 12 := by omega
  match k, hk with
  | 0, _ => rfl
  | 1, _ => rfl
  | 2, _ => rfl
  | 3, _ => rfl
  | 4, _ => rfl
  | 5, _ => rfl
  | 6, _ => rfl
  | 7, _ => rfl
  | 8, _ => rfl
  | 9, _ => rfl
  | 10, _ => rfl
  | 11, _ => rfl
theorem sh_p44 {p : Nat} (h : 53 ≤ p ∧ p ≤ 64) : (ab_sh p).1 = 4 := by
  obtain ⟨k, rfl⟩ := Nat.exists_eq_add_of_le h.1
  have hk : k < 12 := by omega
  match k, hk with
  | 0, _ => rfl
  | 1, _ => rfl
  | 2, _ => rfl
  | 3, _ => rfl
  | 4, _ => rfl
  | 5, _ => rfl
  | 6, _ => rfl
  | 7, _ => rfl
  | 8, _ => rfl
  | 9, _ => rfl
  | 10, _ => rfl
  | 11, _ => rfl
end
section
theorem ab_rem_n {x y : Int} (h0 : 0 ≤ x) (h1 : x < 2147483648) (h2 : 0 < y) (h3 : y < 2147483648) : ab_rem x y = x % y := by
  obtain ⟨a, rfl⟩ := Int.eq_ofNat_of_zero_le h0
  obtain ⟨b, rfl⟩ := Int.eq_ofNat_of_zero_le (Int.le_of_lt h2)
  unfold ab_rem
  rw [Int32.ofInt_eq_ofNat, Int32.ofInt_eq_ofNat]
  have := pk_rem (a := a) (d := b) (by omega) (by omega) (by omega)
  unfold nI at this
  rw [this]
  have h4 : a % b < b := Nat.mod_lt _ (by omega)
  rw [← Int32.ofInt_eq_ofNat, ab_to ⟨by omega, by omega⟩]
  exact Int.natCast_emod a b
theorem ab_div_n {x y : Int} (h0 : 0 ≤ x) (h1 : x < 2147483648) (h2 : 0 < y) (h3 : y < 2147483648) : ab_div x y = x / y := by
  obtain ⟨a, rfl⟩ := Int.eq_ofNat_of_zero_le h0
  obtain ⟨b, rfl⟩ := Int.eq_ofNat_of_zero_le (Int.le_of_lt h2)
  unfold ab_div
  rw [Int32.ofInt_eq_ofNat, Int32.ofInt_eq_ofNat]
  have := pk_div (a := a) (d := b) (by omega) (by omega) (by omega)
  unfold nI at this
  rw [this]
  have h4 : a / b ≤ a := Nat.div_le_self _ _
  have h5 : (0 : Int) ≤ ((a / b : Nat) : Int) := Int.natCast_nonneg _
  rw [← Int32.ofInt_eq_ofNat, ab_to ⟨by omega, by omega⟩]
  exact Int.natCast_ediv a b
/-- does a person take: way, bar, fall, the house's worth, how long it waited -/
def rl_takes (w b f v t : Int) : Int := if w = 1 then (if b ≤ v then 1 else 0) else if w = 2 then (if b - f * t ≤ v then 1 else 0) else 1
set_option maxHeartbeats 4000000 in
set_option maxRecDepth 100000 in
theorem ct_X11_within (G : ab_G) (h0 : ab_H) (v least most : Int) (hv : ab_In v) (hl : ab_In least) (hm : ab_In most) : Ct G 0 0 0 YX11_within [ab_i v, ab_i least, ab_i most] h0 (fun r h => r = some (ab_i (if least ≤ v ∧ v ≤ most then 1 else 0)) ∧ h = h0) := by
  refine Ct.ofW kX11_within (ls := [some (ab_i v), some (ab_i least), some (ab_i most)]) (Nat.le_of_ble_eq_true rfl) rfl ?_
  refine aw_iload_n dX11_within_0 rfl ?_
  refine aw_iload_n dX11_within_1 rfl ?_
  refine aw_icmp_lt (tgt := 14) dX11_within_2 rfl (by assumption) (by assumption) (fun c_2 => ?_) (fun c_2 => ?_)
  · refine aw_iconst dX11_within_14 ?_
    refine aw_breturn dX11_within_15 rfl (by omega) ?_
    exact ⟨by first | rw [if_pos (by omega)] | rw [if_neg (by omega)], rfl⟩
  · refine aw_iload_n dX11_within_5 rfl ?_
    refine aw_iload_n dX11_within_6 rfl ?_
    refine aw_icmp_gt (tgt := 14) dX11_within_7 rfl (by assumption) (by assumption) (fun c_7 => ?_) (fun c_7 => ?_)
    · refine aw_iconst dX11_within_14 ?_
      refine aw_breturn dX11_within_15 rfl (by omega) ?_
      exact ⟨by first | rw [if_pos (by omega)] | rw [if_neg (by omega)], rfl⟩
    · refine aw_iconst dX11_within_10 ?_
      refine aw_goto (tgt := 15) dX11_within_11 rfl ?_
      refine aw_breturn dX11_within_15 rfl (by omega) ?_
      exact ⟨by first | rw [if_pos (by omega)] | rw [if_neg (by omega)], rfl⟩
set_option maxHeartbeats 4000000 in
set_option maxRecDepth 100000 in
theorem ct_X12_in (G : ab_G) (h0 : ab_H) (v least most : Int) (hv : ab_In v) (hl : ab_In least) (hm : ab_In most) : Ct G 0 0 0 YX12_in [ab_i v, ab_i least, ab_i most] h0 (fun r h => r = some (ab_i (if least ≤ v ∧ v ≤ most then 1 else 0)) ∧ h = h0) := by
  refine Ct.ofW kX12_in (ls := [some (ab_i v), some (ab_i least), some (ab_i most)]) (Nat.le_of_ble_eq_true rfl) rfl ?_
  refine aw_iload_n dX12_in_0 rfl ?_
  refine aw_iload_n dX12_in_1 rfl ?_
  refine aw_icmp_lt (tgt := 14) dX12_in_2 rfl (by assumption) (by assumption) (fun c_2 => ?_) (fun c_2 => ?_)
  · refine aw_iconst dX12_in_14 ?_
    refine aw_breturn dX12_in_15 rfl (by omega) ?_
    exact ⟨by first | rw [if_pos (by omega)] | rw [if_neg (by omega)], rfl⟩
  · refine aw_iload_n dX12_in_5 rfl ?_
    refine aw_iload_n dX12_in_6 rfl ?_
    refine aw_icmp_gt (tgt := 14) dX12_in_7 rfl (by assumption) (by assumption) (fun c_7 => ?_) (fun c_7 => ?_)
    · refine aw_iconst dX12_in_14 ?_
      refine aw_breturn dX12_in_15 rfl (by omega) ?_
      exact ⟨by first | rw [if_pos (by omega)] | rw [if_neg (by omega)], rfl⟩
    · refine aw_iconst dX12_in_10 ?_
      refine aw_goto (tgt := 15) dX12_in_11 rfl ?_
      refine aw_breturn dX12_in_15 rfl (by omega) ?_
      exact ⟨by first | rw [if_pos (by omega)] | rw [if_neg (by omega)], rfl⟩
set_option maxHeartbeats 4000000 in
set_option maxRecDepth 100000 in
theorem ct_X11_isSort (G : ab_G) (h0 : ab_H) (v : Int) (hv : ab_In v) : Ct G 1 0 0 YX11_isSort [ab_i v] h0 (fun r h => r = some (ab_i (if 0 ≤ v ∧ v ≤ 3 then 1 else 0)) ∧ h = h0) := by
  refine Ct.ofW kX11_isSort (ls := [some (ab_i v)]) (Nat.le_of_ble_eq_true rfl) rfl ?_
  refine aw_iload_n dX11_isSort_0 rfl ?_
  refine aw_iconst dX11_isSort_1 ?_
  refine aw_iconst dX11_isSort_2 ?_
  refine aw_callS (as := [ab_i v, ab_i 0, ab_i 3]) (rest := []) dX11_isSort_3 (ct_X11_within G h0 v 0 3 hv (by unfold ab_In; omega) (by unfold ab_In; omega)) kX11_within sX11_within lX11_89 rfl (Nat.le_of_ble_eq_true rfl) (by decide) (by decide) (by decide) (by decide) ?_
  rintro _ _ ⟨rfl, rfl⟩
  refine aw_breturn dX11_isSort_6 rfl (by split <;> simp) ?_
  exact ⟨rfl, rfl⟩
set_option maxHeartbeats 4000000 in
set_option maxRecDepth 100000 in
theorem ct_X11_isKind (G : ab_G) (h0 : ab_H) (v : Int) (hv : ab_In v) : Ct G 1 0 0 YX11_isKind [ab_i v] h0 (fun r h => r = some (ab_i (if 0 ≤ v ∧ v ≤ 3 then 1 else 0)) ∧ h = h0) := by
  refine Ct.ofW kX11_isKind (ls := [some (ab_i v)]) (Nat.le_of_ble_eq_true rfl) rfl ?_
  refine aw_iload_n dX11_isKind_0 rfl ?_
  refine aw_iconst dX11_isKind_1 ?_
  refine aw_iconst dX11_isKind_2 ?_
  refine aw_callS (as := [ab_i v, ab_i 0, ab_i 3]) (rest := []) dX11_isKind_3 (ct_X11_within G h0 v 0 3 hv (by unfold ab_In; omega) (by unfold ab_In; omega)) kX11_within sX11_within lX11_89 rfl (Nat.le_of_ble_eq_true rfl) (by decide) (by decide) (by decide) (by decide) ?_
  rintro _ _ ⟨rfl, rfl⟩
  refine aw_breturn dX11_isKind_6 rfl (by split <;> simp) ?_
  exact ⟨rfl, rfl⟩
set_option maxHeartbeats 4000000 in
set_option maxRecDepth 100000 in
theorem ct_X12_isFour (G : ab_G) (h0 : ab_H) (v : Int) (hv : ab_In v) : Ct G 1 0 0 YX12_isFour [ab_i v] h0 (fun r h => r = some (ab_i (if 0 ≤ v ∧ v ≤ 3 then 1 else 0)) ∧ h = h0) := by
  refine Ct.ofW kX12_isFour (ls := [some (ab_i v)]) (Nat.le_of_ble_eq_true rfl) rfl ?_
  refine aw_iload_n dX12_isFour_0 rfl ?_
  refine aw_iconst dX12_isFour_1 ?_
  refine aw_iconst dX12_isFour_2 ?_
  refine aw_callS (as := [ab_i v, ab_i 0, ab_i 3]) (rest := []) dX12_isFour_3 (ct_X12_in G h0 v 0 3 hv (by unfold ab_In; omega) (by unfold ab_In; omega)) kX12_in sX12_in lX12_75 rfl (Nat.le_of_ble_eq_true rfl) (by decide) (by decide) (by decide) (by decide) ?_
  rintro _ _ ⟨rfl, rfl⟩
  refine aw_breturn dX12_isFour_6 rfl (by split <;> simp) ?_
  exact ⟨rfl, rfl⟩
set_option maxHeartbeats 4000000 in
set_option maxRecDepth 100000 in
theorem ct_X6_isFull_9 (G : ab_G) (I : Nat → Nat → Int) (F : Nat → Nat → Nat) (hs : ab_In (I 9 1)) : Ct G 0 0 0 YX6_isFull [ab_r 9] (104, I, F) (fun r h => r = some (ab_i (if 24 ≤ I 9 1 then 1 else 0)) ∧ h = (104, I, F)) := by
  refine Ct.ofW kX6_isFull (ls := [some (ab_r 9)]) (Nat.le_of_ble_eq_true rfl) rfl ?_
  refine aw_aload_n dX6_isFull_0 rfl (by decide) ?_
  refine aw_geti dX6_isFull_1 fX6_15 ⟨Nat.le_of_ble_eq_true rfl, Nat.le_of_ble_eq_true rfl⟩ rfl rfl ?_
  refine aw_bipush dX6_isFull_4 rfl ?_
  refine aw_icmp_lt (tgt := 13) dX6_isFull_6 rfl (by first | assumption | (unfold ab_In at *; omega)) (by first | assumption | (unfold ab_In at *; omega)) (fun c_6 => ?_) (fun c_6 => ?_)
  · refine aw_iconst dX6_isFull_13 ?_
    refine aw_breturn dX6_isFull_14 rfl (by omega) ?_
    exact ⟨by first | rw [if_pos (by omega)] | rw [if_neg (by omega)], rfl⟩
  · refine aw_iconst dX6_isFull_9 ?_
    refine aw_goto (tgt := 14) dX6_isFull_10 rfl ?_
    refine aw_breturn dX6_isFull_14 rfl (by omega) ?_
    exact ⟨by first | rw [if_pos (by omega)] | rw [if_neg (by omega)], rfl⟩
set_option maxHeartbeats 4000000 in
set_option maxRecDepth 100000 in
theorem ct_X6_inWeek_9 (G : ab_G) (I : Nat → Nat → Int) (F : Nat → Nat → Nat) (hF : ab_FB F) (week : Int) (h0 : 0 ≤ I 9 1) (h1 : I 9 1 ≤ 24) (hw0 : 0 ≤ week) (hw1 : week < 1000000) : Ct G 0 0 0 YX6_inWeek [ab_r 9, ab_i week] (104, I, F) (fun r h => r = some (ab_i (if I 9 1 = 0 then -1 else I 10 (week % I 9 1).toNat)) ∧ h = (104, I, F)) := by
  refine Ct.ofW kX6_inWeek (ls := [some (ab_r 9), some (ab_i week)]) (Nat.le_of_ble_eq_true rfl) rfl ?_
  refine aw_aload_n dX6_inWeek_0 rfl (by decide) ?_
  refine aw_geti dX6_inWeek_1 fX6_15 ⟨Nat.le_of_ble_eq_true rfl, Nat.le_of_ble_eq_true rfl⟩ rfl rfl ?_
  refine aw_if_ne (tgt := 11) dX6_inWeek_4 rfl (by first | assumption | (unfold ab_In at *; omega)) (fun c_4 => ?_) (fun c_4 => ?_)
  · refine aw_aload_n dX6_inWeek_11 rfl (by decide) ?_
    refine aw_getrv (r := 10) dX6_inWeek_12 fX6_9 ⟨Nat.le_of_ble_eq_true rfl, Nat.le_of_ble_eq_true rfl⟩ rfl rfl (hF.at 9 0 10 rfl rfl rfl) ?_
    refine aw_iload_n dX6_inWeek_15 rfl ?_
    refine aw_aload_n dX6_inWeek_16 rfl (by decide) ?_
    refine aw_geti dX6_inWeek_17 fX6_15 ⟨Nat.le_of_ble_eq_true rfl, Nat.le_of_ble_eq_true rfl⟩ rfl rfl ?_
    refine aw_irem dX6_inWeek_20 (by first | assumption | (unfold ab_In at *; omega)) (by omega) ?_
    refine aw_iald dX6_inWeek_21 ⟨Nat.le_of_ble_eq_true rfl, Nat.le_of_ble_eq_true rfl⟩ rfl (by rw [ab_rem_n (by omega) (by omega) (by omega) (by omega)]; exact Int.emod_nonneg _ (by omega)) (by rw [ab_rem_n (by omega) (by omega) (by omega) (by omega)]; have := Int.emod_lt_of_pos week (show 0 < I 9 1 by omega); omega) (by decide) ?_
    refine aw_ireturn dX6_inWeek_22 rfl ?_
    exact ⟨by first | rw [if_pos (by omega)] | rw [if_neg (by omega), ab_rem_n (by omega) (by omega) (by omega) (by omega)], rfl⟩
  · refine aw_iconst dX6_inWeek_7 ?_
    refine aw_goto (tgt := 22) dX6_inWeek_8 rfl ?_
    refine aw_ireturn dX6_inWeek_22 rfl ?_
    exact ⟨by first | rw [if_pos (by omega)] | rw [if_neg (by omega), ab_rem_n (by omega) (by omega) (by omega) (by omega)], rfl⟩
set_option maxHeartbeats 4000000 in
set_option maxRecDepth 100000 in
theorem ct_X6_add_9 (G : ab_G) (I : Nat → Nat → Int) (F : Nat → Nat → Nat) (hF : ab_FB F) (v : Int) (h0 : 0 ≤ I 9 1) (h1 : I 9 1 < 24) : Ct G 1 0 0 YX6_add [ab_r 9, ab_i v] (104, I, F) (fun r h => r = some (ab_i (I 9 1 + 1)) ∧ h = (104, ab_u (ab_u I 10 (I 9 1).toNat v) 9 1 (I 9 1 + 1), F)) := by
  refine Ct.ofW kX6_add (ls := [some (ab_r 9), some (ab_i v)]) (Nat.le_of_ble_eq_true rfl) rfl ?_
  refine aw_aload_n dX6_add_0 rfl (by decide) ?_
  refine aw_callV (as := []) (rest := []) dX6_add_1 (ct_X6_isFull_9 G I F (by unfold ab_In; omega)) ⟨Nat.le_of_ble_eq_true rfl, Nat.le_of_ble_eq_true rfl⟩ rfl kc6 rfl kX6_isFull iX6_isFull eX6_isFull lX6_19 rfl (Nat.le_of_ble_eq_true rfl) (by decide) (by decide) (by decide) (by decide) ?_
  rintro _ _ ⟨rfl, rfl⟩
  refine aw_if_ne (tgt := 27) dX6_add_4 rfl (by split <;> (unfold ab_In; omega)) (fun c_4 => ?_) (fun c_4 => ?_)
  · rw [if_neg (by omega)] at c_4; exact absurd rfl c_4
  · refine aw_aload_n dX6_add_7 rfl (by decide) ?_
    refine aw_getrv (r := 10) dX6_add_8 fX6_9 ⟨Nat.le_of_ble_eq_true rfl, Nat.le_of_ble_eq_true rfl⟩ rfl rfl (hF.at 9 0 10 rfl rfl rfl) ?_
    refine aw_aload_n dX6_add_11 rfl (by decide) ?_
    refine aw_geti dX6_add_12 fX6_15 ⟨Nat.le_of_ble_eq_true rfl, Nat.le_of_ble_eq_true rfl⟩ rfl rfl ?_
    refine aw_iload_n dX6_add_15 rfl ?_
    refine aw_iastv (q := (I 9 1).toNat) dX6_add_16 ⟨Nat.le_of_ble_eq_true rfl, Nat.le_of_ble_eq_true rfl⟩ rfl (by omega) (by omega) (by decide) rfl ?_
    refine aw_aload_n dX6_add_17 rfl (by decide) ?_
    refine aw_dup dX6_add_18 rfl ?_
    refine aw_getiv (v := I 9 1) dX6_add_19 fX6_15 ⟨Nat.le_of_ble_eq_true rfl, Nat.le_of_ble_eq_true rfl⟩ rfl rfl (ab_u_i (by decide)) ?_
    refine aw_iconst dX6_add_22 ?_
    refine aw_iadd dX6_add_23 ?_
    refine aw_puti dX6_add_24 fX6_15 ⟨Nat.le_of_ble_eq_true rfl, Nat.le_of_ble_eq_true rfl⟩ rfl rfl ?_
    refine aw_aload_n dX6_add_27 rfl (by decide) ?_
    refine aw_getiv (v := ((I 9 1) + 1)) dX6_add_28 fX6_15 ⟨Nat.le_of_ble_eq_true rfl, Nat.le_of_ble_eq_true rfl⟩ rfl rfl ab_u_s ?_
    refine aw_ireturn dX6_add_31 rfl ?_
    exact ⟨rfl, rfl⟩
set_option maxHeartbeats 4000000 in
set_option maxRecDepth 100000 in
theorem ct_X6_isFull_11 (G : ab_G) (I : Nat → Nat → Int) (F : Nat → Nat → Nat) (hs : ab_In (I 11 1)) : Ct G 0 0 0 YX6_isFull [ab_r 11] (104, I, F) (fun r h => r = some (ab_i (if 24 ≤ I 11 1 then 1 else 0)) ∧ h = (104, I, F)) := by
  refine Ct.ofW kX6_isFull (ls := [some (ab_r 11)]) (Nat.le_of_ble_eq_true rfl) rfl ?_
  refine aw_aload_n dX6_isFull_0 rfl (by decide) ?_
  refine aw_geti dX6_isFull_1 fX6_15 ⟨Nat.le_of_ble_eq_true rfl, Nat.le_of_ble_eq_true rfl⟩ rfl rfl ?_
  refine aw_bipush dX6_isFull_4 rfl ?_
  refine aw_icmp_lt (tgt := 13) dX6_isFull_6 rfl (by first | assumption | (unfold ab_In at *; omega)) (by first | assumption | (unfold ab_In at *; omega)) (fun c_6 => ?_) (fun c_6 => ?_)
  · refine aw_iconst dX6_isFull_13 ?_
    refine aw_breturn dX6_isFull_14 rfl (by omega) ?_
    exact ⟨by first | rw [if_pos (by omega)] | rw [if_neg (by omega)], rfl⟩
  · refine aw_iconst dX6_isFull_9 ?_
    refine aw_goto (tgt := 14) dX6_isFull_10 rfl ?_
    refine aw_breturn dX6_isFull_14 rfl (by omega) ?_
    exact ⟨by first | rw [if_pos (by omega)] | rw [if_neg (by omega)], rfl⟩
set_option maxHeartbeats 4000000 in
set_option maxRecDepth 100000 in
theorem ct_X6_inWeek_11 (G : ab_G) (I : Nat → Nat → Int) (F : Nat → Nat → Nat) (hF : ab_FB F) (week : Int) (h0 : 0 ≤ I 11 1) (h1 : I 11 1 ≤ 24) (hw0 : 0 ≤ week) (hw1 : week < 1000000) : Ct G 0 0 0 YX6_inWeek [ab_r 11, ab_i week] (104, I, F) (fun r h => r = some (ab_i (if I 11 1 = 0 then -1 else I 12 (week % I 11 1).toNat)) ∧ h = (104, I, F)) := by
  refine Ct.ofW kX6_inWeek (ls := [some (ab_r 11), some (ab_i week)]) (Nat.le_of_ble_eq_true rfl) rfl ?_
  refine aw_aload_n dX6_inWeek_0 rfl (by decide) ?_
  refine aw_geti dX6_inWeek_1 fX6_15 ⟨Nat.le_of_ble_eq_true rfl, Nat.le_of_ble_eq_true rfl⟩ rfl rfl ?_
  refine aw_if_ne (tgt := 11) dX6_inWeek_4 rfl (by first | assumption | (unfold ab_In at *; omega)) (fun c_4 => ?_) (fun c_4 => ?_)
  · refine aw_aload_n dX6_inWeek_11 rfl (by decide) ?_
    refine aw_getrv (r := 12) dX6_inWeek_12 fX6_9 ⟨Nat.le_of_ble_eq_true rfl, Nat.le_of_ble_eq_true rfl⟩ rfl rfl (hF.at 11 0 12 rfl rfl rfl) ?_
    refine aw_iload_n dX6_inWeek_15 rfl ?_
    refine aw_aload_n dX6_inWeek_16 rfl (by decide) ?_
    refine aw_geti dX6_inWeek_17 fX6_15 ⟨Nat.le_of_ble_eq_true rfl, Nat.le_of_ble_eq_true rfl⟩ rfl rfl ?_
    refine aw_irem dX6_inWeek_20 (by first | assumption | (unfold ab_In at *; omega)) (by omega) ?_
    refine aw_iald dX6_inWeek_21 ⟨Nat.le_of_ble_eq_true rfl, Nat.le_of_ble_eq_true rfl⟩ rfl (by rw [ab_rem_n (by omega) (by omega) (by omega) (by omega)]; exact Int.emod_nonneg _ (by omega)) (by rw [ab_rem_n (by omega) (by omega) (by omega) (by omega)]; have := Int.emod_lt_of_pos week (show 0 < I 11 1 by omega); omega) (by decide) ?_
    refine aw_ireturn dX6_inWeek_22 rfl ?_
    exact ⟨by first | rw [if_pos (by omega)] | rw [if_neg (by omega), ab_rem_n (by omega) (by omega) (by omega) (by omega)], rfl⟩
  · refine aw_iconst dX6_inWeek_7 ?_
    refine aw_goto (tgt := 22) dX6_inWeek_8 rfl ?_
    refine aw_ireturn dX6_inWeek_22 rfl ?_
    exact ⟨by first | rw [if_pos (by omega)] | rw [if_neg (by omega), ab_rem_n (by omega) (by omega) (by omega) (by omega)], rfl⟩
set_option maxHeartbeats 4000000 in
set_option maxRecDepth 100000 in
theorem ct_X6_add_11 (G : ab_G) (I : Nat → Nat → Int) (F : Nat → Nat → Nat) (hF : ab_FB F) (v : Int) (h0 : 0 ≤ I 11 1) (h1 : I 11 1 < 24) : Ct G 1 0 0 YX6_add [ab_r 11, ab_i v] (104, I, F) (fun r h => r = some (ab_i (I 11 1 + 1)) ∧ h = (104, ab_u (ab_u I 12 (I 11 1).toNat v) 11 1 (I 11 1 + 1), F)) := by
  refine Ct.ofW kX6_add (ls := [some (ab_r 11), some (ab_i v)]) (Nat.le_of_ble_eq_true rfl) rfl ?_
  refine aw_aload_n dX6_add_0 rfl (by decide) ?_
  refine aw_callV (as := []) (rest := []) dX6_add_1 (ct_X6_isFull_11 G I F (by unfold ab_In; omega)) ⟨Nat.le_of_ble_eq_true rfl, Nat.le_of_ble_eq_true rfl⟩ rfl kc6 rfl kX6_isFull iX6_isFull eX6_isFull lX6_19 rfl (Nat.le_of_ble_eq_true rfl) (by decide) (by decide) (by decide) (by decide) ?_
  rintro _ _ ⟨rfl, rfl⟩
  refine aw_if_ne (tgt := 27) dX6_add_4 rfl (by split <;> (unfold ab_In; omega)) (fun c_4 => ?_) (fun c_4 => ?_)
  · rw [if_neg (by omega)] at c_4; exact absurd rfl c_4
  · refine aw_aload_n dX6_add_7 rfl (by decide) ?_
    refine aw_getrv (r := 12) dX6_add_8 fX6_9 ⟨Nat.le_of_ble_eq_true rfl, Nat.le_of_ble_eq_true rfl⟩ rfl rfl (hF.at 11 0 12 rfl rfl rfl) ?_
    refine aw_aload_n dX6_add_11 rfl (by decide) ?_
    refine aw_geti dX6_add_12 fX6_15 ⟨Nat.le_of_ble_eq_true rfl, Nat.le_of_ble_eq_true rfl⟩ rfl rfl ?_
    refine aw_iload_n dX6_add_15 rfl ?_
    refine aw_iastv (q := (I 11 1).toNat) dX6_add_16 ⟨Nat.le_of_ble_eq_true rfl, Nat.le_of_ble_eq_true rfl⟩ rfl (by omega) (by omega) (by decide) rfl ?_
    refine aw_aload_n dX6_add_17 rfl (by decide) ?_
    refine aw_dup dX6_add_18 rfl ?_
    refine aw_getiv (v := I 11 1) dX6_add_19 fX6_15 ⟨Nat.le_of_ble_eq_true rfl, Nat.le_of_ble_eq_true rfl⟩ rfl rfl (ab_u_i (by decide)) ?_
    refine aw_iconst dX6_add_22 ?_
    refine aw_iadd dX6_add_23 ?_
    refine aw_puti dX6_add_24 fX6_15 ⟨Nat.le_of_ble_eq_true rfl, Nat.le_of_ble_eq_true rfl⟩ rfl rfl ?_
    refine aw_aload_n dX6_add_27 rfl (by decide) ?_
    refine aw_getiv (v := ((I 11 1) + 1)) dX6_add_28 fX6_15 ⟨Nat.le_of_ble_eq_true rfl, Nat.le_of_ble_eq_true rfl⟩ rfl rfl ab_u_s ?_
    refine aw_ireturn dX6_add_31 rfl ?_
    exact ⟨rfl, rfl⟩
set_option maxHeartbeats 4000000 in
set_option maxRecDepth 100000 in
theorem ct_X7_setWay_13 (G : ab_G) (I : Nat → Nat → Int) (F : Nat → Nat → Nat) (hF : ab_FB F) (s : Nat) (a b c : Int) (hs : s < 4) : Ct G 0 0 0 YX7_setWay [ab_r 13, ab_i (s : Int), ab_i a, ab_i b, ab_i c] (104, I, F) (fun r h => r = none ∧ h = (104, ab_u (ab_u (ab_u I 14 s a) 15 s b) 16 s c, F)) := by
  refine Ct.ofW kX7_setWay (ls := [some (ab_r 13), some (ab_i (s : Int)), some (ab_i a), some (ab_i b), some (ab_i c)]) (Nat.le_of_ble_eq_true rfl) rfl ?_
  refine aw_aload_n dX7_setWay_0 rfl (by decide) ?_
  refine aw_getrv (r := 14) dX7_setWay_1 fX7_9 ⟨Nat.le_of_ble_eq_true rfl, Nat.le_of_ble_eq_true rfl⟩ rfl rfl (hF.at 13 4 14 rfl rfl rfl) ?_
  refine aw_iload_n dX7_setWay_4 rfl ?_
  refine aw_iload_n dX7_setWay_5 rfl ?_
  refine aw_iastv (q := s) dX7_setWay_6 ⟨Nat.le_of_ble_eq_true rfl, Nat.le_of_ble_eq_true rfl⟩ rfl (by omega) (by omega) (by decide) rfl ?_
  refine aw_aload_n dX7_setWay_7 rfl (by decide) ?_
  refine aw_getrv (r := 15) dX7_setWay_8 fX7_15 ⟨Nat.le_of_ble_eq_true rfl, Nat.le_of_ble_eq_true rfl⟩ rfl rfl (hF.at 13 5 15 rfl rfl rfl) ?_
  refine aw_iload_n dX7_setWay_11 rfl ?_
  refine aw_iload_n dX7_setWay_12 rfl ?_
  refine aw_iastv (q := s) dX7_setWay_13 ⟨Nat.le_of_ble_eq_true rfl, Nat.le_of_ble_eq_true rfl⟩ rfl (by omega) (by omega) (by decide) rfl ?_
  refine aw_aload_n dX7_setWay_14 rfl (by decide) ?_
  refine aw_getrv (r := 16) dX7_setWay_15 fX7_18 ⟨Nat.le_of_ble_eq_true rfl, Nat.le_of_ble_eq_true rfl⟩ rfl rfl (hF.at 13 6 16 rfl rfl rfl) ?_
  refine aw_iload_n dX7_setWay_18 rfl ?_
  refine aw_iload dX7_setWay_19 rfl ?_
  refine aw_iastv (q := s) dX7_setWay_21 ⟨Nat.le_of_ble_eq_true rfl, Nat.le_of_ble_eq_true rfl⟩ rfl (by omega) (by omega) (by decide) rfl ?_
  refine aw_return dX7_setWay_22 rfl ?_
  exact ⟨rfl, rfl⟩
set_option maxHeartbeats 4000000 in
set_option maxRecDepth 100000 in
theorem ct_X7_takes_13 (G : ab_G) (I : Nat → Nat → Int) (F : Nat → Nat → Nat) (hF : ab_FB F) (s : Nat) (v t : Int) (hs : s < 4) (hv : ab_In v) (hb : 0 ≤ I 15 s ∧ I 15 s ≤ 99) (hf : ab_In (I 15 s - I 16 s * t)) (hy : ab_In (I 14 s)) : Ct G 0 0 0 YX7_takes [ab_r 13, ab_i (s : Int), ab_i v, ab_i t] (104, I, F) (fun r h => r = some (ab_i (rl_takes (I 14 s) (I 15 s) (I 16 s) v t)) ∧ h = (104, I, F)) := by
  refine Ct.ofW kX7_takes (ls := [some (ab_r 13), some (ab_i (s : Int)), some (ab_i v), some (ab_i t)]) (Nat.le_of_ble_eq_true rfl) rfl ?_
  refine aw_aload_n dX7_takes_0 rfl (by decide) ?_
  refine aw_getrv (r := 14) dX7_takes_1 fX7_9 ⟨Nat.le_of_ble_eq_true rfl, Nat.le_of_ble_eq_true rfl⟩ rfl rfl (hF.at 13 4 14 rfl rfl rfl) ?_
  refine aw_iload_n dX7_takes_4 rfl ?_
  refine aw_ialdv (v := I 14 s) dX7_takes_5 ⟨Nat.le_of_ble_eq_true rfl, Nat.le_of_ble_eq_true rfl⟩ rfl (by omega) (by omega) (by decide) rfl ?_
  rcases (show (I 14 s) = 1 ∨ (I 14 s) = 2 ∨ (¬ (I 14 s) = 1 ∧ ¬ (I 14 s) = 2) by omega) with c_6 | c_6 | c_6
  · refine aw_look (off := 26) (tgt := 32) dX7_takes_6 rfl (by first | assumption | (unfold ab_In at *; omega)) (by rw [c_6]; rfl) rfl ?_
    refine aw_iload_n dX7_takes_32 rfl ?_
    refine aw_aload_n dX7_takes_33 rfl (by decide) ?_
    refine aw_getrv (r := 15) dX7_takes_34 fX7_15 ⟨Nat.le_of_ble_eq_true rfl, Nat.le_of_ble_eq_true rfl⟩ rfl rfl (hF.at 13 5 15 rfl rfl rfl) ?_
    refine aw_iload_n dX7_takes_37 rfl ?_
    refine aw_ialdv (v := I 15 s) dX7_takes_38 ⟨Nat.le_of_ble_eq_true rfl, Nat.le_of_ble_eq_true rfl⟩ rfl (by omega) (by omega) (by decide) rfl ?_
    refine aw_icmp_lt (tgt := 46) dX7_takes_39 rfl (by first | assumption | (unfold ab_In at *; omega)) (by first | assumption | (unfold ab_In at *; omega)) (fun c_39 => ?_) (fun c_39 => ?_)
    · refine aw_iconst dX7_takes_46 ?_
      refine aw_breturn dX7_takes_47 rfl (by omega) ?_
      refine ⟨?_, rfl⟩
      unfold rl_takes
      (repeat' split) <;> first | rfl | (exfalso; omega)
    · refine aw_iconst dX7_takes_42 ?_
      refine aw_goto (tgt := 47) dX7_takes_43 rfl ?_
      refine aw_breturn dX7_takes_47 rfl (by omega) ?_
      refine ⟨?_, rfl⟩
      unfold rl_takes
      (repeat' split) <;> first | rfl | (exfalso; omega)
  · refine aw_look (off := 42) (tgt := 48) dX7_takes_6 rfl (by first | assumption | (unfold ab_In at *; omega)) (by rw [c_6]; rfl) rfl ?_
    refine aw_iload_n dX7_takes_48 rfl ?_
    refine aw_aload_n dX7_takes_49 rfl (by decide) ?_
    refine aw_getrv (r := 15) dX7_takes_50 fX7_15 ⟨Nat.le_of_ble_eq_true rfl, Nat.le_of_ble_eq_true rfl⟩ rfl rfl (hF.at 13 5 15 rfl rfl rfl) ?_
    refine aw_iload_n dX7_takes_53 rfl ?_
    refine aw_ialdv (v := I 15 s) dX7_takes_54 ⟨Nat.le_of_ble_eq_true rfl, Nat.le_of_ble_eq_true rfl⟩ rfl (by omega) (by omega) (by decide) rfl ?_
    refine aw_aload_n dX7_takes_55 rfl (by decide) ?_
    refine aw_getrv (r := 16) dX7_takes_56 fX7_18 ⟨Nat.le_of_ble_eq_true rfl, Nat.le_of_ble_eq_true rfl⟩ rfl rfl (hF.at 13 6 16 rfl rfl rfl) ?_
    refine aw_iload_n dX7_takes_59 rfl ?_
    refine aw_ialdv (v := I 16 s) dX7_takes_60 ⟨Nat.le_of_ble_eq_true rfl, Nat.le_of_ble_eq_true rfl⟩ rfl (by omega) (by omega) (by decide) rfl ?_
    refine aw_iload_n dX7_takes_61 rfl ?_
    refine aw_imul dX7_takes_62 ?_
    refine aw_isub dX7_takes_63 ?_
    refine aw_icmp_lt (tgt := 71) dX7_takes_64 rfl (by first | assumption | (unfold ab_In at *; omega)) (by first | assumption | (unfold ab_In at *; omega)) (fun c_64 => ?_) (fun c_64 => ?_)
    · refine aw_iconst dX7_takes_71 ?_
      refine aw_breturn dX7_takes_72 rfl (by omega) ?_
      refine ⟨?_, rfl⟩
      unfold rl_takes
      (repeat' split) <;> first | rfl | (exfalso; omega)
    · refine aw_iconst dX7_takes_67 ?_
      refine aw_goto (tgt := 72) dX7_takes_68 rfl ?_
      refine aw_breturn dX7_takes_72 rfl (by omega) ?_
      refine ⟨?_, rfl⟩
      unfold rl_takes
      (repeat' split) <;> first | rfl | (exfalso; omega)
  · refine aw_look (off := 67) (tgt := 73) dX7_takes_6 rfl (by first | assumption | (unfold ab_In at *; omega)) (by simp [Op.lookupswitch.offset]; (repeat' split) <;> first | rfl | omega) rfl ?_
    refine aw_iconst dX7_takes_73 ?_
    refine aw_breturn dX7_takes_74 rfl (by omega) ?_
    refine ⟨?_, rfl⟩
    unfold rl_takes
    (repeat' split) <;> first | rfl | (exfalso; omega)
set_option maxHeartbeats 4000000 in
set_option maxRecDepth 100000 in
theorem ct_X7_setWay_17 (G : ab_G) (I : Nat → Nat → Int) (F : Nat → Nat → Nat) (hF : ab_FB F) (s : Nat) (a b c : Int) (hs : s < 4) : Ct G 0 0 0 YX7_setWay [ab_r 17, ab_i (s : Int), ab_i a, ab_i b, ab_i c] (104, I, F) (fun r h => r = none ∧ h = (104, ab_u (ab_u (ab_u I 18 s a) 19 s b) 20 s c, F)) := by
  refine Ct.ofW kX7_setWay (ls := [some (ab_r 17), some (ab_i (s : Int)), some (ab_i a), some (ab_i b), some (ab_i c)]) (Nat.le_of_ble_eq_true rfl) rfl ?_
  refine aw_aload_n dX7_setWay_0 rfl (by decide) ?_
  refine aw_getrv (r := 18) dX7_setWay_1 fX7_9 ⟨Nat.le_of_ble_eq_true rfl, Nat.le_of_ble_eq_true rfl⟩ rfl rfl (hF.at 17 4 18 rfl rfl rfl) ?_
  refine aw_iload_n dX7_setWay_4 rfl ?_
  refine aw_iload_n dX7_setWay_5 rfl ?_
  refine aw_iastv (q := s) dX7_setWay_6 ⟨Nat.le_of_ble_eq_true rfl, Nat.le_of_ble_eq_true rfl⟩ rfl (by omega) (by omega) (by decide) rfl ?_
  refine aw_aload_n dX7_setWay_7 rfl (by decide) ?_
  refine aw_getrv (r := 19) dX7_setWay_8 fX7_15 ⟨Nat.le_of_ble_eq_true rfl, Nat.le_of_ble_eq_true rfl⟩ rfl rfl (hF.at 17 5 19 rfl rfl rfl) ?_
  refine aw_iload_n dX7_setWay_11 rfl ?_
  refine aw_iload_n dX7_setWay_12 rfl ?_
  refine aw_iastv (q := s) dX7_setWay_13 ⟨Nat.le_of_ble_eq_true rfl, Nat.le_of_ble_eq_true rfl⟩ rfl (by omega) (by omega) (by decide) rfl ?_
  refine aw_aload_n dX7_setWay_14 rfl (by decide) ?_
  refine aw_getrv (r := 20) dX7_setWay_15 fX7_18 ⟨Nat.le_of_ble_eq_true rfl, Nat.le_of_ble_eq_true rfl⟩ rfl rfl (hF.at 17 6 20 rfl rfl rfl) ?_
  refine aw_iload_n dX7_setWay_18 rfl ?_
  refine aw_iload dX7_setWay_19 rfl ?_
  refine aw_iastv (q := s) dX7_setWay_21 ⟨Nat.le_of_ble_eq_true rfl, Nat.le_of_ble_eq_true rfl⟩ rfl (by omega) (by omega) (by decide) rfl ?_
  refine aw_return dX7_setWay_22 rfl ?_
  exact ⟨rfl, rfl⟩
set_option maxHeartbeats 4000000 in
set_option maxRecDepth 100000 in
theorem ct_X7_takes_17 (G : ab_G) (I : Nat → Nat → Int) (F : Nat → Nat → Nat) (hF : ab_FB F) (s : Nat) (v t : Int) (hs : s < 4) (hv : ab_In v) (hb : 0 ≤ I 19 s ∧ I 19 s ≤ 99) (hf : ab_In (I 19 s - I 20 s * t)) (hy : ab_In (I 18 s)) : Ct G 0 0 0 YX7_takes [ab_r 17, ab_i (s : Int), ab_i v, ab_i t] (104, I, F) (fun r h => r = some (ab_i (rl_takes (I 18 s) (I 19 s) (I 20 s) v t)) ∧ h = (104, I, F)) := by
  refine Ct.ofW kX7_takes (ls := [some (ab_r 17), some (ab_i (s : Int)), some (ab_i v), some (ab_i t)]) (Nat.le_of_ble_eq_true rfl) rfl ?_
  refine aw_aload_n dX7_takes_0 rfl (by decide) ?_
  refine aw_getrv (r := 18) dX7_takes_1 fX7_9 ⟨Nat.le_of_ble_eq_true rfl, Nat.le_of_ble_eq_true rfl⟩ rfl rfl (hF.at 17 4 18 rfl rfl rfl) ?_
  refine aw_iload_n dX7_takes_4 rfl ?_
  refine aw_ialdv (v := I 18 s) dX7_takes_5 ⟨Nat.le_of_ble_eq_true rfl, Nat.le_of_ble_eq_true rfl⟩ rfl (by omega) (by omega) (by decide) rfl ?_
  rcases (show (I 18 s) = 1 ∨ (I 18 s) = 2 ∨ (¬ (I 18 s) = 1 ∧ ¬ (I 18 s) = 2) by omega) with c_6 | c_6 | c_6
  · refine aw_look (off := 26) (tgt := 32) dX7_takes_6 rfl (by first | assumption | (unfold ab_In at *; omega)) (by rw [c_6]; rfl) rfl ?_
    refine aw_iload_n dX7_takes_32 rfl ?_
    refine aw_aload_n dX7_takes_33 rfl (by decide) ?_
    refine aw_getrv (r := 19) dX7_takes_34 fX7_15 ⟨Nat.le_of_ble_eq_true rfl, Nat.le_of_ble_eq_true rfl⟩ rfl rfl (hF.at 17 5 19 rfl rfl rfl) ?_
    refine aw_iload_n dX7_takes_37 rfl ?_
    refine aw_ialdv (v := I 19 s) dX7_takes_38 ⟨Nat.le_of_ble_eq_true rfl, Nat.le_of_ble_eq_true rfl⟩ rfl (by omega) (by omega) (by decide) rfl ?_
    refine aw_icmp_lt (tgt := 46) dX7_takes_39 rfl (by first | assumption | (unfold ab_In at *; omega)) (by first | assumption | (unfold ab_In at *; omega)) (fun c_39 => ?_) (fun c_39 => ?_)
    · refine aw_iconst dX7_takes_46 ?_
      refine aw_breturn dX7_takes_47 rfl (by omega) ?_
      refine ⟨?_, rfl⟩
      unfold rl_takes
      (repeat' split) <;> first | rfl | (exfalso; omega)
    · refine aw_iconst dX7_takes_42 ?_
      refine aw_goto (tgt := 47) dX7_takes_43 rfl ?_
      refine aw_breturn dX7_takes_47 rfl (by omega) ?_
      refine ⟨?_, rfl⟩
      unfold rl_takes
      (repeat' split) <;> first | rfl | (exfalso; omega)
  · refine aw_look (off := 42) (tgt := 48) dX7_takes_6 rfl (by first | assumption | (unfold ab_In at *; omega)) (by rw [c_6]; rfl) rfl ?_
    refine aw_iload_n dX7_takes_48 rfl ?_
    refine aw_aload_n dX7_takes_49 rfl (by decide) ?_
    refine aw_getrv (r := 19) dX7_takes_50 fX7_15 ⟨Nat.le_of_ble_eq_true rfl, Nat.le_of_ble_eq_true rfl⟩ rfl rfl (hF.at 17 5 19 rfl rfl rfl) ?_
    refine aw_iload_n dX7_takes_53 rfl ?_
    refine aw_ialdv (v := I 19 s) dX7_takes_54 ⟨Nat.le_of_ble_eq_true rfl, Nat.le_of_ble_eq_true rfl⟩ rfl (by omega) (by omega) (by decide) rfl ?_
    refine aw_aload_n dX7_takes_55 rfl (by decide) ?_
    refine aw_getrv (r := 20) dX7_takes_56 fX7_18 ⟨Nat.le_of_ble_eq_true rfl, Nat.le_of_ble_eq_true rfl⟩ rfl rfl (hF.at 17 6 20 rfl rfl rfl) ?_
    refine aw_iload_n dX7_takes_59 rfl ?_
    refine aw_ialdv (v := I 20 s) dX7_takes_60 ⟨Nat.le_of_ble_eq_true rfl, Nat.le_of_ble_eq_true rfl⟩ rfl (by omega) (by omega) (by decide) rfl ?_
    refine aw_iload_n dX7_takes_61 rfl ?_
    refine aw_imul dX7_takes_62 ?_
    refine aw_isub dX7_takes_63 ?_
    refine aw_icmp_lt (tgt := 71) dX7_takes_64 rfl (by first | assumption | (unfold ab_In at *; omega)) (by first | assumption | (unfold ab_In at *; omega)) (fun c_64 => ?_) (fun c_64 => ?_)
    · refine aw_iconst dX7_takes_71 ?_
      refine aw_breturn dX7_takes_72 rfl (by omega) ?_
      refine ⟨?_, rfl⟩
      unfold rl_takes
      (repeat' split) <;> first | rfl | (exfalso; omega)
    · refine aw_iconst dX7_takes_67 ?_
      refine aw_goto (tgt := 72) dX7_takes_68 rfl ?_
      refine aw_breturn dX7_takes_72 rfl (by omega) ?_
      refine ⟨?_, rfl⟩
      unfold rl_takes
      (repeat' split) <;> first | rfl | (exfalso; omega)
  · refine aw_look (off := 67) (tgt := 73) dX7_takes_6 rfl (by first | assumption | (unfold ab_In at *; omega)) (by simp [Op.lookupswitch.offset]; (repeat' split) <;> first | rfl | omega) rfl ?_
    refine aw_iconst dX7_takes_73 ?_
    refine aw_breturn dX7_takes_74 rfl (by omega) ?_
    refine ⟨?_, rfl⟩
    unfold rl_takes
    (repeat' split) <;> first | rfl | (exfalso; omega)
end
section
abbrev P5 : Type := Int × Int × Int × Int × Int
/-- a person's cell: sort, number, points, noes, waited -/
def tup (I : Nat → Nat → Int) (p : Nat) : P5 := (I p 0, I p 1, I p 2, I p 3, I p 4)
def pt (I : Nat → Nat → Int) (p : Nat) (t : P5) : Nat → Nat → Int := fun a b => if a = p then (if b = 0 then t.1 else if b = 1 then t.2.1 else if b = 2 then t.2.2.1 else if b = 3 then t.2.2.2.1 else if b = 4 then t.2.2.2.2 else I a b) else I a b
theorem pt_u0 (I : Nat → Nat → Int) (p : Nat) (v : Int) : ab_u I p 0 v = pt I p (v, I p 1, I p 2, I p 3, I p 4) := by
  funext a b; unfold ab_u pt; (repeat' split) <;> first | rfl | (exfalso; omega) | (subst_vars; rfl)
theorem pt_u1 (I : Nat → Nat → Int) (p : Nat) (v : Int) : ab_u I p 1 v = pt I p (I p 0, v, I p 2, I p 3, I p 4) := by
  funext a b; unfold ab_u pt; (repeat' split) <;> first | rfl | (exfalso; omega) | (subst_vars; rfl)
theorem pt_u2 (I : Nat → Nat → Int) (p : Nat) (v : Int) : ab_u I p 2 v = pt I p (I p 0, I p 1, v, I p 3, I p 4) := by
  funext a b; unfold ab_u pt; (repeat' split) <;> first | rfl | (exfalso; omega) | (subst_vars; rfl)
theorem pt_u3 (I : Nat → Nat → Int) (p : Nat) (v : Int) : ab_u I p 3 v = pt I p (I p 0, I p 1, I p 2, v, I p 4) := by
  funext a b; unfold ab_u pt; (repeat' split) <;> first | rfl | (exfalso; omega) | (subst_vars; rfl)
theorem pt_u4 (I : Nat → Nat → Int) (p : Nat) (v : Int) : ab_u I p 4 v = pt I p (I p 0, I p 1, I p 2, I p 3, v) := by
  funext a b; unfold ab_u pt; (repeat' split) <;> first | rfl | (exfalso; omega) | (subst_vars; rfl)
theorem pt_pt (I : Nat → Nat → Int) (p : Nat) (t u : P5) : pt (pt I p t) p u = pt I p u := by
  funext a b; unfold pt; (repeat' split) <;> first | rfl | (exfalso; omega)
theorem pt_0 (I : Nat → Nat → Int) (p : Nat) (t : P5) : pt I p t p 0 = t.1 := by simp [pt]
theorem pt_1 (I : Nat → Nat → Int) (p : Nat) (t : P5) : pt I p t p 1 = t.2.1 := by simp [pt]
theorem pt_2 (I : Nat → Nat → Int) (p : Nat) (t : P5) : pt I p t p 2 = t.2.2.1 := by simp [pt]
theorem pt_3 (I : Nat → Nat → Int) (p : Nat) (t : P5) : pt I p t p 3 = t.2.2.2.1 := by simp [pt]
theorem pt_4 (I : Nat → Nat → Int) (p : Nat) (t : P5) : pt I p t p 4 = t.2.2.2.2 := by simp [pt]
theorem pt_ne {I : Nat → Nat → Int} {p a b : Nat} {t : P5} (h : a ≠ p) : pt I p t a b = I a b := by unfold pt; rw [if_neg h]
theorem tup_pt (I : Nat → Nat → Int) (p : Nat) (t : P5) : tup (pt I p t) p = t := by unfold tup; rw [pt_0, pt_1, pt_2, pt_3, pt_4]
theorem tup_ne {I : Nat → Nat → Int} {p q : Nat} {t : P5} (h : q ≠ p) : tup (pt I p t) q = tup I q := by unfold tup; rw [pt_ne h, pt_ne h, pt_ne h, pt_ne h, pt_ne h]
theorem tup_u {I : Nat → Nat → Int} {i j q : Nat} {v : Int} (h : q ≠ i) : tup (ab_u I i j v) q = tup I q := by unfold tup; rw [ab_u_i h, ab_u_i h, ab_u_i h, ab_u_i h, ab_u_i h]
theorem pt_comm {I : Nat → Nat → Int} {p i j : Nat} {t : P5} {v : Int} (h : i ≠ p) : ab_u (pt I p t) i j v = pt (ab_u I i j v) p t := by
  funext a b
  by_cases h1 : a = i
  · subst h1
    by_cases h2 : b = j <;> simp [ab_u, pt, h, h2]
  · have h3 : ¬ p = i := fun e => h e.symm
    by_cases h2 : a = p <;> simp [ab_u, pt, h1, h2, h3]
/-- a row of references, replaced -/
def rw_ (F : Nat → Nat → Nat) (i : Nat) (g : Nat → Nat) : Nat → Nat → Nat := fun a b => if a = i then g b else F a b
theorem rw_s (F : Nat → Nat → Nat) (i : Nat) (g : Nat → Nat) (b : Nat) : rw_ F i g i b = g b := if_pos rfl
theorem rw_n {F : Nat → Nat → Nat} {i a b : Nat} {g : Nat → Nat} (h : a ≠ i) : rw_ F i g a b = F a b := if_neg h
theorem rw_rw (F : Nat → Nat → Nat) (i : Nat) (g g' : Nat → Nat) : rw_ (rw_ F i g) i g' = rw_ F i g' := by
  funext a b; unfold rw_; split <;> rfl
theorem rw_id (F : Nat → Nat → Nat) (i : Nat) : rw_ F i (F i) = F := by
  funext a b; unfold rw_; split
  · rename_i h; rw [h]
  · rfl
theorem rw_w (F : Nat → Nat → Nat) (i k v : Nat) (g : Nat → Nat) : ab_w (rw_ F i g) i k v = rw_ F i (fun j => if j = k then v else g j) := by
  funext a b
  by_cases h1 : a = i <;> by_cases h2 : b = k <;> simp [ab_w, rw_, h1, h2]
theorem ab_FB.rw {F : Nat → Nat → Nat} (h : ab_FB F) (i : Nat) (g : Nat → Nat) (hi : i = 24 ∨ i = 45) : ab_FB (rw_ F i g) := fun a b h1 h2 => by
  rw [rw_n (by omega)]; exact h a b h1 h2
def n4 (f : Nat → Int) : Nat → Int := fun s => if s < 4 then f s else 0
theorem n4_lt {f : Nat → Int} {s : Nat} (h : s < 4) : n4 f s = f s := if_pos h
/-- ahead on the list -/
def ah (ord : Int) (nd : Nat → Int) (a b : P5) : Bool :=
  let m := if ord = 1 then nd a.1.toNat - nd b.1.toNat else if ord = 2 then a.2.2.1 - b.2.2.1 else 0
  decide (0 < m) || (decide (m = 0) && decide (a.2.1 < b.2.1))
theorem ah_iff {ord : Int} {nd : Nat → Int} {a b : P5} : ah ord nd a b = true ↔ (ord = 1 ∧ (nd b.1.toNat < nd a.1.toNat ∨ nd a.1.toNat = nd b.1.toNat ∧ a.2.1 < b.2.1)) ∨ (¬ ord = 1 ∧ ord = 2 ∧ (b.2.2.1 < a.2.2.1 ∨ a.2.2.1 = b.2.2.1 ∧ a.2.1 < b.2.1)) ∨ (¬ ord = 1 ∧ ¬ ord = 2 ∧ a.2.1 < b.2.1) := by
  unfold ah
  by_cases h1 : ord = 1
  · simp only [h1, if_true, Bool.or_eq_true, Bool.and_eq_true, decide_eq_true_eq, true_and, not_true, false_and, or_false]
    omega
  · by_cases h2 : ord = 2
    · subst h2
      simp only [Bool.or_eq_true, Bool.and_eq_true, decide_eq_true_eq, show ¬ ((2 : Int) = 1) by omega, if_false, if_true, false_and, not_false_eq_true, true_and, not_true, or_false, false_or]
      omega
    · simp only [h1, h2, if_false, Bool.or_eq_true, Bool.and_eq_true, decide_eq_true_eq, false_and, not_false_eq_true, true_and, false_or]
      omega
/-- what a person's numbers may be -/
def PB (wk nx : Int) (t : P5) : Prop := (0 ≤ t.1 ∧ t.1 ≤ 3) ∧ (0 ≤ t.2.1 ∧ t.2.1 ≤ nx) ∧ (0 ≤ t.2.2.1 ∧ t.2.2.1 ≤ 99) ∧ (0 ≤ t.2.2.2.1 ∧ t.2.2.2.1 ≤ wk) ∧ (0 ≤ t.2.2.2.2 ∧ t.2.2.2.2 ≤ wk)
theorem PB.mono {wk nx wk' nx' : Int} {t : P5} (h : PB wk nx t) (h1 : wk ≤ wk') (h2 : nx ≤ nx') : PB wk' nx' t := by
  unfold PB at *; omega
/-- the place that one finds among the first p, going back from there -/
def sd_f (R : Nat → Nat → Bool) (f : Nat → Nat) (one : Nat) : Nat → Nat
  | 0 => 0
  | p + 1 => if R one (f p) = true then sd_f R f one p else p + 1
def sd_s (f : Nat → Nat) (p i one : Nat) : Nat → Nat := fun j => if j < p then f j else if j = p then one else if j ≤ i then f (j - 1) else f j
def sd_g (f : Nat → Nat) (p i : Nat) : Nat → Nat := fun j => if j ≤ p then f j else if j ≤ i then f (j - 1) else f j
/-- the list put in order, up to place n -/
def sd (R : Nat → Nat → Bool) (f : Nat → Nat) : Nat → Nat → Nat
  | 0 => f
  | 1 => f
  | n + 2 => sd_s (sd R f (n + 1)) (sd_f R (sd R f (n + 1)) (sd R f (n + 1) (n + 1)) (n + 1)) (n + 1) (sd R f (n + 1) (n + 1))
theorem sd_s_lt {f : Nat → Nat} {p i one j : Nat} (hj : i < j) (hp : p ≤ i) : sd_s f p i one j = f j := by unfold sd_s; rw [if_neg (by omega), if_neg (by omega), if_neg (by omega)]
theorem sd_f_le (R : Nat → Nat → Bool) (f : Nat → Nat) (one : Nat) : ∀ p, sd_f R f one p ≤ p
  | 0 => Nat.le_refl _
  | p + 1 => by
    unfold sd_f; split
    · have := sd_f_le R f one p; omega
    · omega
theorem sd_g_i (f : Nat → Nat) (i : Nat) : sd_g f i i = f := by
  funext j; unfold sd_g; (repeat' split) <;> first | rfl | (exfalso; omega)
theorem sd_g_dn (f : Nat → Nat) {p i : Nat} (hp : p + 1 ≤ i) : (fun j => if j = p + 1 then sd_g f (p + 1) i p else sd_g f (p + 1) i j) = sd_g f p i := by
  funext j; unfold sd_g; (repeat' split) <;> first | rfl | (exfalso; omega) | (congr 1; omega)
theorem sd_g_put (f : Nat → Nat) {p i one : Nat} (hp : p ≤ i) : (fun j => if j = p then one else sd_g f p i j) = sd_s f p i one := by
  funext j; unfold sd_g sd_s; (repeat' split) <;> first | rfl | (exfalso; omega)
/-- a property of all places' references -/
theorem sd_all (R : Nat → Nat → Bool) (P : Nat → Prop) {f : Nat → Nat} (h : ∀ j, j < 12 → P (f j)) : ∀ n, n ≤ 12 → ∀ j, j < 12 → P (sd R f n j)
  | 0, _ => h
  | 1, _ => h
  | n + 2, hn => fun j hj => by
    have ih := sd_all R P h (n + 1) (by omega)
    show P (sd_s _ _ _ _ j)
    unfold sd_s
    (repeat' split)
    · exact ih _ hj
    · exact ih _ (by omega)
    · exact ih _ (by omega)
    · exact ih _ hj
theorem sd_succ (R : Nat → Nat → Bool) (f : Nat → Nat) {k : Nat} (h : 1 ≤ k) : sd R f (k + 1) = sd_s (sd R f k) (sd_f R (sd R f k) (sd R f k k) k) k (sd R f k k) := by
  obtain ⟨k9, rfl⟩ : ∃ k9, k = k9 + 1 := ⟨k - 1, by omega⟩
  rfl
theorem sd_le1 (R : Nat → Nat → Bool) (f : Nat → Nat) {k : Nat} (h : k ≤ 1) : sd R f k = f := by
  match k, h with
  | 0, _ => rfl
  | 1, _ => rfl
theorem sd_g_dn2 (f : Nat → Nat) {p i : Nat} (hp : p + 1 ≤ i) : (fun j => if j = p + 1 then f p else sd_g f (p + 1) i j) = sd_g f p i := by
  rw [← sd_g_dn f hp]
  funext j
  have e : sd_g f (p + 1) i p = f p := by unfold sd_g; rw [if_pos (by omega)]
  rw [e]
end
section
set_option maxHeartbeats 4000000 in
set_option maxRecDepth 100000 in
theorem ct_X1_isAhead_23 (G : ab_G) (I : Nat → Nat → Int) (F : Nat → Nat → Nat) (hF : ab_FB F) (wk nx : Int) (hb : ∀ p, 32 ≤ p → p ≤ 43 → PB wk nx (tup I p)) (hwk : wk ≤ 3000) (hnx : nx ≤ 100000) (hn : ∀ s, s < 4 → 1 ≤ I 8 s ∧ I 8 s ≤ 9) (p q : Nat) (hp : 32 ≤ p ∧ p ≤ 43) (hq : 32 ≤ q ∧ q ≤ 43) (ord : Int) (ho : ab_In ord) : Ct G 0 0 0 YX1_isAhead [ab_r 23, ab_r p, ab_r q, ab_i ord] (104, I, F) (fun r h => r = some (ab_i (if ah ord (n4 (I 8)) (tup I p) (tup I q) = true then 1 else 0)) ∧ h = (104, I, F)) := by
  refine Ct.ofW kX1_isAhead (ls := [some (ab_r 23), some (ab_r p), some (ab_r q), some (ab_i ord), none]) (Nat.le_of_ble_eq_true rfl) rfl ?_
  have hpb := hb p hp.1 hp.2
  have hqb := hb q hq.1 hq.2
  simp only [PB, tup] at hpb hqb
  have hsp : (I p 0).toNat < 4 := by omega
  have hsq : (I q 0).toNat < 4 := by omega
  have hn1 := hn _ hsp
  have hn2 := hn _ hsq
  refine aw_iconst dX1_isAhead_0 ?_
  refine aw_istore (ls' := [some (ab_r 23), some (ab_r p), some (ab_r q), some (ab_i ord), some (ab_i 0)]) dX1_isAhead_1 (by decide) rfl ?_
  refine aw_iload_n dX1_isAhead_3 rfl ?_
  refine aw_iconst dX1_isAhead_4 ?_
  refine aw_icmp_ne (tgt := 35) dX1_isAhead_5 rfl (by first | assumption | (unfold ab_In at *; omega)) (by first | assumption | (unfold ab_In at *; omega)) (fun c_5 => ?_) (fun c_5 => ?_)
  · refine aw_iload_n dX1_isAhead_35 rfl ?_
    refine aw_iconst dX1_isAhead_36 ?_
    refine aw_icmp_ne (tgt := 51) dX1_isAhead_37 rfl (by first | assumption | (unfold ab_In at *; omega)) (by first | assumption | (unfold ab_In at *; omega)) (fun c_37 => ?_) (fun c_37 => ?_)
    · refine aw_iload dX1_isAhead_51 rfl ?_
      refine aw_if_gt (tgt := 72) dX1_isAhead_53 rfl (by first | assumption | (unfold ab_In at *; omega)) (fun c_53 => ?_) (fun c_53 => ?_)
      · refine aw_iconst dX1_isAhead_72 ?_
        refine aw_goto (tgt := 77) dX1_isAhead_73 rfl ?_
        refine aw_breturn dX1_isAhead_77 rfl (by omega) ?_
        refine ⟨?_, rfl⟩
        by_cases e9 : ah ord (n4 (I 8)) (tup I p) (tup I q) = true
        · first | (rw [if_pos e9]; done) | (exfalso; rw [ah_iff] at e9; simp only [tup] at e9; rw [n4_lt hsp, n4_lt hsq] at e9; omega)
        · first | (rw [if_neg e9]; done) | (exfalso; apply e9; rw [ah_iff]; simp only [tup]; rw [n4_lt hsp, n4_lt hsq]; omega)
      · refine aw_iload dX1_isAhead_56 rfl ?_
        refine aw_if_ne (tgt := 76) dX1_isAhead_58 rfl (by first | assumption | (unfold ab_In at *; omega)) (fun c_58 => ?_) (fun c_58 => ?_)
        · refine aw_iconst dX1_isAhead_76 ?_
          refine aw_breturn dX1_isAhead_77 rfl (by omega) ?_
          refine ⟨?_, rfl⟩
          by_cases e9 : ah ord (n4 (I 8)) (tup I p) (tup I q) = true
          · first | (rw [if_pos e9]; done) | (exfalso; rw [ah_iff] at e9; simp only [tup] at e9; rw [n4_lt hsp, n4_lt hsq] at e9; omega)
          · first | (rw [if_neg e9]; done) | (exfalso; apply e9; rw [ah_iff]; simp only [tup]; rw [n4_lt hsp, n4_lt hsq]; omega)
        · refine aw_aload_n dX1_isAhead_61 rfl (by omega) ?_
          refine aw_geti dX1_isAhead_62 fX1_103 ⟨by omega, by omega⟩ (sh_p23 hp) rfl ?_
          refine aw_aload_n dX1_isAhead_65 rfl (by omega) ?_
          refine aw_geti dX1_isAhead_66 fX1_103 ⟨by omega, by omega⟩ (sh_p23 hq) rfl ?_
          refine aw_icmp_ge (tgt := 76) dX1_isAhead_69 rfl (by first | assumption | (unfold ab_In at *; omega)) (by first | assumption | (unfold ab_In at *; omega)) (fun c_69 => ?_) (fun c_69 => ?_)
          · refine aw_iconst dX1_isAhead_76 ?_
            refine aw_breturn dX1_isAhead_77 rfl (by omega) ?_
            refine ⟨?_, rfl⟩
            by_cases e9 : ah ord (n4 (I 8)) (tup I p) (tup I q) = true
            · first | (rw [if_pos e9]; done) | (exfalso; rw [ah_iff] at e9; simp only [tup] at e9; rw [n4_lt hsp, n4_lt hsq] at e9; omega)
            · first | (rw [if_neg e9]; done) | (exfalso; apply e9; rw [ah_iff]; simp only [tup]; rw [n4_lt hsp, n4_lt hsq]; omega)
          · refine aw_iconst dX1_isAhead_72 ?_
            refine aw_goto (tgt := 77) dX1_isAhead_73 rfl ?_
            refine aw_breturn dX1_isAhead_77 rfl (by omega) ?_
            refine ⟨?_, rfl⟩
            by_cases e9 : ah ord (n4 (I 8)) (tup I p) (tup I q) = true
            · first | (rw [if_pos e9]; done) | (exfalso; rw [ah_iff] at e9; simp only [tup] at e9; rw [n4_lt hsp, n4_lt hsq] at e9; omega)
            · first | (rw [if_neg e9]; done) | (exfalso; apply e9; rw [ah_iff]; simp only [tup]; rw [n4_lt hsp, n4_lt hsq]; omega)
    · refine aw_aload_n dX1_isAhead_40 rfl (by omega) ?_
      refine aw_geti dX1_isAhead_41 fX1_100 ⟨by omega, by omega⟩ (sh_p23 hp) rfl ?_
      refine aw_aload_n dX1_isAhead_44 rfl (by omega) ?_
      refine aw_geti dX1_isAhead_45 fX1_100 ⟨by omega, by omega⟩ (sh_p23 hq) rfl ?_
      refine aw_isub dX1_isAhead_48 ?_
      refine aw_istore (ls' := [some (ab_r 23), some (ab_r p), some (ab_r q), some (ab_i ord), some (ab_i ((I p 2) - (I q 2)))]) dX1_isAhead_49 (by decide) rfl ?_
      refine aw_iload dX1_isAhead_51 rfl ?_
      refine aw_if_gt (tgt := 72) dX1_isAhead_53 rfl (by first | assumption | (unfold ab_In at *; omega)) (fun c_53 => ?_) (fun c_53 => ?_)
      · refine aw_iconst dX1_isAhead_72 ?_
        refine aw_goto (tgt := 77) dX1_isAhead_73 rfl ?_
        refine aw_breturn dX1_isAhead_77 rfl (by omega) ?_
        refine ⟨?_, rfl⟩
        by_cases e9 : ah ord (n4 (I 8)) (tup I p) (tup I q) = true
        · first | (rw [if_pos e9]; done) | (exfalso; rw [ah_iff] at e9; simp only [tup] at e9; rw [n4_lt hsp, n4_lt hsq] at e9; omega)
        · first | (rw [if_neg e9]; done) | (exfalso; apply e9; rw [ah_iff]; simp only [tup]; rw [n4_lt hsp, n4_lt hsq]; omega)
      · refine aw_iload dX1_isAhead_56 rfl ?_
        refine aw_if_ne (tgt := 76) dX1_isAhead_58 rfl (by first | assumption | (unfold ab_In at *; omega)) (fun c_58 => ?_) (fun c_58 => ?_)
        · refine aw_iconst dX1_isAhead_76 ?_
          refine aw_breturn dX1_isAhead_77 rfl (by omega) ?_
          refine ⟨?_, rfl⟩
          by_cases e9 : ah ord (n4 (I 8)) (tup I p) (tup I q) = true
          · first | (rw [if_pos e9]; done) | (exfalso; rw [ah_iff] at e9; simp only [tup] at e9; rw [n4_lt hsp, n4_lt hsq] at e9; omega)
          · first | (rw [if_neg e9]; done) | (exfalso; apply e9; rw [ah_iff]; simp only [tup]; rw [n4_lt hsp, n4_lt hsq]; omega)
        · refine aw_aload_n dX1_isAhead_61 rfl (by omega) ?_
          refine aw_geti dX1_isAhead_62 fX1_103 ⟨by omega, by omega⟩ (sh_p23 hp) rfl ?_
          refine aw_aload_n dX1_isAhead_65 rfl (by omega) ?_
          refine aw_geti dX1_isAhead_66 fX1_103 ⟨by omega, by omega⟩ (sh_p23 hq) rfl ?_
          refine aw_icmp_ge (tgt := 76) dX1_isAhead_69 rfl (by first | assumption | (unfold ab_In at *; omega)) (by first | assumption | (unfold ab_In at *; omega)) (fun c_69 => ?_) (fun c_69 => ?_)
          · refine aw_iconst dX1_isAhead_76 ?_
            refine aw_breturn dX1_isAhead_77 rfl (by omega) ?_
            refine ⟨?_, rfl⟩
            by_cases e9 : ah ord (n4 (I 8)) (tup I p) (tup I q) = true
            · first | (rw [if_pos e9]; done) | (exfalso; rw [ah_iff] at e9; simp only [tup] at e9; rw [n4_lt hsp, n4_lt hsq] at e9; omega)
            · first | (rw [if_neg e9]; done) | (exfalso; apply e9; rw [ah_iff]; simp only [tup]; rw [n4_lt hsp, n4_lt hsq]; omega)
          · refine aw_iconst dX1_isAhead_72 ?_
            refine aw_goto (tgt := 77) dX1_isAhead_73 rfl ?_
            refine aw_breturn dX1_isAhead_77 rfl (by omega) ?_
            refine ⟨?_, rfl⟩
            by_cases e9 : ah ord (n4 (I 8)) (tup I p) (tup I q) = true
            · first | (rw [if_pos e9]; done) | (exfalso; rw [ah_iff] at e9; simp only [tup] at e9; rw [n4_lt hsp, n4_lt hsq] at e9; omega)
            · first | (rw [if_neg e9]; done) | (exfalso; apply e9; rw [ah_iff]; simp only [tup]; rw [n4_lt hsp, n4_lt hsq]; omega)
  · refine aw_aload_n dX1_isAhead_8 rfl (by decide) ?_
    refine aw_getrv (r := 2) dX1_isAhead_9 fX1_35 ⟨Nat.le_of_ble_eq_true rfl, Nat.le_of_ble_eq_true rfl⟩ rfl rfl (hF.at 23 0 2 rfl rfl rfl) ?_
    refine aw_getrv (r := 8) dX1_isAhead_12 fX1_93 ⟨Nat.le_of_ble_eq_true rfl, Nat.le_of_ble_eq_true rfl⟩ rfl rfl (hF.at 2 1 8 rfl rfl rfl) ?_
    refine aw_aload_n dX1_isAhead_15 rfl (by omega) ?_
    refine aw_geti dX1_isAhead_16 fX1_97 ⟨by omega, by omega⟩ (sh_p23 hp) rfl ?_
    refine aw_iald dX1_isAhead_19 ⟨Nat.le_of_ble_eq_true rfl, Nat.le_of_ble_eq_true rfl⟩ rfl (by omega) (by omega) (by decide) ?_
    refine aw_aload_n dX1_isAhead_20 rfl (by decide) ?_
    refine aw_getrv (r := 2) dX1_isAhead_21 fX1_35 ⟨Nat.le_of_ble_eq_true rfl, Nat.le_of_ble_eq_true rfl⟩ rfl rfl (hF.at 23 0 2 rfl rfl rfl) ?_
    refine aw_getrv (r := 8) dX1_isAhead_24 fX1_93 ⟨Nat.le_of_ble_eq_true rfl, Nat.le_of_ble_eq_true rfl⟩ rfl rfl (hF.at 2 1 8 rfl rfl rfl) ?_
    refine aw_aload_n dX1_isAhead_27 rfl (by omega) ?_
    refine aw_geti dX1_isAhead_28 fX1_97 ⟨by omega, by omega⟩ (sh_p23 hq) rfl ?_
    refine aw_iald dX1_isAhead_31 ⟨Nat.le_of_ble_eq_true rfl, Nat.le_of_ble_eq_true rfl⟩ rfl (by omega) (by omega) (by decide) ?_
    refine aw_isub dX1_isAhead_32 ?_
    refine aw_istore (ls' := [some (ab_r 23), some (ab_r p), some (ab_r q), some (ab_i ord), some (ab_i ((I 8 (I p 0).toNat) - (I 8 (I q 0).toNat)))]) dX1_isAhead_33 (by decide) rfl ?_
    refine aw_iload_n dX1_isAhead_35 rfl ?_
    refine aw_iconst dX1_isAhead_36 ?_
    refine aw_icmp_ne (tgt := 51) dX1_isAhead_37 rfl (by first | assumption | (unfold ab_In at *; omega)) (by first | assumption | (unfold ab_In at *; omega)) (fun c_37 => ?_) (fun c_37 => ?_)
    · refine aw_iload dX1_isAhead_51 rfl ?_
      refine aw_if_gt (tgt := 72) dX1_isAhead_53 rfl (by first | assumption | (unfold ab_In at *; omega)) (fun c_53 => ?_) (fun c_53 => ?_)
      · refine aw_iconst dX1_isAhead_72 ?_
        refine aw_goto (tgt := 77) dX1_isAhead_73 rfl ?_
        refine aw_breturn dX1_isAhead_77 rfl (by omega) ?_
        refine ⟨?_, rfl⟩
        by_cases e9 : ah ord (n4 (I 8)) (tup I p) (tup I q) = true
        · first | (rw [if_pos e9]; done) | (exfalso; rw [ah_iff] at e9; simp only [tup] at e9; rw [n4_lt hsp, n4_lt hsq] at e9; omega)
        · first | (rw [if_neg e9]; done) | (exfalso; apply e9; rw [ah_iff]; simp only [tup]; rw [n4_lt hsp, n4_lt hsq]; omega)
      · refine aw_iload dX1_isAhead_56 rfl ?_
        refine aw_if_ne (tgt := 76) dX1_isAhead_58 rfl (by first | assumption | (unfold ab_In at *; omega)) (fun c_58 => ?_) (fun c_58 => ?_)
        · refine aw_iconst dX1_isAhead_76 ?_
          refine aw_breturn dX1_isAhead_77 rfl (by omega) ?_
          refine ⟨?_, rfl⟩
          by_cases e9 : ah ord (n4 (I 8)) (tup I p) (tup I q) = true
          · first | (rw [if_pos e9]; done) | (exfalso; rw [ah_iff] at e9; simp only [tup] at e9; rw [n4_lt hsp, n4_lt hsq] at e9; omega)
          · first | (rw [if_neg e9]; done) | (exfalso; apply e9; rw [ah_iff]; simp only [tup]; rw [n4_lt hsp, n4_lt hsq]; omega)
        · refine aw_aload_n dX1_isAhead_61 rfl (by omega) ?_
          refine aw_geti dX1_isAhead_62 fX1_103 ⟨by omega, by omega⟩ (sh_p23 hp) rfl ?_
          refine aw_aload_n dX1_isAhead_65 rfl (by omega) ?_
          refine aw_geti dX1_isAhead_66 fX1_103 ⟨by omega, by omega⟩ (sh_p23 hq) rfl ?_
          refine aw_icmp_ge (tgt := 76) dX1_isAhead_69 rfl (by first | assumption | (unfold ab_In at *; omega)) (by first | assumption | (unfold ab_In at *; omega)) (fun c_69 => ?_) (fun c_69 => ?_)
          · refine aw_iconst dX1_isAhead_76 ?_
            refine aw_breturn dX1_isAhead_77 rfl (by omega) ?_
            refine ⟨?_, rfl⟩
            by_cases e9 : ah ord (n4 (I 8)) (tup I p) (tup I q) = true
            · first | (rw [if_pos e9]; done) | (exfalso; rw [ah_iff] at e9; simp only [tup] at e9; rw [n4_lt hsp, n4_lt hsq] at e9; omega)
            · first | (rw [if_neg e9]; done) | (exfalso; apply e9; rw [ah_iff]; simp only [tup]; rw [n4_lt hsp, n4_lt hsq]; omega)
          · refine aw_iconst dX1_isAhead_72 ?_
            refine aw_goto (tgt := 77) dX1_isAhead_73 rfl ?_
            refine aw_breturn dX1_isAhead_77 rfl (by omega) ?_
            refine ⟨?_, rfl⟩
            by_cases e9 : ah ord (n4 (I 8)) (tup I p) (tup I q) = true
            · first | (rw [if_pos e9]; done) | (exfalso; rw [ah_iff] at e9; simp only [tup] at e9; rw [n4_lt hsp, n4_lt hsq] at e9; omega)
            · first | (rw [if_neg e9]; done) | (exfalso; apply e9; rw [ah_iff]; simp only [tup]; rw [n4_lt hsp, n4_lt hsq]; omega)
    · refine aw_aload_n dX1_isAhead_40 rfl (by omega) ?_
      refine aw_geti dX1_isAhead_41 fX1_100 ⟨by omega, by omega⟩ (sh_p23 hp) rfl ?_
      refine aw_aload_n dX1_isAhead_44 rfl (by omega) ?_
      refine aw_geti dX1_isAhead_45 fX1_100 ⟨by omega, by omega⟩ (sh_p23 hq) rfl ?_
      refine aw_isub dX1_isAhead_48 ?_
      refine aw_istore (ls' := [some (ab_r 23), some (ab_r p), some (ab_r q), some (ab_i ord), some (ab_i ((I p 2) - (I q 2)))]) dX1_isAhead_49 (by decide) rfl ?_
      refine aw_iload dX1_isAhead_51 rfl ?_
      refine aw_if_gt (tgt := 72) dX1_isAhead_53 rfl (by first | assumption | (unfold ab_In at *; omega)) (fun c_53 => ?_) (fun c_53 => ?_)
      · refine aw_iconst dX1_isAhead_72 ?_
        refine aw_goto (tgt := 77) dX1_isAhead_73 rfl ?_
        refine aw_breturn dX1_isAhead_77 rfl (by omega) ?_
        refine ⟨?_, rfl⟩
        by_cases e9 : ah ord (n4 (I 8)) (tup I p) (tup I q) = true
        · first | (rw [if_pos e9]; done) | (exfalso; rw [ah_iff] at e9; simp only [tup] at e9; rw [n4_lt hsp, n4_lt hsq] at e9; omega)
        · first | (rw [if_neg e9]; done) | (exfalso; apply e9; rw [ah_iff]; simp only [tup]; rw [n4_lt hsp, n4_lt hsq]; omega)
      · refine aw_iload dX1_isAhead_56 rfl ?_
        refine aw_if_ne (tgt := 76) dX1_isAhead_58 rfl (by first | assumption | (unfold ab_In at *; omega)) (fun c_58 => ?_) (fun c_58 => ?_)
        · refine aw_iconst dX1_isAhead_76 ?_
          refine aw_breturn dX1_isAhead_77 rfl (by omega) ?_
          refine ⟨?_, rfl⟩
          by_cases e9 : ah ord (n4 (I 8)) (tup I p) (tup I q) = true
          · first | (rw [if_pos e9]; done) | (exfalso; rw [ah_iff] at e9; simp only [tup] at e9; rw [n4_lt hsp, n4_lt hsq] at e9; omega)
          · first | (rw [if_neg e9]; done) | (exfalso; apply e9; rw [ah_iff]; simp only [tup]; rw [n4_lt hsp, n4_lt hsq]; omega)
        · refine aw_aload_n dX1_isAhead_61 rfl (by omega) ?_
          refine aw_geti dX1_isAhead_62 fX1_103 ⟨by omega, by omega⟩ (sh_p23 hp) rfl ?_
          refine aw_aload_n dX1_isAhead_65 rfl (by omega) ?_
          refine aw_geti dX1_isAhead_66 fX1_103 ⟨by omega, by omega⟩ (sh_p23 hq) rfl ?_
          refine aw_icmp_ge (tgt := 76) dX1_isAhead_69 rfl (by first | assumption | (unfold ab_In at *; omega)) (by first | assumption | (unfold ab_In at *; omega)) (fun c_69 => ?_) (fun c_69 => ?_)
          · refine aw_iconst dX1_isAhead_76 ?_
            refine aw_breturn dX1_isAhead_77 rfl (by omega) ?_
            refine ⟨?_, rfl⟩
            by_cases e9 : ah ord (n4 (I 8)) (tup I p) (tup I q) = true
            · first | (rw [if_pos e9]; done) | (exfalso; rw [ah_iff] at e9; simp only [tup] at e9; rw [n4_lt hsp, n4_lt hsq] at e9; omega)
            · first | (rw [if_neg e9]; done) | (exfalso; apply e9; rw [ah_iff]; simp only [tup]; rw [n4_lt hsp, n4_lt hsq]; omega)
          · refine aw_iconst dX1_isAhead_72 ?_
            refine aw_goto (tgt := 77) dX1_isAhead_73 rfl ?_
            refine aw_breturn dX1_isAhead_77 rfl (by omega) ?_
            refine ⟨?_, rfl⟩
            by_cases e9 : ah ord (n4 (I 8)) (tup I p) (tup I q) = true
            · first | (rw [if_pos e9]; done) | (exfalso; rw [ah_iff] at e9; simp only [tup] at e9; rw [n4_lt hsp, n4_lt hsq] at e9; omega)
            · first | (rw [if_neg e9]; done) | (exfalso; apply e9; rw [ah_iff]; simp only [tup]; rw [n4_lt hsp, n4_lt hsq]; omega)
set_option maxHeartbeats 4000000 in
set_option maxRecDepth 100000 in
theorem ct_X1_stand_23 (G : ab_G) (I : Nat → Nat → Int) (F : Nat → Nat → Nat) (hF : ab_FB F) (wk nx : Int) (hb : ∀ p, 32 ≤ p → p ≤ 43 → PB wk nx (tup I p)) (hwk : wk ≤ 3000) (hnx : nx ≤ 100000) (hn : ∀ s, s < 4 → 1 ≤ I 8 s ∧ I 8 s ≤ 9) (ord : Int) (ho : ab_In ord) (N : Nat) (hN : I 23 2 = N) (hN12 : N ≤ 12) (hP : ∀ j, j < 12 → 32 ≤ F 24 j ∧ F 24 j ≤ 43) : Ct G 1 0 0 YX1_stand [ab_r 23, ab_i ord] (104, I, F) (fun r h => r = none ∧ h = (104, I, rw_ F 24 (sd (fun a b => ah ord (n4 (I 8)) (tup I a) (tup I b)) (F 24) N))) := by
  refine Ct.ofW kX1_stand (ls := [some (ab_r 23), some (ab_i ord), none, none, none]) (Nat.le_of_ble_eq_true rfl) rfl ?_
  generalize hZ : ab_Z G (fun r h => r = none ∧ h = (104, I, rw_ F 24 (sd (fun a b => ah ord (n4 (I 8)) (tup I a) (tup I b)) (F 24) N))) 0 0 = Z
  generalize hRd : (fun a b => ah ord (n4 (I 8)) (tup I a) (tup I b)) = Rd at *
  have outer : ∀ (m k : Nat), N + 1 ≤ k + m → 1 ≤ k → k ≤ N + 1 → aW G YX1_stand (ab_rm 1 0 0) Z 0 0 (104, I, rw_ F 24 (sd Rd (F 24) (if k ≤ N then k else N))) 2 [some (ab_r 23), some (ab_i ord), some (ab_i (k : Int)), none, none] [] := by
    intro m
    induction m with
    | zero =>
      intro k hk h1 h2
      have hk2 : k = N + 1 := by omega
      have hF2 : ab_FB (rw_ F 24 (sd Rd (F 24) (if k ≤ N then k else N))) := hF.rw 24 _ (by omega)
      subst hZ
      refine aw_iload_n dX1_stand_2 rfl ?_
      refine aw_aload_n dX1_stand_3 rfl (by decide) ?_
      refine aw_geti dX1_stand_4 fX1_17 ⟨Nat.le_of_ble_eq_true rfl, Nat.le_of_ble_eq_true rfl⟩ rfl rfl ?_
      refine aw_icmp_ge (tgt := 79) dX1_stand_7 rfl (by first | assumption | (unfold ab_In at *; omega)) (by first | assumption | (unfold ab_In at *; omega)) (fun c_7 => ?_) (fun c_7 => ?_)
      · refine aw_return dX1_stand_79 rfl ?_
        refine ⟨rfl, ?_⟩
        rw [if_neg (by omega)]
      · exfalso; omega
    | succ m ih =>
      intro k hk h1 h2
      have hF2 : ab_FB (rw_ F 24 (sd Rd (F 24) (if k ≤ N then k else N))) := hF.rw 24 _ (by omega)
      refine aw_iload_n dX1_stand_2 rfl ?_
      refine aw_aload_n dX1_stand_3 rfl (by decide) ?_
      refine aw_geti dX1_stand_4 fX1_17 ⟨Nat.le_of_ble_eq_true rfl, Nat.le_of_ble_eq_true rfl⟩ rfl rfl ?_
      refine aw_icmp_ge (tgt := 79) dX1_stand_7 rfl (by first | assumption | (unfold ab_In at *; omega)) (by first | assumption | (unfold ab_In at *; omega)) (fun c_7 => ?_) (fun c_7 => ?_)
      · rw [← hZ]
        refine aw_return dX1_stand_79 rfl ?_
        refine ⟨rfl, ?_⟩
        have hkN : ¬ k ≤ N ∨ k = N := by omega
        rcases hkN with q | q
        · rw [if_neg q]
        · rw [if_pos (by omega), q]
      · have hkN : k < N := by omega
        rw [if_pos (by omega)] at *
        generalize hg : sd Rd (F 24) k = g at *
        have hgP : ∀ j, j < 12 → 32 ≤ g j ∧ g j ≤ 43 := by rw [← hg]; exact sd_all Rd (fun p => 32 ≤ p ∧ p ≤ 43) hP k (by omega)
        refine aw_aload_n dX1_stand_10 rfl (by decide) ?_
        refine aw_getrv (r := 24) dX1_stand_11 fX1_11 ⟨Nat.le_of_ble_eq_true rfl, Nat.le_of_ble_eq_true rfl⟩ rfl rfl (hF2.at 23 1 24 rfl rfl rfl) ?_
        refine aw_iload_n dX1_stand_14 rfl ?_
        refine aw_aaldv (r := g k) dX1_stand_15 ⟨Nat.le_of_ble_eq_true rfl, Nat.le_of_ble_eq_true rfl⟩ rfl (by decide) (by omega) (by omega) (by decide) (rw_s _ _ _ _) ?_
        have hone := hgP k (by omega)
        generalize hone9 : g k = one at *
        have hF3 : ∀ p, ab_FB (rw_ F 24 (sd_g g p k)) := fun p => hF.rw 24 _ (by omega)
        have inner : ∀ p, p ≤ k → aW G YX1_stand (ab_rm 1 0 0) Z 0 0 (104, I, rw_ F 24 (sd_s g (sd_f Rd g one p) k one)) 73 [some (ab_r 23), some (ab_i ord), some (ab_i (k : Int)), some (ab_r one), some (ab_i ((sd_f Rd g one p : Nat) : Int))] [] → aW G YX1_stand (ab_rm 1 0 0) Z 0 0 (104, I, rw_ F 24 (sd_g g p k)) 20 [some (ab_r 23), some (ab_i ord), some (ab_i (k : Int)), some (ab_r one), some (ab_i (p : Int))] [] := by
          intro p
          induction p with
          | zero =>
            intro hp0 hk9
            refine aw_iload dX1_stand_20 rfl ?_
            refine aw_if_le (tgt := 65) dX1_stand_22 rfl (by first | assumption | (unfold ab_In at *; omega)) (fun c_22 => ?_) (fun c_22 => ?_)
            · refine aw_aload_n dX1_stand_65 rfl (by decide) ?_
              refine aw_getrv (r := 24) dX1_stand_66 fX1_11 ⟨Nat.le_of_ble_eq_true rfl, Nat.le_of_ble_eq_true rfl⟩ rfl rfl ((hF3 _).at 23 1 24 rfl rfl rfl) ?_
              refine aw_iload dX1_stand_69 rfl ?_
              refine aw_aload_n dX1_stand_71 rfl (by omega) ?_
              refine aw_aastv (q := (0)) kc4 dX1_stand_72 ⟨Nat.le_of_ble_eq_true rfl, Nat.le_of_ble_eq_true rfl⟩ rfl (by omega) (by omega) (by decide) ⟨by omega, by omega⟩ (sh_p23 hone) rfl ?_
              rw [rw_w, sd_g_put g (by omega)]
              exact hk9
            · exact absurd (Int.le_refl 0) c_22
          | succ p ihp =>
            intro hp0 hk9
            have hpp := hgP p (by omega)
            have e1 : ∀ z : Int, z = ((p + 1 : Nat) : Int) - 1 → z.toNat = p := fun z hz => by omega
            refine aw_iload dX1_stand_20 rfl ?_
            refine aw_if_le (tgt := 65) dX1_stand_22 rfl (by first | assumption | (unfold ab_In at *; omega)) (fun c_22 => ?_) (fun c_22 => ?_)
            · exfalso; omega
            · refine aw_aload_n dX1_stand_25 rfl (by decide) ?_
              refine aw_aload_n dX1_stand_26 rfl (by omega) ?_
              refine aw_aload_n dX1_stand_27 rfl (by decide) ?_
              refine aw_getrv (r := 24) dX1_stand_28 fX1_11 ⟨Nat.le_of_ble_eq_true rfl, Nat.le_of_ble_eq_true rfl⟩ rfl rfl ((hF3 _).at 23 1 24 rfl rfl rfl) ?_
              refine aw_iload dX1_stand_31 rfl ?_
              refine aw_iconst dX1_stand_33 ?_
              refine aw_isub dX1_stand_34 ?_
              refine aw_aaldv (r := g p) dX1_stand_35 ⟨Nat.le_of_ble_eq_true rfl, Nat.le_of_ble_eq_true rfl⟩ rfl (by decide) (by omega) (by omega) (by decide) (by rw [rw_s]; unfold sd_g; rw [show (((p + 1 : Nat) : Int) - 1).toNat = p by omega, if_pos (by omega)]) ?_
              refine aw_iload_n dX1_stand_36 rfl ?_
              refine aw_callV (as := [ab_r one, ab_r (g p), ab_i ord]) (rest := []) dX1_stand_37 (ct_X1_isAhead_23 G I _ (hF3 _) wk nx hb hwk hnx hn one (g p) hone hpp ord ho) ⟨Nat.le_of_ble_eq_true rfl, Nat.le_of_ble_eq_true rfl⟩ rfl kc1 rfl kX1_isAhead iX1_isAhead eX1_isAhead lX1_89 rfl (Nat.le_of_ble_eq_true rfl) (by decide) (by decide) (by decide) (by decide) ?_
              rintro _ _ ⟨rfl, rfl⟩
              rw [show ah ord (n4 (I 8)) (tup I one) (tup I (g p)) = Rd one (g p) from congrFun (congrFun hRd one) (g p)]
              refine aw_if_eq (tgt := 65) dX1_stand_40 rfl (by split <;> (unfold ab_In; omega)) (fun c_40 => ?_) (fun c_40 => ?_)
              · have hq : ¬ Rd one (g p) = true := fun e => by rw [if_pos e] at c_40; omega
                have hs : sd_f Rd g one (p + 1) = p + 1 := by unfold sd_f; rw [if_neg hq]
                rw [hs] at hk9
                refine aw_aload_n dX1_stand_65 rfl (by decide) ?_
                refine aw_getrv (r := 24) dX1_stand_66 fX1_11 ⟨Nat.le_of_ble_eq_true rfl, Nat.le_of_ble_eq_true rfl⟩ rfl rfl ((hF3 _).at 23 1 24 rfl rfl rfl) ?_
                refine aw_iload dX1_stand_69 rfl ?_
                refine aw_aload_n dX1_stand_71 rfl (by omega) ?_
                refine aw_aastv (q := (p + 1)) kc4 dX1_stand_72 ⟨Nat.le_of_ble_eq_true rfl, Nat.le_of_ble_eq_true rfl⟩ rfl (by omega) (by omega) (by decide) ⟨by omega, by omega⟩ (sh_p23 hone) rfl ?_
                rw [rw_w, sd_g_put g (by omega)]
                exact hk9
              · refine aw_aload_n dX1_stand_43 rfl (by decide) ?_
                refine aw_getrv (r := 24) dX1_stand_44 fX1_11 ⟨Nat.le_of_ble_eq_true rfl, Nat.le_of_ble_eq_true rfl⟩ rfl rfl ((hF3 _).at 23 1 24 rfl rfl rfl) ?_
                refine aw_iload dX1_stand_47 rfl ?_
                refine aw_aload_n dX1_stand_49 rfl (by decide) ?_
                refine aw_getrv (r := 24) dX1_stand_50 fX1_11 ⟨Nat.le_of_ble_eq_true rfl, Nat.le_of_ble_eq_true rfl⟩ rfl rfl ((hF3 _).at 23 1 24 rfl rfl rfl) ?_
                refine aw_iload dX1_stand_53 rfl ?_
                refine aw_iconst dX1_stand_55 ?_
                refine aw_isub dX1_stand_56 ?_
                refine aw_aaldv (r := g p) dX1_stand_57 ⟨Nat.le_of_ble_eq_true rfl, Nat.le_of_ble_eq_true rfl⟩ rfl (by decide) (by omega) (by omega) (by decide) (by rw [rw_s]; unfold sd_g; rw [show (((p + 1 : Nat) : Int) - 1).toNat = p by omega, if_pos (by omega)]) ?_
                refine aw_aastv (q := (p + 1)) kc4 dX1_stand_58 ⟨Nat.le_of_ble_eq_true rfl, Nat.le_of_ble_eq_true rfl⟩ rfl (by omega) (by omega) (by decide) ⟨by omega, by omega⟩ (sh_p23 hpp) rfl ?_
                refine aw_iinc (ls' := [some (ab_r 23), some (ab_i ord), some (ab_i (k : Int)), some (ab_r one), some (ab_i (((p + 1 : Nat) : Int) + (-1)))]) dX1_stand_59 (by decide) rfl rfl ?_
                refine aw_goto (tgt := 20) dX1_stand_62 rfl ?_
                have hq : Rd one (g p) = true := Decidable.byContradiction (fun e => c_40 (by rw [if_neg e]))
                have hs : sd_f Rd g one (p + 1) = sd_f Rd g one p := by rw [sd_f, if_pos hq]
                rw [hs] at hk9
                have ih9 := ihp (by omega) hk9
                rw [rw_w, sd_g_dn2 g (by omega)]
                refine aw_ls ?_ ih9
                rw [show (((p + 1 : Nat) : Int) + (-1)) = (p : Int) by omega]
        refine aw_astore_n (ls' := [some (ab_r 23), some (ab_i ord), some (ab_i (k : Int)), some (ab_r one), none]) dX1_stand_16 (by decide) (by omega) rfl ?_
        refine aw_iload_n dX1_stand_17 rfl ?_
        refine aw_istore (ls' := [some (ab_r 23), some (ab_i ord), some (ab_i (k : Int)), some (ab_r one), some (ab_i (k : Int))]) dX1_stand_18 (by decide) rfl ?_
        have hst := inner k (Nat.le_refl k) ?_
        · rw [sd_g_i] at hst; exact hst
        refine aw_iinc (ls' := [some (ab_r 23), some (ab_i ord), some (ab_i ((k : Int) + 1)), some (ab_r one), some (ab_i ((sd_f Rd g one k : Nat) : Int))]) dX1_stand_73 (by decide) rfl rfl ?_
        refine aw_goto (tgt := 2) dX1_stand_76 rfl ?_
        have ih9 := ih (k + 1) (by omega) (by omega) (by omega)
        rw [if_pos (by omega)] at ih9
        have e3 : sd Rd (F 24) (k + 1) = sd_s g (sd_f Rd g one k) k one := by rw [sd_succ Rd (F 24) h1, hg, hone9]
        rw [e3] at ih9
        exact aw_le (ab_le_c (ab_le_c (ab_le_c (ab_le_n (ab_le_n ab_le_nil))))) ih9
  refine aw_iconst dX1_stand_0 ?_
  refine aw_istore_n (ls' := [some (ab_r 23), some (ab_i ord), some (ab_i 1), none, none]) dX1_stand_1 (by decide) rfl ?_
  have h9 := outer N 1 (by omega) (by omega) (by omega)
  have e9 : sd Rd (F 24) (if 1 ≤ N then 1 else N) = F 24 := sd_le1 _ _ (by split <;> omega)
  rw [e9, rw_id] at h9
  exact h9
set_option maxHeartbeats 4000000 in
set_option maxRecDepth 100000 in
theorem ct_X1_isAhead_44 (G : ab_G) (I : Nat → Nat → Int) (F : Nat → Nat → Nat) (hF : ab_FB F) (wk nx : Int) (hb : ∀ p, 53 ≤ p → p ≤ 64 → PB wk nx (tup I p)) (hwk : wk ≤ 3000) (hnx : nx ≤ 100000) (hn : ∀ s, s < 4 → 1 ≤ I 8 s ∧ I 8 s ≤ 9) (p q : Nat) (hp : 53 ≤ p ∧ p ≤ 64) (hq : 53 ≤ q ∧ q ≤ 64) (ord : Int) (ho : ab_In ord) : Ct G 0 0 0 YX1_isAhead [ab_r 44, ab_r p, ab_r q, ab_i ord] (104, I, F) (fun r h => r = some (ab_i (if ah ord (n4 (I 8)) (tup I p) (tup I q) = true then 1 else 0)) ∧ h = (104, I, F)) := by
  refine Ct.ofW kX1_isAhead (ls := [some (ab_r 44), some (ab_r p), some (ab_r q), some (ab_i ord), none]) (Nat.le_of_ble_eq_true rfl) rfl ?_
  have hpb := hb p hp.1 hp.2
  have hqb := hb q hq.1 hq.2
  simp only [PB, tup] at hpb hqb
  have hsp : (I p 0).toNat < 4 := by omega
  have hsq : (I q 0).toNat < 4 := by omega
  have hn1 := hn _ hsp
  have hn2 := hn _ hsq
  refine aw_iconst dX1_isAhead_0 ?_
  refine aw_istore (ls' := [some (ab_r 44), some (ab_r p), some (ab_r q), some (ab_i ord), some (ab_i 0)]) dX1_isAhead_1 (by decide) rfl ?_
  refine aw_iload_n dX1_isAhead_3 rfl ?_
  refine aw_iconst dX1_isAhead_4 ?_
  refine aw_icmp_ne (tgt := 35) dX1_isAhead_5 rfl (by first | assumption | (unfold ab_In at *; omega)) (by first | assumption | (unfold ab_In at *; omega)) (fun c_5 => ?_) (fun c_5 => ?_)
  · refine aw_iload_n dX1_isAhead_35 rfl ?_
    refine aw_iconst dX1_isAhead_36 ?_
    refine aw_icmp_ne (tgt := 51) dX1_isAhead_37 rfl (by first | assumption | (unfold ab_In at *; omega)) (by first | assumption | (unfold ab_In at *; omega)) (fun c_37 => ?_) (fun c_37 => ?_)
    · refine aw_iload dX1_isAhead_51 rfl ?_
      refine aw_if_gt (tgt := 72) dX1_isAhead_53 rfl (by first | assumption | (unfold ab_In at *; omega)) (fun c_53 => ?_) (fun c_53 => ?_)
      · refine aw_iconst dX1_isAhead_72 ?_
        refine aw_goto (tgt := 77) dX1_isAhead_73 rfl ?_
        refine aw_breturn dX1_isAhead_77 rfl (by omega) ?_
        refine ⟨?_, rfl⟩
        by_cases e9 : ah ord (n4 (I 8)) (tup I p) (tup I q) = true
        · first | (rw [if_pos e9]; done) | (exfalso; rw [ah_iff] at e9; simp only [tup] at e9; rw [n4_lt hsp, n4_lt hsq] at e9; omega)
        · first | (rw [if_neg e9]; done) | (exfalso; apply e9; rw [ah_iff]; simp only [tup]; rw [n4_lt hsp, n4_lt hsq]; omega)
      · refine aw_iload dX1_isAhead_56 rfl ?_
        refine aw_if_ne (tgt := 76) dX1_isAhead_58 rfl (by first | assumption | (unfold ab_In at *; omega)) (fun c_58 => ?_) (fun c_58 => ?_)
        · refine aw_iconst dX1_isAhead_76 ?_
          refine aw_breturn dX1_isAhead_77 rfl (by omega) ?_
          refine ⟨?_, rfl⟩
          by_cases e9 : ah ord (n4 (I 8)) (tup I p) (tup I q) = true
          · first | (rw [if_pos e9]; done) | (exfalso; rw [ah_iff] at e9; simp only [tup] at e9; rw [n4_lt hsp, n4_lt hsq] at e9; omega)
          · first | (rw [if_neg e9]; done) | (exfalso; apply e9; rw [ah_iff]; simp only [tup]; rw [n4_lt hsp, n4_lt hsq]; omega)
        · refine aw_aload_n dX1_isAhead_61 rfl (by omega) ?_
          refine aw_geti dX1_isAhead_62 fX1_103 ⟨by omega, by omega⟩ (sh_p44 hp) rfl ?_
          refine aw_aload_n dX1_isAhead_65 rfl (by omega) ?_
          refine aw_geti dX1_isAhead_66 fX1_103 ⟨by omega, by omega⟩ (sh_p44 hq) rfl ?_
          refine aw_icmp_ge (tgt := 76) dX1_isAhead_69 rfl (by first | assumption | (unfold ab_In at *; omega)) (by first | assumption | (unfold ab_In at *; omega)) (fun c_69 => ?_) (fun c_69 => ?_)
          · refine aw_iconst dX1_isAhead_76 ?_
            refine aw_breturn dX1_isAhead_77 rfl (by omega) ?_
            refine ⟨?_, rfl⟩
            by_cases e9 : ah ord (n4 (I 8)) (tup I p) (tup I q) = true
            · first | (rw [if_pos e9]; done) | (exfalso; rw [ah_iff] at e9; simp only [tup] at e9; rw [n4_lt hsp, n4_lt hsq] at e9; omega)
            · first | (rw [if_neg e9]; done) | (exfalso; apply e9; rw [ah_iff]; simp only [tup]; rw [n4_lt hsp, n4_lt hsq]; omega)
          · refine aw_iconst dX1_isAhead_72 ?_
            refine aw_goto (tgt := 77) dX1_isAhead_73 rfl ?_
            refine aw_breturn dX1_isAhead_77 rfl (by omega) ?_
            refine ⟨?_, rfl⟩
            by_cases e9 : ah ord (n4 (I 8)) (tup I p) (tup I q) = true
            · first | (rw [if_pos e9]; done) | (exfalso; rw [ah_iff] at e9; simp only [tup] at e9; rw [n4_lt hsp, n4_lt hsq] at e9; omega)
            · first | (rw [if_neg e9]; done) | (exfalso; apply e9; rw [ah_iff]; simp only [tup]; rw [n4_lt hsp, n4_lt hsq]; omega)
    · refine aw_aload_n dX1_isAhead_40 rfl (by omega) ?_
      refine aw_geti dX1_isAhead_41 fX1_100 ⟨by omega, by omega⟩ (sh_p44 hp) rfl ?_
      refine aw_aload_n dX1_isAhead_44 rfl (by omega) ?_
      refine aw_geti dX1_isAhead_45 fX1_100 ⟨by omega, by omega⟩ (sh_p44 hq) rfl ?_
      refine aw_isub dX1_isAhead_48 ?_
      refine aw_istore (ls' := [some (ab_r 44), some (ab_r p), some (ab_r q), some (ab_i ord), some (ab_i ((I p 2) - (I q 2)))]) dX1_isAhead_49 (by decide) rfl ?_
      refine aw_iload dX1_isAhead_51 rfl ?_
      refine aw_if_gt (tgt := 72) dX1_isAhead_53 rfl (by first | assumption | (unfold ab_In at *; omega)) (fun c_53 => ?_) (fun c_53 => ?_)
      · refine aw_iconst dX1_isAhead_72 ?_
        refine aw_goto (tgt := 77) dX1_isAhead_73 rfl ?_
        refine aw_breturn dX1_isAhead_77 rfl (by omega) ?_
        refine ⟨?_, rfl⟩
        by_cases e9 : ah ord (n4 (I 8)) (tup I p) (tup I q) = true
        · first | (rw [if_pos e9]; done) | (exfalso; rw [ah_iff] at e9; simp only [tup] at e9; rw [n4_lt hsp, n4_lt hsq] at e9; omega)
        · first | (rw [if_neg e9]; done) | (exfalso; apply e9; rw [ah_iff]; simp only [tup]; rw [n4_lt hsp, n4_lt hsq]; omega)
      · refine aw_iload dX1_isAhead_56 rfl ?_
        refine aw_if_ne (tgt := 76) dX1_isAhead_58 rfl (by first | assumption | (unfold ab_In at *; omega)) (fun c_58 => ?_) (fun c_58 => ?_)
        · refine aw_iconst dX1_isAhead_76 ?_
          refine aw_breturn dX1_isAhead_77 rfl (by omega) ?_
          refine ⟨?_, rfl⟩
          by_cases e9 : ah ord (n4 (I 8)) (tup I p) (tup I q) = true
          · first | (rw [if_pos e9]; done) | (exfalso; rw [ah_iff] at e9; simp only [tup] at e9; rw [n4_lt hsp, n4_lt hsq] at e9; omega)
          · first | (rw [if_neg e9]; done) | (exfalso; apply e9; rw [ah_iff]; simp only [tup]; rw [n4_lt hsp, n4_lt hsq]; omega)
        · refine aw_aload_n dX1_isAhead_61 rfl (by omega) ?_
          refine aw_geti dX1_isAhead_62 fX1_103 ⟨by omega, by omega⟩ (sh_p44 hp) rfl ?_
          refine aw_aload_n dX1_isAhead_65 rfl (by omega) ?_
          refine aw_geti dX1_isAhead_66 fX1_103 ⟨by omega, by omega⟩ (sh_p44 hq) rfl ?_
          refine aw_icmp_ge (tgt := 76) dX1_isAhead_69 rfl (by first | assumption | (unfold ab_In at *; omega)) (by first | assumption | (unfold ab_In at *; omega)) (fun c_69 => ?_) (fun c_69 => ?_)
          · refine aw_iconst dX1_isAhead_76 ?_
            refine aw_breturn dX1_isAhead_77 rfl (by omega) ?_
            refine ⟨?_, rfl⟩
            by_cases e9 : ah ord (n4 (I 8)) (tup I p) (tup I q) = true
            · first | (rw [if_pos e9]; done) | (exfalso; rw [ah_iff] at e9; simp only [tup] at e9; rw [n4_lt hsp, n4_lt hsq] at e9; omega)
            · first | (rw [if_neg e9]; done) | (exfalso; apply e9; rw [ah_iff]; simp only [tup]; rw [n4_lt hsp, n4_lt hsq]; omega)
          · refine aw_iconst dX1_isAhead_72 ?_
            refine aw_goto (tgt := 77) dX1_isAhead_73 rfl ?_
            refine aw_breturn dX1_isAhead_77 rfl (by omega) ?_
            refine ⟨?_, rfl⟩
            by_cases e9 : ah ord (n4 (I 8)) (tup I p) (tup I q) = true
            · first | (rw [if_pos e9]; done) | (exfalso; rw [ah_iff] at e9; simp only [tup] at e9; rw [n4_lt hsp, n4_lt hsq] at e9; omega)
            · first | (rw [if_neg e9]; done) | (exfalso; apply e9; rw [ah_iff]; simp only [tup]; rw [n4_lt hsp, n4_lt hsq]; omega)
  · refine aw_aload_n dX1_isAhead_8 rfl (by decide) ?_
    refine aw_getrv (r := 2) dX1_isAhead_9 fX1_35 ⟨Nat.le_of_ble_eq_true rfl, Nat.le_of_ble_eq_true rfl⟩ rfl rfl (hF.at 44 0 2 rfl rfl rfl) ?_
    refine aw_getrv (r := 8) dX1_isAhead_12 fX1_93 ⟨Nat.le_of_ble_eq_true rfl, Nat.le_of_ble_eq_true rfl⟩ rfl rfl (hF.at 2 1 8 rfl rfl rfl) ?_
    refine aw_aload_n dX1_isAhead_15 rfl (by omega) ?_
    refine aw_geti dX1_isAhead_16 fX1_97 ⟨by omega, by omega⟩ (sh_p44 hp) rfl ?_
    refine aw_iald dX1_isAhead_19 ⟨Nat.le_of_ble_eq_true rfl, Nat.le_of_ble_eq_true rfl⟩ rfl (by omega) (by omega) (by decide) ?_
    refine aw_aload_n dX1_isAhead_20 rfl (by decide) ?_
    refine aw_getrv (r := 2) dX1_isAhead_21 fX1_35 ⟨Nat.le_of_ble_eq_true rfl, Nat.le_of_ble_eq_true rfl⟩ rfl rfl (hF.at 44 0 2 rfl rfl rfl) ?_
    refine aw_getrv (r := 8) dX1_isAhead_24 fX1_93 ⟨Nat.le_of_ble_eq_true rfl, Nat.le_of_ble_eq_true rfl⟩ rfl rfl (hF.at 2 1 8 rfl rfl rfl) ?_
    refine aw_aload_n dX1_isAhead_27 rfl (by omega) ?_
    refine aw_geti dX1_isAhead_28 fX1_97 ⟨by omega, by omega⟩ (sh_p44 hq) rfl ?_
    refine aw_iald dX1_isAhead_31 ⟨Nat.le_of_ble_eq_true rfl, Nat.le_of_ble_eq_true rfl⟩ rfl (by omega) (by omega) (by decide) ?_
    refine aw_isub dX1_isAhead_32 ?_
    refine aw_istore (ls' := [some (ab_r 44), some (ab_r p), some (ab_r q), some (ab_i ord), some (ab_i ((I 8 (I p 0).toNat) - (I 8 (I q 0).toNat)))]) dX1_isAhead_33 (by decide) rfl ?_
    refine aw_iload_n dX1_isAhead_35 rfl ?_
    refine aw_iconst dX1_isAhead_36 ?_
    refine aw_icmp_ne (tgt := 51) dX1_isAhead_37 rfl (by first | assumption | (unfold ab_In at *; omega)) (by first | assumption | (unfold ab_In at *; omega)) (fun c_37 => ?_) (fun c_37 => ?_)
    · refine aw_iload dX1_isAhead_51 rfl ?_
      refine aw_if_gt (tgt := 72) dX1_isAhead_53 rfl (by first | assumption | (unfold ab_In at *; omega)) (fun c_53 => ?_) (fun c_53 => ?_)
      · refine aw_iconst dX1_isAhead_72 ?_
        refine aw_goto (tgt := 77) dX1_isAhead_73 rfl ?_
        refine aw_breturn dX1_isAhead_77 rfl (by omega) ?_
        refine ⟨?_, rfl⟩
        by_cases e9 : ah ord (n4 (I 8)) (tup I p) (tup I q) = true
        · first | (rw [if_pos e9]; done) | (exfalso; rw [ah_iff] at e9; simp only [tup] at e9; rw [n4_lt hsp, n4_lt hsq] at e9; omega)
        · first | (rw [if_neg e9]; done) | (exfalso; apply e9; rw [ah_iff]; simp only [tup]; rw [n4_lt hsp, n4_lt hsq]; omega)
      · refine aw_iload dX1_isAhead_56 rfl ?_
        refine aw_if_ne (tgt := 76) dX1_isAhead_58 rfl (by first | assumption | (unfold ab_In at *; omega)) (fun c_58 => ?_) (fun c_58 => ?_)
        · refine aw_iconst dX1_isAhead_76 ?_
          refine aw_breturn dX1_isAhead_77 rfl (by omega) ?_
          refine ⟨?_, rfl⟩
          by_cases e9 : ah ord (n4 (I 8)) (tup I p) (tup I q) = true
          · first | (rw [if_pos e9]; done) | (exfalso; rw [ah_iff] at e9; simp only [tup] at e9; rw [n4_lt hsp, n4_lt hsq] at e9; omega)
          · first | (rw [if_neg e9]; done) | (exfalso; apply e9; rw [ah_iff]; simp only [tup]; rw [n4_lt hsp, n4_lt hsq]; omega)
        · refine aw_aload_n dX1_isAhead_61 rfl (by omega) ?_
          refine aw_geti dX1_isAhead_62 fX1_103 ⟨by omega, by omega⟩ (sh_p44 hp) rfl ?_
          refine aw_aload_n dX1_isAhead_65 rfl (by omega) ?_
          refine aw_geti dX1_isAhead_66 fX1_103 ⟨by omega, by omega⟩ (sh_p44 hq) rfl ?_
          refine aw_icmp_ge (tgt := 76) dX1_isAhead_69 rfl (by first | assumption | (unfold ab_In at *; omega)) (by first | assumption | (unfold ab_In at *; omega)) (fun c_69 => ?_) (fun c_69 => ?_)
          · refine aw_iconst dX1_isAhead_76 ?_
            refine aw_breturn dX1_isAhead_77 rfl (by omega) ?_
            refine ⟨?_, rfl⟩
            by_cases e9 : ah ord (n4 (I 8)) (tup I p) (tup I q) = true
            · first | (rw [if_pos e9]; done) | (exfalso; rw [ah_iff] at e9; simp only [tup] at e9; rw [n4_lt hsp, n4_lt hsq] at e9; omega)
            · first | (rw [if_neg e9]; done) | (exfalso; apply e9; rw [ah_iff]; simp only [tup]; rw [n4_lt hsp, n4_lt hsq]; omega)
          · refine aw_iconst dX1_isAhead_72 ?_
            refine aw_goto (tgt := 77) dX1_isAhead_73 rfl ?_
            refine aw_breturn dX1_isAhead_77 rfl (by omega) ?_
            refine ⟨?_, rfl⟩
            by_cases e9 : ah ord (n4 (I 8)) (tup I p) (tup I q) = true
            · first | (rw [if_pos e9]; done) | (exfalso; rw [ah_iff] at e9; simp only [tup] at e9; rw [n4_lt hsp, n4_lt hsq] at e9; omega)
            · first | (rw [if_neg e9]; done) | (exfalso; apply e9; rw [ah_iff]; simp only [tup]; rw [n4_lt hsp, n4_lt hsq]; omega)
    · refine aw_aload_n dX1_isAhead_40 rfl (by omega) ?_
      refine aw_geti dX1_isAhead_41 fX1_100 ⟨by omega, by omega⟩ (sh_p44 hp) rfl ?_
      refine aw_aload_n dX1_isAhead_44 rfl (by omega) ?_
      refine aw_geti dX1_isAhead_45 fX1_100 ⟨by omega, by omega⟩ (sh_p44 hq) rfl ?_
      refine aw_isub dX1_isAhead_48 ?_
      refine aw_istore (ls' := [some (ab_r 44), some (ab_r p), some (ab_r q), some (ab_i ord), some (ab_i ((I p 2) - (I q 2)))]) dX1_isAhead_49 (by decide) rfl ?_
      refine aw_iload dX1_isAhead_51 rfl ?_
      refine aw_if_gt (tgt := 72) dX1_isAhead_53 rfl (by first | assumption | (unfold ab_In at *; omega)) (fun c_53 => ?_) (fun c_53 => ?_)
      · refine aw_iconst dX1_isAhead_72 ?_
        refine aw_goto (tgt := 77) dX1_isAhead_73 rfl ?_
        refine aw_breturn dX1_isAhead_77 rfl (by omega) ?_
        refine ⟨?_, rfl⟩
        by_cases e9 : ah ord (n4 (I 8)) (tup I p) (tup I q) = true
        · first | (rw [if_pos e9]; done) | (exfalso; rw [ah_iff] at e9; simp only [tup] at e9; rw [n4_lt hsp, n4_lt hsq] at e9; omega)
        · first | (rw [if_neg e9]; done) | (exfalso; apply e9; rw [ah_iff]; simp only [tup]; rw [n4_lt hsp, n4_lt hsq]; omega)
      · refine aw_iload dX1_isAhead_56 rfl ?_
        refine aw_if_ne (tgt := 76) dX1_isAhead_58 rfl (by first | assumption | (unfold ab_In at *; omega)) (fun c_58 => ?_) (fun c_58 => ?_)
        · refine aw_iconst dX1_isAhead_76 ?_
          refine aw_breturn dX1_isAhead_77 rfl (by omega) ?_
          refine ⟨?_, rfl⟩
          by_cases e9 : ah ord (n4 (I 8)) (tup I p) (tup I q) = true
          · first | (rw [if_pos e9]; done) | (exfalso; rw [ah_iff] at e9; simp only [tup] at e9; rw [n4_lt hsp, n4_lt hsq] at e9; omega)
          · first | (rw [if_neg e9]; done) | (exfalso; apply e9; rw [ah_iff]; simp only [tup]; rw [n4_lt hsp, n4_lt hsq]; omega)
        · refine aw_aload_n dX1_isAhead_61 rfl (by omega) ?_
          refine aw_geti dX1_isAhead_62 fX1_103 ⟨by omega, by omega⟩ (sh_p44 hp) rfl ?_
          refine aw_aload_n dX1_isAhead_65 rfl (by omega) ?_
          refine aw_geti dX1_isAhead_66 fX1_103 ⟨by omega, by omega⟩ (sh_p44 hq) rfl ?_
          refine aw_icmp_ge (tgt := 76) dX1_isAhead_69 rfl (by first | assumption | (unfold ab_In at *; omega)) (by first | assumption | (unfold ab_In at *; omega)) (fun c_69 => ?_) (fun c_69 => ?_)
          · refine aw_iconst dX1_isAhead_76 ?_
            refine aw_breturn dX1_isAhead_77 rfl (by omega) ?_
            refine ⟨?_, rfl⟩
            by_cases e9 : ah ord (n4 (I 8)) (tup I p) (tup I q) = true
            · first | (rw [if_pos e9]; done) | (exfalso; rw [ah_iff] at e9; simp only [tup] at e9; rw [n4_lt hsp, n4_lt hsq] at e9; omega)
            · first | (rw [if_neg e9]; done) | (exfalso; apply e9; rw [ah_iff]; simp only [tup]; rw [n4_lt hsp, n4_lt hsq]; omega)
          · refine aw_iconst dX1_isAhead_72 ?_
            refine aw_goto (tgt := 77) dX1_isAhead_73 rfl ?_
            refine aw_breturn dX1_isAhead_77 rfl (by omega) ?_
            refine ⟨?_, rfl⟩
            by_cases e9 : ah ord (n4 (I 8)) (tup I p) (tup I q) = true
            · first | (rw [if_pos e9]; done) | (exfalso; rw [ah_iff] at e9; simp only [tup] at e9; rw [n4_lt hsp, n4_lt hsq] at e9; omega)
            · first | (rw [if_neg e9]; done) | (exfalso; apply e9; rw [ah_iff]; simp only [tup]; rw [n4_lt hsp, n4_lt hsq]; omega)
set_option maxHeartbeats 4000000 in
set_option maxRecDepth 100000 in
theorem ct_X1_stand_44 (G : ab_G) (I : Nat → Nat → Int) (F : Nat → Nat → Nat) (hF : ab_FB F) (wk nx : Int) (hb : ∀ p, 53 ≤ p → p ≤ 64 → PB wk nx (tup I p)) (hwk : wk ≤ 3000) (hnx : nx ≤ 100000) (hn : ∀ s, s < 4 → 1 ≤ I 8 s ∧ I 8 s ≤ 9) (ord : Int) (ho : ab_In ord) (N : Nat) (hN : I 44 2 = N) (hN12 : N ≤ 12) (hP : ∀ j, j < 12 → 53 ≤ F 45 j ∧ F 45 j ≤ 64) : Ct G 1 0 0 YX1_stand [ab_r 44, ab_i ord] (104, I, F) (fun r h => r = none ∧ h = (104, I, rw_ F 45 (sd (fun a b => ah ord (n4 (I 8)) (tup I a) (tup I b)) (F 45) N))) := by
  refine Ct.ofW kX1_stand (ls := [some (ab_r 44), some (ab_i ord), none, none, none]) (Nat.le_of_ble_eq_true rfl) rfl ?_
  generalize hZ : ab_Z G (fun r h => r = none ∧ h = (104, I, rw_ F 45 (sd (fun a b => ah ord (n4 (I 8)) (tup I a) (tup I b)) (F 45) N))) 0 0 = Z
  generalize hRd : (fun a b => ah ord (n4 (I 8)) (tup I a) (tup I b)) = Rd at *
  have outer : ∀ (m k : Nat), N + 1 ≤ k + m → 1 ≤ k → k ≤ N + 1 → aW G YX1_stand (ab_rm 1 0 0) Z 0 0 (104, I, rw_ F 45 (sd Rd (F 45) (if k ≤ N then k else N))) 2 [some (ab_r 44), some (ab_i ord), some (ab_i (k : Int)), none, none] [] := by
    intro m
    induction m with
    | zero =>
      intro k hk h1 h2
      have hk2 : k = N + 1 := by omega
      have hF2 : ab_FB (rw_ F 45 (sd Rd (F 45) (if k ≤ N then k else N))) := hF.rw 45 _ (by omega)
      subst hZ
      refine aw_iload_n dX1_stand_2 rfl ?_
      refine aw_aload_n dX1_stand_3 rfl (by decide) ?_
      refine aw_geti dX1_stand_4 fX1_17 ⟨Nat.le_of_ble_eq_true rfl, Nat.le_of_ble_eq_true rfl⟩ rfl rfl ?_
      refine aw_icmp_ge (tgt := 79) dX1_stand_7 rfl (by first | assumption | (unfold ab_In at *; omega)) (by first | assumption | (unfold ab_In at *; omega)) (fun c_7 => ?_) (fun c_7 => ?_)
      · refine aw_return dX1_stand_79 rfl ?_
        refine ⟨rfl, ?_⟩
        rw [if_neg (by omega)]
      · exfalso; omega
    | succ m ih =>
      intro k hk h1 h2
      have hF2 : ab_FB (rw_ F 45 (sd Rd (F 45) (if k ≤ N then k else N))) := hF.rw 45 _ (by omega)
      refine aw_iload_n dX1_stand_2 rfl ?_
      refine aw_aload_n dX1_stand_3 rfl (by decide) ?_
      refine aw_geti dX1_stand_4 fX1_17 ⟨Nat.le_of_ble_eq_true rfl, Nat.le_of_ble_eq_true rfl⟩ rfl rfl ?_
      refine aw_icmp_ge (tgt := 79) dX1_stand_7 rfl (by first | assumption | (unfold ab_In at *; omega)) (by first | assumption | (unfold ab_In at *; omega)) (fun c_7 => ?_) (fun c_7 => ?_)
      · rw [← hZ]
        refine aw_return dX1_stand_79 rfl ?_
        refine ⟨rfl, ?_⟩
        have hkN : ¬ k ≤ N ∨ k = N := by omega
        rcases hkN with q | q
        · rw [if_neg q]
        · rw [if_pos (by omega), q]
      · have hkN : k < N := by omega
        rw [if_pos (by omega)] at *
        generalize hg : sd Rd (F 45) k = g at *
        have hgP : ∀ j, j < 12 → 53 ≤ g j ∧ g j ≤ 64 := by rw [← hg]; exact sd_all Rd (fun p => 53 ≤ p ∧ p ≤ 64) hP k (by omega)
        refine aw_aload_n dX1_stand_10 rfl (by decide) ?_
        refine aw_getrv (r := 45) dX1_stand_11 fX1_11 ⟨Nat.le_of_ble_eq_true rfl, Nat.le_of_ble_eq_true rfl⟩ rfl rfl (hF2.at 44 1 45 rfl rfl rfl) ?_
        refine aw_iload_n dX1_stand_14 rfl ?_
        refine aw_aaldv (r := g k) dX1_stand_15 ⟨Nat.le_of_ble_eq_true rfl, Nat.le_of_ble_eq_true rfl⟩ rfl (by decide) (by omega) (by omega) (by decide) (rw_s _ _ _ _) ?_
        have hone := hgP k (by omega)
        generalize hone9 : g k = one at *
        have hF3 : ∀ p, ab_FB (rw_ F 45 (sd_g g p k)) := fun p => hF.rw 45 _ (by omega)
        have inner : ∀ p, p ≤ k → aW G YX1_stand (ab_rm 1 0 0) Z 0 0 (104, I, rw_ F 45 (sd_s g (sd_f Rd g one p) k one)) 73 [some (ab_r 44), some (ab_i ord), some (ab_i (k : Int)), some (ab_r one), some (ab_i ((sd_f Rd g one p : Nat) : Int))] [] → aW G YX1_stand (ab_rm 1 0 0) Z 0 0 (104, I, rw_ F 45 (sd_g g p k)) 20 [some (ab_r 44), some (ab_i ord), some (ab_i (k : Int)), some (ab_r one), some (ab_i (p : Int))] [] := by
          intro p
          induction p with
          | zero =>
            intro hp0 hk9
            refine aw_iload dX1_stand_20 rfl ?_
            refine aw_if_le (tgt := 65) dX1_stand_22 rfl (by first | assumption | (unfold ab_In at *; omega)) (fun c_22 => ?_) (fun c_22 => ?_)
            · refine aw_aload_n dX1_stand_65 rfl (by decide) ?_
              refine aw_getrv (r := 45) dX1_stand_66 fX1_11 ⟨Nat.le_of_ble_eq_true rfl, Nat.le_of_ble_eq_true rfl⟩ rfl rfl ((hF3 _).at 44 1 45 rfl rfl rfl) ?_
              refine aw_iload dX1_stand_69 rfl ?_
              refine aw_aload_n dX1_stand_71 rfl (by omega) ?_
              refine aw_aastv (q := (0)) kc4 dX1_stand_72 ⟨Nat.le_of_ble_eq_true rfl, Nat.le_of_ble_eq_true rfl⟩ rfl (by omega) (by omega) (by decide) ⟨by omega, by omega⟩ (sh_p44 hone) rfl ?_
              rw [rw_w, sd_g_put g (by omega)]
              exact hk9
            · exact absurd (Int.le_refl 0) c_22
          | succ p ihp =>
            intro hp0 hk9
            have hpp := hgP p (by omega)
            have e1 : ∀ z : Int, z = ((p + 1 : Nat) : Int) - 1 → z.toNat = p := fun z hz => by omega
            refine aw_iload dX1_stand_20 rfl ?_
            refine aw_if_le (tgt := 65) dX1_stand_22 rfl (by first | assumption | (unfold ab_In at *; omega)) (fun c_22 => ?_) (fun c_22 => ?_)
            · exfalso; omega
            · refine aw_aload_n dX1_stand_25 rfl (by decide) ?_
              refine aw_aload_n dX1_stand_26 rfl (by omega) ?_
              refine aw_aload_n dX1_stand_27 rfl (by decide) ?_
              refine aw_getrv (r := 45) dX1_stand_28 fX1_11 ⟨Nat.le_of_ble_eq_true rfl, Nat.le_of_ble_eq_true rfl⟩ rfl rfl ((hF3 _).at 44 1 45 rfl rfl rfl) ?_
              refine aw_iload dX1_stand_31 rfl ?_
              refine aw_iconst dX1_stand_33 ?_
              refine aw_isub dX1_stand_34 ?_
              refine aw_aaldv (r := g p) dX1_stand_35 ⟨Nat.le_of_ble_eq_true rfl, Nat.le_of_ble_eq_true rfl⟩ rfl (by decide) (by omega) (by omega) (by decide) (by rw [rw_s]; unfold sd_g; rw [show (((p + 1 : Nat) : Int) - 1).toNat = p by omega, if_pos (by omega)]) ?_
              refine aw_iload_n dX1_stand_36 rfl ?_
              refine aw_callV (as := [ab_r one, ab_r (g p), ab_i ord]) (rest := []) dX1_stand_37 (ct_X1_isAhead_44 G I _ (hF3 _) wk nx hb hwk hnx hn one (g p) hone hpp ord ho) ⟨Nat.le_of_ble_eq_true rfl, Nat.le_of_ble_eq_true rfl⟩ rfl kc1 rfl kX1_isAhead iX1_isAhead eX1_isAhead lX1_89 rfl (Nat.le_of_ble_eq_true rfl) (by decide) (by decide) (by decide) (by decide) ?_
              rintro _ _ ⟨rfl, rfl⟩
              rw [show ah ord (n4 (I 8)) (tup I one) (tup I (g p)) = Rd one (g p) from congrFun (congrFun hRd one) (g p)]
              refine aw_if_eq (tgt := 65) dX1_stand_40 rfl (by split <;> (unfold ab_In; omega)) (fun c_40 => ?_) (fun c_40 => ?_)
              · have hq : ¬ Rd one (g p) = true := fun e => by rw [if_pos e] at c_40; omega
                have hs : sd_f Rd g one (p + 1) = p + 1 := by unfold sd_f; rw [if_neg hq]
                rw [hs] at hk9
                refine aw_aload_n dX1_stand_65 rfl (by decide) ?_
                refine aw_getrv (r := 45) dX1_stand_66 fX1_11 ⟨Nat.le_of_ble_eq_true rfl, Nat.le_of_ble_eq_true rfl⟩ rfl rfl ((hF3 _).at 44 1 45 rfl rfl rfl) ?_
                refine aw_iload dX1_stand_69 rfl ?_
                refine aw_aload_n dX1_stand_71 rfl (by omega) ?_
                refine aw_aastv (q := (p + 1)) kc4 dX1_stand_72 ⟨Nat.le_of_ble_eq_true rfl, Nat.le_of_ble_eq_true rfl⟩ rfl (by omega) (by omega) (by decide) ⟨by omega, by omega⟩ (sh_p44 hone) rfl ?_
                rw [rw_w, sd_g_put g (by omega)]
                exact hk9
              · refine aw_aload_n dX1_stand_43 rfl (by decide) ?_
                refine aw_getrv (r := 45) dX1_stand_44 fX1_11 ⟨Nat.le_of_ble_eq_true rfl, Nat.le_of_ble_eq_true rfl⟩ rfl rfl ((hF3 _).at 44 1 45 rfl rfl rfl) ?_
                refine aw_iload dX1_stand_47 rfl ?_
                refine aw_aload_n dX1_stand_49 rfl (by decide) ?_
                refine aw_getrv (r := 45) dX1_stand_50 fX1_11 ⟨Nat.le_of_ble_eq_true rfl, Nat.le_of_ble_eq_true rfl⟩ rfl rfl ((hF3 _).at 44 1 45 rfl rfl rfl) ?_
                refine aw_iload dX1_stand_53 rfl ?_
                refine aw_iconst dX1_stand_55 ?_
                refine aw_isub dX1_stand_56 ?_
                refine aw_aaldv (r := g p) dX1_stand_57 ⟨Nat.le_of_ble_eq_true rfl, Nat.le_of_ble_eq_true rfl⟩ rfl (by decide) (by omega) (by omega) (by decide) (by rw [rw_s]; unfold sd_g; rw [show (((p + 1 : Nat) : Int) - 1).toNat = p by omega, if_pos (by omega)]) ?_
                refine aw_aastv (q := (p + 1)) kc4 dX1_stand_58 ⟨Nat.le_of_ble_eq_true rfl, Nat.le_of_ble_eq_true rfl⟩ rfl (by omega) (by omega) (by decide) ⟨by omega, by omega⟩ (sh_p44 hpp) rfl ?_
                refine aw_iinc (ls' := [some (ab_r 44), some (ab_i ord), some (ab_i (k : Int)), some (ab_r one), some (ab_i (((p + 1 : Nat) : Int) + (-1)))]) dX1_stand_59 (by decide) rfl rfl ?_
                refine aw_goto (tgt := 20) dX1_stand_62 rfl ?_
                have hq : Rd one (g p) = true := Decidable.byContradiction (fun e => c_40 (by rw [if_neg e]))
                have hs : sd_f Rd g one (p + 1) = sd_f Rd g one p := by rw [sd_f, if_pos hq]
                rw [hs] at hk9
                have ih9 := ihp (by omega) hk9
                rw [rw_w, sd_g_dn2 g (by omega)]
                refine aw_ls ?_ ih9
                rw [show (((p + 1 : Nat) : Int) + (-1)) = (p : Int) by omega]
        refine aw_astore_n (ls' := [some (ab_r 44), some (ab_i ord), some (ab_i (k : Int)), some (ab_r one), none]) dX1_stand_16 (by decide) (by omega) rfl ?_
        refine aw_iload_n dX1_stand_17 rfl ?_
        refine aw_istore (ls' := [some (ab_r 44), some (ab_i ord), some (ab_i (k : Int)), some (ab_r one), some (ab_i (k : Int))]) dX1_stand_18 (by decide) rfl ?_
        have hst := inner k (Nat.le_refl k) ?_
        · rw [sd_g_i] at hst; exact hst
        refine aw_iinc (ls' := [some (ab_r 44), some (ab_i ord), some (ab_i ((k : Int) + 1)), some (ab_r one), some (ab_i ((sd_f Rd g one k : Nat) : Int))]) dX1_stand_73 (by decide) rfl rfl ?_
        refine aw_goto (tgt := 2) dX1_stand_76 rfl ?_
        have ih9 := ih (k + 1) (by omega) (by omega) (by omega)
        rw [if_pos (by omega)] at ih9
        have e3 : sd Rd (F 45) (k + 1) = sd_s g (sd_f Rd g one k) k one := by rw [sd_succ Rd (F 45) h1, hg, hone9]
        rw [e3] at ih9
        exact aw_le (ab_le_c (ab_le_c (ab_le_c (ab_le_n (ab_le_n ab_le_nil))))) ih9
  refine aw_iconst dX1_stand_0 ?_
  refine aw_istore_n (ls' := [some (ab_r 44), some (ab_i ord), some (ab_i 1), none, none]) dX1_stand_1 (by decide) rfl ?_
  have h9 := outer N 1 (by omega) (by omega) (by omega)
  have e9 : sd Rd (F 45) (if 1 ≤ N then 1 else N) = F 45 := sd_le1 _ _ (by split <;> omega)
  rw [e9, rw_id] at h9
  exact h9
end
