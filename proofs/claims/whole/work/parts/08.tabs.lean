theorem lw_t : lw_tbl = k2_sels lw_privs ++ (tables_1_1 ++ (tables_1_2 ++ (tables_1_3 ++ (tables_1_4 ++ tables_1_5)))) := rfl
theorem lw_in1 {w : Cond} {k : Nat} (h : tables_1_1[k]? = some w) (hg : goodWord w = true) : w ∈ lw_all := List.mem_filter.mpr ⟨by rw [lw_t]; exact List.mem_append_right _ (List.mem_append_left _ (List.mem_of_getElem? h)), hg⟩
theorem lw_in2 {w : Cond} {k : Nat} (h : tables_1_2[k]? = some w) (hg : goodWord w = true) : w ∈ lw_all := List.mem_filter.mpr ⟨by rw [lw_t]; exact List.mem_append_right _ (List.mem_append_right _ (List.mem_append_left _ (List.mem_of_getElem? h))), hg⟩
theorem lw_in3 {w : Cond} {k : Nat} (h : tables_1_3[k]? = some w) (hg : goodWord w = true) : w ∈ lw_all := List.mem_filter.mpr ⟨by rw [lw_t]; exact List.mem_append_right _ (List.mem_append_right _ (List.mem_append_right _ (List.mem_append_left _ (List.mem_of_getElem? h)))), hg⟩
theorem lw_in4 {w : Cond} {k : Nat} (h : tables_1_4[k]? = some w) (hg : goodWord w = true) : w ∈ lw_all := List.mem_filter.mpr ⟨by rw [lw_t]; exact List.mem_append_right _ (List.mem_append_right _ (List.mem_append_right _ (List.mem_append_right _ (List.mem_append_left _ (List.mem_of_getElem? h))))), hg⟩
theorem lw_in5 {w : Cond} {k : Nat} (h : tables_1_5[k]? = some w) (hg : goodWord w = true) : w ∈ lw_all := List.mem_filter.mpr ⟨by rw [lw_t]; exact List.mem_append_right _ (List.mem_append_right _ (List.mem_append_right _ (List.mem_append_right _ (List.mem_append_right _ (List.mem_of_getElem? h))))), hg⟩
theorem lw_in0 {q : MethodName × Nat} {k : Nat} (h : lw_privs[k]? = some q) : Cond.selects q.1.cls q.1 q.1 ∈ lw_all := List.mem_filter.mpr ⟨by rw [lw_t]; exact List.mem_append_left _ (List.mem_map.mpr ⟨q, List.mem_of_getElem? h, rfl⟩), rfl⟩
abbrev YX0_init : ab_Y := (yX0_init, cX0_init, 2, none)
theorem kX0_init : ab_YK YX0_init 1 := ⟨lw_in2 (k := 83) rfl rfl, lw_in1 (k := 13) rfl rfl, ⟨by decide, by decide⟩, by decide +kernel, by decide⟩
theorem iX0_init : Cond.instanceMethod YX0_init.1 ∈ lw_all := lw_in2 (k := 82) rfl rfl
abbrev YX0_find : ab_Y := (yX0_find, cX0_find, 2, none)
theorem kX0_find : ab_YK YX0_find 1 := ⟨lw_in4 (k := 54) rfl rfl, lw_in1 (k := 13) rfl rfl, ⟨by decide, by decide⟩, by decide +kernel, by decide⟩
theorem iX0_find : Cond.instanceMethod YX0_find.1 ∈ lw_all := lw_in4 (k := 52) rfl rfl
theorem eX0_find : Cond.selects YX0_find.1.cls YX0_find.1 YX0_find.1 ∈ lw_all := lw_in4 (k := 53) rfl rfl
abbrev YX0_goOn : ab_Y := (yX0_goOn, cX0_goOn, 5, none)
theorem kX0_goOn : ab_YK YX0_goOn 3 := ⟨lw_in4 (k := 58) rfl rfl, lw_in1 (k := 13) rfl rfl, ⟨by decide, by decide⟩, by decide +kernel, by decide⟩
theorem iX0_goOn : Cond.instanceMethod YX0_goOn.1 ∈ lw_all := lw_in4 (k := 57) rfl rfl
theorem eX0_goOn : Cond.selects YX0_goOn.1.cls YX0_goOn.1 YX0_goOn.1 ∈ lw_all := lw_in0 (k := 22) (q := (yX0_goOn, _)) rfl
abbrev YX1_init : ab_Y := (yX1_init, cX1_init, 3, none)
theorem kX1_init : ab_YK YX1_init 1 := ⟨lw_in1 (k := 163) rfl rfl, lw_in1 (k := 7) rfl rfl, ⟨by decide, by decide⟩, by decide +kernel, by decide⟩
theorem iX1_init : Cond.instanceMethod YX1_init.1 ∈ lw_all := lw_in1 (k := 162) rfl rfl
abbrev YX1_beginLike : ab_Y := (yX1_beginLike, cX1_beginLike, 3, none)
theorem kX1_beginLike : ab_YK YX1_beginLike 1 := ⟨lw_in3 (k := 151) rfl rfl, lw_in1 (k := 7) rfl rfl, ⟨by decide, by decide⟩, by decide +kernel, by decide⟩
theorem iX1_beginLike : Cond.instanceMethod YX1_beginLike.1 ∈ lw_all := lw_in3 (k := 149) rfl rfl
theorem eX1_beginLike : Cond.selects YX1_beginLike.1.cls YX1_beginLike.1 YX1_beginLike.1 ∈ lw_all := lw_in3 (k := 150) rfl rfl
abbrev YX1_isFull : ab_Y := (yX1_isFull, cX1_isFull, 1, (some .boolean))
theorem kX1_isFull : ab_YK YX1_isFull 0 := ⟨lw_in2 (k := 179) rfl rfl, lw_in1 (k := 7) rfl rfl, ⟨by decide, by decide⟩, by decide +kernel, by decide⟩
theorem iX1_isFull : Cond.instanceMethod YX1_isFull.1 ∈ lw_all := lw_in2 (k := 177) rfl rfl
theorem eX1_isFull : Cond.selects YX1_isFull.1.cls YX1_isFull.1 YX1_isFull.1 ∈ lw_all := lw_in2 (k := 178) rfl rfl
abbrev YX1_add : ab_Y := (yX1_add, cX1_add, 2, none)
theorem kX1_add : ab_YK YX1_add 1 := ⟨lw_in2 (k := 183) rfl rfl, lw_in1 (k := 7) rfl rfl, ⟨by decide, by decide⟩, by decide +kernel, by decide⟩
theorem iX1_add : Cond.instanceMethod YX1_add.1 ∈ lw_all := lw_in2 (k := 181) rfl rfl
theorem eX1_add : Cond.selects YX1_add.1.cls YX1_add.1 YX1_add.1 ∈ lw_all := lw_in2 (k := 182) rfl rfl
abbrev YX1_total : ab_Y := (yX1_total, cX1_total, 4, (some .int))
theorem kX1_total : ab_YK YX1_total 1 := ⟨lw_in3 (k := 160) rfl rfl, lw_in1 (k := 7) rfl rfl, ⟨by decide, by decide⟩, by decide +kernel, by decide⟩
theorem iX1_total : Cond.instanceMethod YX1_total.1 ∈ lw_all := lw_in3 (k := 158) rfl rfl
theorem eX1_total : Cond.selects YX1_total.1.cls YX1_total.1 YX1_total.1 ∈ lw_all := lw_in3 (k := 159) rfl rfl
abbrev YX1_gained : ab_Y := (yX1_gained, cX1_gained, 2, (some .int))
theorem kX1_gained : ab_YK YX1_gained 1 := ⟨lw_in3 (k := 169) rfl rfl, lw_in1 (k := 7) rfl rfl, ⟨by decide, by decide⟩, by decide +kernel, by decide⟩
theorem iX1_gained : Cond.instanceMethod YX1_gained.1 ∈ lw_all := lw_in3 (k := 167) rfl rfl
theorem eX1_gained : Cond.selects YX1_gained.1.cls YX1_gained.1 YX1_gained.1 ∈ lw_all := lw_in3 (k := 168) rfl rfl
abbrev YX1_pass : ab_Y := (yX1_pass, cX1_pass, 6, none)
theorem kX1_pass : ab_YK YX1_pass 2 := ⟨lw_in2 (k := 196) rfl rfl, lw_in1 (k := 7) rfl rfl, ⟨by decide, by decide⟩, by decide +kernel, by decide⟩
theorem iX1_pass : Cond.instanceMethod YX1_pass.1 ∈ lw_all := lw_in2 (k := 194) rfl rfl
theorem eX1_pass : Cond.selects YX1_pass.1.cls YX1_pass.1 YX1_pass.1 ∈ lw_all := lw_in2 (k := 195) rfl rfl
abbrev YX1_stand : ab_Y := (yX1_stand, cX1_stand, 5, none)
theorem kX1_stand : ab_YK YX1_stand 1 := ⟨lw_in2 (k := 208) rfl rfl, lw_in1 (k := 7) rfl rfl, ⟨by decide, by decide⟩, by decide +kernel, by decide⟩
theorem iX1_stand : Cond.instanceMethod YX1_stand.1 ∈ lw_all := lw_in2 (k := 206) rfl rfl
theorem eX1_stand : Cond.selects YX1_stand.1.cls YX1_stand.1 YX1_stand.1 ∈ lw_all := lw_in2 (k := 207) rfl rfl
abbrev YX1_isAhead : ab_Y := (yX1_isAhead, cX1_isAhead, 5, (some .boolean))
theorem kX1_isAhead : ab_YK YX1_isAhead 3 := ⟨lw_in2 (k := 212) rfl rfl, lw_in1 (k := 7) rfl rfl, ⟨by decide, by decide⟩, by decide +kernel, by decide⟩
theorem iX1_isAhead : Cond.instanceMethod YX1_isAhead.1 ∈ lw_all := lw_in2 (k := 211) rfl rfl
theorem eX1_isAhead : Cond.selects YX1_isAhead.1.cls YX1_isAhead.1 YX1_isAhead.1 ∈ lw_all := lw_in0 (k := 1) (q := (yX1_isAhead, _)) rfl
abbrev YX1_offer : ab_Y := (yX1_offer, cX1_offer, 8, none)
theorem kX1_offer : ab_YK YX1_offer 2 := ⟨lw_in2 (k := 204) rfl rfl, lw_in1 (k := 7) rfl rfl, ⟨by decide, by decide⟩, by decide +kernel, by decide⟩
theorem iX1_offer : Cond.instanceMethod YX1_offer.1 ∈ lw_all := lw_in2 (k := 203) rfl rfl
theorem eX1_offer : Cond.selects YX1_offer.1.cls YX1_offer.1 YX1_offer.1 ∈ lw_all := lw_in0 (k := 0) (q := (yX1_offer, _)) rfl
abbrev YX1_house : ab_Y := (yX1_house, cX1_house, 3, none)
theorem kX1_house : ab_YK YX1_house 2 := ⟨lw_in2 (k := 224) rfl rfl, lw_in1 (k := 7) rfl rfl, ⟨by decide, by decide⟩, by decide +kernel, by decide⟩
theorem iX1_house : Cond.instanceMethod YX1_house.1 ∈ lw_all := lw_in2 (k := 223) rfl rfl
theorem eX1_house : Cond.selects YX1_house.1.cls YX1_house.1 YX1_house.1 ∈ lw_all := lw_in0 (k := 3) (q := (yX1_house, _)) rfl
abbrev YX1_sayNo : ab_Y := (yX1_sayNo, cX1_sayNo, 3, (some .boolean))
theorem kX1_sayNo : ab_YK YX1_sayNo 2 := ⟨lw_in2 (k := 220) rfl rfl, lw_in1 (k := 7) rfl rfl, ⟨by decide, by decide⟩, by decide +kernel, by decide⟩
theorem iX1_sayNo : Cond.instanceMethod YX1_sayNo.1 ∈ lw_all := lw_in2 (k := 219) rfl rfl
theorem eX1_sayNo : Cond.selects YX1_sayNo.1.cls YX1_sayNo.1 YX1_sayNo.1 ∈ lw_all := lw_in0 (k := 2) (q := (yX1_sayNo, _)) rfl
abbrev YX1_arrive : ab_Y := (yX1_arrive, cX1_arrive, 2, none)
theorem kX1_arrive : ab_YK YX1_arrive 1 := ⟨lw_in2 (k := 228) rfl rfl, lw_in1 (k := 7) rfl rfl, ⟨by decide, by decide⟩, by decide +kernel, by decide⟩
theorem iX1_arrive : Cond.instanceMethod YX1_arrive.1 ∈ lw_all := lw_in2 (k := 227) rfl rfl
theorem eX1_arrive : Cond.selects YX1_arrive.1.cls YX1_arrive.1 YX1_arrive.1 ∈ lw_all := lw_in0 (k := 4) (q := (yX1_arrive, _)) rfl
abbrev YX1_growOlder : ab_Y := (yX1_growOlder, cX1_growOlder, 4, none)
theorem kX1_growOlder : ab_YK YX1_growOlder 1 := ⟨lw_in2 (k := 233) rfl rfl, lw_in1 (k := 7) rfl rfl, ⟨by decide, by decide⟩, by decide +kernel, by decide⟩
theorem iX1_growOlder : Cond.instanceMethod YX1_growOlder.1 ∈ lw_all := lw_in2 (k := 232) rfl rfl
theorem eX1_growOlder : Cond.selects YX1_growOlder.1.cls YX1_growOlder.1 YX1_growOlder.1 ∈ lw_all := lw_in0 (k := 5) (q := (yX1_growOlder, _)) rfl
abbrev YX2_init : ab_Y := (yX2_init, cX2_init, 2, none)
theorem kX2_init : ab_YK YX2_init 1 := ⟨lw_in2 (k := 41) rfl rfl, lw_in1 (k := 11) rfl rfl, ⟨by decide, by decide⟩, by decide +kernel, by decide⟩
theorem iX2_init : Cond.instanceMethod YX2_init.1 ∈ lw_all := lw_in2 (k := 40) rfl rfl
abbrev YX2_add : ab_Y := (yX2_add, cX2_add, 3, (some .int))
theorem kX2_add : ab_YK YX2_add 2 := ⟨lw_in4 (k := 18) rfl rfl, lw_in1 (k := 11) rfl rfl, ⟨by decide, by decide⟩, by decide +kernel, by decide⟩
theorem iX2_add : Cond.instanceMethod YX2_add.1 ∈ lw_all := lw_in4 (k := 16) rfl rfl
theorem eX2_add : Cond.selects YX2_add.1.cls YX2_add.1 YX2_add.1 ∈ lw_all := lw_in4 (k := 17) rfl rfl
abbrev YX2_likesMore : ab_Y := (yX2_likesMore, cX2_likesMore, 5, (some .boolean))
theorem kX2_likesMore : ab_YK YX2_likesMore 3 := ⟨lw_in4 (k := 42) rfl rfl, lw_in1 (k := 11) rfl rfl, ⟨by decide, by decide⟩, by decide +kernel, by decide⟩
theorem iX2_likesMore : Cond.instanceMethod YX2_likesMore.1 ∈ lw_all := lw_in4 (k := 40) rfl rfl
theorem eX2_likesMore : Cond.selects YX2_likesMore.1.cls YX2_likesMore.1 YX2_likesMore.1 ∈ lw_all := lw_in4 (k := 41) rfl rfl
abbrev YX3_init : ab_Y := (yX3_init, cX3_init, 2, none)
theorem kX3_init : ab_YK YX3_init 1 := ⟨lw_in2 (k := 22) rfl rfl, lw_in1 (k := 10) rfl rfl, ⟨by decide, by decide⟩, by decide +kernel, by decide⟩
theorem iX3_init : Cond.instanceMethod YX3_init.1 ∈ lw_all := lw_in2 (k := 21) rfl rfl
abbrev YX3_gather : ab_Y := (yX3_gather, cX3_gather, 4, none)
theorem kX3_gather : ab_YK YX3_gather 2 := ⟨lw_in3 (k := 223) rfl rfl, lw_in1 (k := 10) rfl rfl, ⟨by decide, by decide⟩, by decide +kernel, by decide⟩
theorem iX3_gather : Cond.instanceMethod YX3_gather.1 ∈ lw_all := lw_in3 (k := 221) rfl rfl
theorem eX3_gather : Cond.selects YX3_gather.1.cls YX3_gather.1 YX3_gather.1 ∈ lw_all := lw_in3 (k := 222) rfl rfl
abbrev YX3_lay : ab_Y := (yX3_lay, cX3_lay, 4, none)
theorem kX3_lay : ab_YK YX3_lay 2 := ⟨lw_in3 (k := 228) rfl rfl, lw_in1 (k := 10) rfl rfl, ⟨by decide, by decide⟩, by decide +kernel, by decide⟩
theorem iX3_lay : Cond.instanceMethod YX3_lay.1 ∈ lw_all := lw_in3 (k := 226) rfl rfl
theorem eX3_lay : Cond.selects YX3_lay.1.cls YX3_lay.1 YX3_lay.1 ∈ lw_all := lw_in3 (k := 227) rfl rfl
abbrev YX3_rowsFor : ab_Y := (yX3_rowsFor, cX3_rowsFor, 3, (some .int))
theorem kX3_rowsFor : ab_YK YX3_rowsFor 2 := ⟨lw_in3 (k := 233) rfl rfl, lw_in1 (k := 10) rfl rfl, ⟨by decide, by decide⟩, by decide +kernel, by decide⟩
theorem iX3_rowsFor : Cond.instanceMethod YX3_rowsFor.1 ∈ lw_all := lw_in3 (k := 231) rfl rfl
theorem eX3_rowsFor : Cond.selects YX3_rowsFor.1.cls YX3_rowsFor.1 YX3_rowsFor.1 ∈ lw_all := lw_in3 (k := 232) rfl rfl
abbrev YX3_rowsFrom : ab_Y := (yX3_rowsFrom, cX3_rowsFrom, 8, (some .int))
theorem kX3_rowsFrom : ab_YK YX3_rowsFrom 4 := ⟨lw_in3 (k := 237) rfl rfl, lw_in1 (k := 10) rfl rfl, ⟨by decide, by decide⟩, by decide +kernel, by decide⟩
theorem iX3_rowsFrom : Cond.instanceMethod YX3_rowsFrom.1 ∈ lw_all := lw_in3 (k := 236) rfl rfl
theorem eX3_rowsFrom : Cond.selects YX3_rowsFrom.1.cls YX3_rowsFrom.1 YX3_rowsFrom.1 ∈ lw_all := lw_in0 (k := 18) (q := (yX3_rowsFrom, _)) rfl
abbrev YX3_kindTaken : ab_Y := (yX3_kindTaken, cX3_kindTaken, 4, (some .int))
theorem kX3_kindTaken : ab_YK YX3_kindTaken 1 := ⟨lw_in4 (k := 1) rfl rfl, lw_in1 (k := 10) rfl rfl, ⟨by decide, by decide⟩, by decide +kernel, by decide⟩
theorem iX3_kindTaken : Cond.instanceMethod YX3_kindTaken.1 ∈ lw_all := lw_in4 (k := 0) rfl rfl
theorem eX3_kindTaken : Cond.selects YX3_kindTaken.1.cls YX3_kindTaken.1 YX3_kindTaken.1 ∈ lw_all := lw_in0 (k := 19) (q := (yX3_kindTaken, _)) rfl
abbrev YX4_init : ab_Y := (yX4_init, cX4_init, 1, none)
theorem kX4_init : ab_YK YX4_init 0 := ⟨lw_in1 (k := 171) rfl rfl, lw_in1 (k := 8) rfl rfl, ⟨by decide, by decide⟩, by decide +kernel, by decide⟩
theorem iX4_init : Cond.instanceMethod YX4_init.1 ∈ lw_all := lw_in1 (k := 170) rfl rfl
abbrev YX4_begin : ab_Y := (yX4_begin, cX4_begin, 3, none)
theorem kX4_begin : ab_YK YX4_begin 2 := ⟨lw_in2 (k := 188) rfl rfl, lw_in1 (k := 8) rfl rfl, ⟨by decide, by decide⟩, by decide +kernel, by decide⟩
theorem iX4_begin : Cond.instanceMethod YX4_begin.1 ∈ lw_all := lw_in2 (k := 186) rfl rfl
theorem eX4_begin : Cond.selects YX4_begin.1.cls YX4_begin.1 YX4_begin.1 ∈ lw_all := lw_in2 (k := 187) rfl rfl
abbrev YX4_copy : ab_Y := (yX4_copy, cX4_copy, 2, none)
theorem kX4_copy : ab_YK YX4_copy 1 := ⟨lw_in3 (k := 155) rfl rfl, lw_in1 (k := 8) rfl rfl, ⟨by decide, by decide⟩, by decide +kernel, by decide⟩
theorem iX4_copy : Cond.instanceMethod YX4_copy.1 ∈ lw_all := lw_in3 (k := 153) rfl rfl
theorem eX4_copy : Cond.selects YX4_copy.1.cls YX4_copy.1 YX4_copy.1 ∈ lw_all := lw_in3 (k := 154) rfl rfl
abbrev YX5_init : ab_Y := (yX5_init, cX5_init, 2, none)
theorem kX5_init : ab_YK YX5_init 1 := ⟨lw_in1 (k := 234) rfl rfl, lw_in1 (k := 9) rfl rfl, ⟨by decide, by decide⟩, by decide +kernel, by decide⟩
theorem iX5_init : Cond.instanceMethod YX5_init.1 ∈ lw_all := lw_in1 (k := 233) rfl rfl
abbrev YX5_forget : ab_Y := (yX5_forget, cX5_forget, 1, none)
theorem kX5_forget : ab_YK YX5_forget 0 := ⟨lw_in2 (k := 150) rfl rfl, lw_in1 (k := 9) rfl rfl, ⟨by decide, by decide⟩, by decide +kernel, by decide⟩
theorem iX5_forget : Cond.instanceMethod YX5_forget.1 ∈ lw_all := lw_in2 (k := 148) rfl rfl
theorem eX5_forget : Cond.selects YX5_forget.1.cls YX5_forget.1 YX5_forget.1 ∈ lw_all := lw_in2 (k := 149) rfl rfl
abbrev YX5_areKnownFor : ab_Y := (yX5_areKnownFor, cX5_areKnownFor, 2, (some .boolean))
theorem kX5_areKnownFor : ab_YK YX5_areKnownFor 1 := ⟨lw_in3 (k := 181) rfl rfl, lw_in1 (k := 9) rfl rfl, ⟨by decide, by decide⟩, by decide +kernel, by decide⟩
theorem iX5_areKnownFor : Cond.instanceMethod YX5_areKnownFor.1 ∈ lw_all := lw_in3 (k := 179) rfl rfl
theorem eX5_areKnownFor : Cond.selects YX5_areKnownFor.1.cls YX5_areKnownFor.1 YX5_areKnownFor.1 ∈ lw_all := lw_in3 (k := 180) rfl rfl
abbrev YX5_find : ab_Y := (yX5_find, cX5_find, 8, none)
theorem kX5_find : ab_YK YX5_find 4 := ⟨lw_in3 (k := 185) rfl rfl, lw_in1 (k := 9) rfl rfl, ⟨by decide, by decide⟩, by decide +kernel, by decide⟩
theorem iX5_find : Cond.instanceMethod YX5_find.1 ∈ lw_all := lw_in3 (k := 183) rfl rfl
theorem eX5_find : Cond.selects YX5_find.1.cls YX5_find.1 YX5_find.1 ∈ lw_all := lw_in3 (k := 184) rfl rfl
abbrev YX5_findLikeBars : ab_Y := (yX5_findLikeBars, cX5_findLikeBars, 4, none)
theorem kX5_findLikeBars : ab_YK YX5_findLikeBars 0 := ⟨lw_in3 (k := 189) rfl rfl, lw_in1 (k := 9) rfl rfl, ⟨by decide, by decide⟩, by decide +kernel, by decide⟩
theorem iX5_findLikeBars : Cond.instanceMethod YX5_findLikeBars.1 ∈ lw_all := lw_in3 (k := 188) rfl rfl
theorem eX5_findLikeBars : Cond.selects YX5_findLikeBars.1.cls YX5_findLikeBars.1 YX5_findLikeBars.1 ∈ lw_all := lw_in0 (k := 13) (q := (yX5_findLikeBars, _)) rfl
abbrev YX5_kindsTaken : ab_Y := (yX5_kindsTaken, cX5_kindsTaken, 5, (some .int))
theorem kX5_kindsTaken : ab_YK YX5_kindsTaken 2 := ⟨lw_in3 (k := 193) rfl rfl, lw_in1 (k := 9) rfl rfl, ⟨by decide, by decide⟩, by decide +kernel, by decide⟩
theorem iX5_kindsTaken : Cond.instanceMethod YX5_kindsTaken.1 ∈ lw_all := lw_in3 (k := 192) rfl rfl
theorem eX5_kindsTaken : Cond.selects YX5_kindsTaken.1.cls YX5_kindsTaken.1 YX5_kindsTaken.1 ∈ lw_all := lw_in0 (k := 14) (q := (yX5_kindsTaken, _)) rfl
abbrev YX5_likeSetting : ab_Y := (yX5_likeSetting, cX5_likeSetting, 4, (some .int))
theorem kX5_likeSetting : ab_YK YX5_likeSetting 1 := ⟨lw_in3 (k := 197) rfl rfl, lw_in1 (k := 9) rfl rfl, ⟨by decide, by decide⟩, by decide +kernel, by decide⟩
theorem iX5_likeSetting : Cond.instanceMethod YX5_likeSetting.1 ∈ lw_all := lw_in3 (k := 196) rfl rfl
theorem eX5_likeSetting : Cond.selects YX5_likeSetting.1.cls YX5_likeSetting.1 YX5_likeSetting.1 ∈ lw_all := lw_in0 (k := 15) (q := (yX5_likeSetting, _)) rfl
abbrev YX5_barOf : ab_Y := (yX5_barOf, cX5_barOf, 2, (some .int))
theorem kX5_barOf : ab_YK YX5_barOf 2 := ⟨lw_in3 (k := 200) rfl rfl, lw_in1 (k := 9) rfl rfl, ⟨by decide, by decide⟩, by decide +kernel, by decide⟩
theorem sX5_barOf : Cond.static YX5_barOf.1 ∈ lw_all := lw_in3 (k := 199) rfl rfl
abbrev YX5_setWays : ab_Y := (yX5_setWays, cX5_setWays, 5, none)
theorem kX5_setWays : ab_YK YX5_setWays 2 := ⟨lw_in3 (k := 206) rfl rfl, lw_in1 (k := 9) rfl rfl, ⟨by decide, by decide⟩, by decide +kernel, by decide⟩
theorem iX5_setWays : Cond.instanceMethod YX5_setWays.1 ∈ lw_all := lw_in3 (k := 205) rfl rfl
theorem eX5_setWays : Cond.selects YX5_setWays.1.cls YX5_setWays.1 YX5_setWays.1 ∈ lw_all := lw_in0 (k := 16) (q := (yX5_setWays, _)) rfl
abbrev YX5_isAtRest : ab_Y := (yX5_isAtRest, cX5_isAtRest, 6, (some .boolean))
theorem kX5_isAtRest : ab_YK YX5_isAtRest 1 := ⟨lw_in3 (k := 214) rfl rfl, lw_in1 (k := 9) rfl rfl, ⟨by decide, by decide⟩, by decide +kernel, by decide⟩
theorem iX5_isAtRest : Cond.instanceMethod YX5_isAtRest.1 ∈ lw_all := lw_in3 (k := 213) rfl rfl
theorem eX5_isAtRest : Cond.selects YX5_isAtRest.1.cls YX5_isAtRest.1 YX5_isAtRest.1 ∈ lw_all := lw_in0 (k := 17) (q := (yX5_isAtRest, _)) rfl
abbrev YX6_init : ab_Y := (yX6_init, cX6_init, 1, none)
theorem kX6_init : ab_YK YX6_init 0 := ⟨lw_in1 (k := 42) rfl rfl, lw_in1 (k := 3) rfl rfl, ⟨by decide, by decide⟩, by decide +kernel, by decide⟩
theorem iX6_init : Cond.instanceMethod YX6_init.1 ∈ lw_all := lw_in1 (k := 41) rfl rfl
abbrev YX6_isFull : ab_Y := (yX6_isFull, cX6_isFull, 1, (some .boolean))
theorem kX6_isFull : ab_YK YX6_isFull 0 := ⟨lw_in2 (k := 162) rfl rfl, lw_in1 (k := 3) rfl rfl, ⟨by decide, by decide⟩, by decide +kernel, by decide⟩
theorem iX6_isFull : Cond.instanceMethod YX6_isFull.1 ∈ lw_all := lw_in2 (k := 160) rfl rfl
theorem eX6_isFull : Cond.selects YX6_isFull.1.cls YX6_isFull.1 YX6_isFull.1 ∈ lw_all := lw_in2 (k := 161) rfl rfl
abbrev YX6_add : ab_Y := (yX6_add, cX6_add, 2, (some .int))
theorem kX6_add : ab_YK YX6_add 1 := ⟨lw_in2 (k := 166) rfl rfl, lw_in1 (k := 3) rfl rfl, ⟨by decide, by decide⟩, by decide +kernel, by decide⟩
theorem iX6_add : Cond.instanceMethod YX6_add.1 ∈ lw_all := lw_in2 (k := 164) rfl rfl
theorem eX6_add : Cond.selects YX6_add.1.cls YX6_add.1 YX6_add.1 ∈ lw_all := lw_in2 (k := 165) rfl rfl
abbrev YX6_inWeek : ab_Y := (yX6_inWeek, cX6_inWeek, 2, (some .int))
theorem kX6_inWeek : ab_YK YX6_inWeek 1 := ⟨lw_in2 (k := 200) rfl rfl, lw_in1 (k := 3) rfl rfl, ⟨by decide, by decide⟩, by decide +kernel, by decide⟩
theorem iX6_inWeek : Cond.instanceMethod YX6_inWeek.1 ∈ lw_all := lw_in2 (k := 198) rfl rfl
theorem eX6_inWeek : Cond.selects YX6_inWeek.1.cls YX6_inWeek.1 YX6_inWeek.1 ∈ lw_all := lw_in2 (k := 199) rfl rfl
abbrev YX7_init : ab_Y := (yX7_init, cX7_init, 1, none)
theorem kX7_init : ab_YK YX7_init 0 := ⟨lw_in1 (k := 84) rfl rfl, lw_in1 (k := 5) rfl rfl, ⟨by decide, by decide⟩, by decide +kernel, by decide⟩
theorem iX7_init : Cond.instanceMethod YX7_init.1 ∈ lw_all := lw_in1 (k := 83) rfl rfl
abbrev YX7_setAsAtFirst : ab_Y := (yX7_setAsAtFirst, cX7_setAsAtFirst, 2, none)
theorem kX7_setAsAtFirst : ab_YK YX7_setAsAtFirst 0 := ⟨lw_in1 (k := 89) rfl rfl, lw_in1 (k := 5) rfl rfl, ⟨by decide, by decide⟩, by decide +kernel, by decide⟩
theorem iX7_setAsAtFirst : Cond.instanceMethod YX7_setAsAtFirst.1 ∈ lw_all := lw_in1 (k := 87) rfl rfl
theorem eX7_setAsAtFirst : Cond.selects YX7_setAsAtFirst.1.cls YX7_setAsAtFirst.1 YX7_setAsAtFirst.1 ∈ lw_all := lw_in1 (k := 88) rfl rfl
abbrev YX7_copy : ab_Y := (yX7_copy, cX7_copy, 3, none)
theorem kX7_copy : ab_YK YX7_copy 1 := ⟨lw_in3 (k := 131) rfl rfl, lw_in1 (k := 5) rfl rfl, ⟨by decide, by decide⟩, by decide +kernel, by decide⟩
theorem iX7_copy : Cond.instanceMethod YX7_copy.1 ∈ lw_all := lw_in3 (k := 129) rfl rfl
theorem eX7_copy : Cond.selects YX7_copy.1.cls YX7_copy.1 YX7_copy.1 ∈ lw_all := lw_in3 (k := 130) rfl rfl
abbrev YX7_setWay : ab_Y := (yX7_setWay, cX7_setWay, 5, none)
theorem kX7_setWay : ab_YK YX7_setWay 4 := ⟨lw_in1 (k := 93) rfl rfl, lw_in1 (k := 5) rfl rfl, ⟨by decide, by decide⟩, by decide +kernel, by decide⟩
theorem iX7_setWay : Cond.instanceMethod YX7_setWay.1 ∈ lw_all := lw_in1 (k := 91) rfl rfl
theorem eX7_setWay : Cond.selects YX7_setWay.1.cls YX7_setWay.1 YX7_setWay.1 ∈ lw_all := lw_in1 (k := 92) rfl rfl
abbrev YX7_takes : ab_Y := (yX7_takes, cX7_takes, 4, (some .boolean))
theorem kX7_takes : ab_YK YX7_takes 3 := ⟨lw_in2 (k := 216) rfl rfl, lw_in1 (k := 5) rfl rfl, ⟨by decide, by decide⟩, by decide +kernel, by decide⟩
theorem iX7_takes : Cond.instanceMethod YX7_takes.1 ∈ lw_all := lw_in2 (k := 214) rfl rfl
theorem eX7_takes : Cond.selects YX7_takes.1.cls YX7_takes.1 YX7_takes.1 ∈ lw_all := lw_in2 (k := 215) rfl rfl
abbrev YX8_init : ab_Y := (yX8_init, cX8_init, 2, none)
theorem kX8_init : ab_YK YX8_init 1 := ⟨lw_in2 (k := 65) rfl rfl, lw_in1 (k := 12) rfl rfl, ⟨by decide, by decide⟩, by decide +kernel, by decide⟩
theorem iX8_init : Cond.instanceMethod YX8_init.1 ∈ lw_all := lw_in2 (k := 64) rfl rfl
abbrev YX8_settle : ab_Y := (yX8_settle, cX8_settle, 3, none)
theorem kX8_settle : ab_YK YX8_settle 0 := ⟨lw_in4 (k := 26) rfl rfl, lw_in1 (k := 12) rfl rfl, ⟨by decide, by decide⟩, by decide +kernel, by decide⟩
theorem iX8_settle : Cond.instanceMethod YX8_settle.1 ∈ lw_all := lw_in4 (k := 24) rfl rfl
theorem eX8_settle : Cond.selects YX8_settle.1.cls YX8_settle.1 YX8_settle.1 ∈ lw_all := lw_in4 (k := 25) rfl rfl
abbrev YX8_closeRing : ab_Y := (yX8_closeRing, cX8_closeRing, 5, (some .int))
theorem kX8_closeRing : ab_YK YX8_closeRing 1 := ⟨lw_in4 (k := 30) rfl rfl, lw_in1 (k := 12) rfl rfl, ⟨by decide, by decide⟩, by decide +kernel, by decide⟩
theorem iX8_closeRing : Cond.instanceMethod YX8_closeRing.1 ∈ lw_all := lw_in4 (k := 29) rfl rfl
theorem eX8_closeRing : Cond.selects YX8_closeRing.1.cls YX8_closeRing.1 YX8_closeRing.1 ∈ lw_all := lw_in0 (k := 20) (q := (yX8_closeRing, _)) rfl
abbrev YX8_pointedTo : ab_Y := (yX8_pointedTo, cX8_pointedTo, 5, (some .int))
theorem kX8_pointedTo : ab_YK YX8_pointedTo 2 := ⟨lw_in4 (k := 38) rfl rfl, lw_in1 (k := 12) rfl rfl, ⟨by decide, by decide⟩, by decide +kernel, by decide⟩
theorem iX8_pointedTo : Cond.instanceMethod YX8_pointedTo.1 ∈ lw_all := lw_in4 (k := 37) rfl rfl
theorem eX8_pointedTo : Cond.selects YX8_pointedTo.1.cls YX8_pointedTo.1 YX8_pointedTo.1 ∈ lw_all := lw_in0 (k := 21) (q := (yX8_pointedTo, _)) rfl
abbrev YX9_init : ab_Y := (yX9_init, cX9_init, 1, none)
theorem kX9_init : ab_YK YX9_init 0 := ⟨lw_in1 (k := 135) rfl rfl, lw_in1 (k := 6) rfl rfl, ⟨by decide, by decide⟩, by decide +kernel, by decide⟩
theorem iX9_init : Cond.instanceMethod YX9_init.1 ∈ lw_all := lw_in1 (k := 134) rfl rfl
abbrev YX9_add : ab_Y := (yX9_add, cX9_add, 2, none)
theorem kX9_add : ab_YK YX9_add 1 := ⟨lw_in3 (k := 18) rfl rfl, lw_in1 (k := 6) rfl rfl, ⟨by decide, by decide⟩, by decide +kernel, by decide⟩
theorem iX9_add : Cond.instanceMethod YX9_add.1 ∈ lw_all := lw_in3 (k := 16) rfl rfl
theorem eX9_add : Cond.selects YX9_add.1.cls YX9_add.1 YX9_add.1 ∈ lw_all := lw_in3 (k := 17) rfl rfl
abbrev YX9_readInto : ab_Y := (yX9_readInto, cX9_readInto, 3, (some .int))
theorem kX9_readInto : ab_YK YX9_readInto 1 := ⟨lw_in3 (k := 30) rfl rfl, lw_in1 (k := 6) rfl rfl, ⟨by decide, by decide⟩, by decide +kernel, by decide⟩
theorem iX9_readInto : Cond.instanceMethod YX9_readInto.1 ∈ lw_all := lw_in3 (k := 28) rfl rfl
theorem eX9_readInto : Cond.selects YX9_readInto.1.cls YX9_readInto.1 YX9_readInto.1 ∈ lw_all := lw_in3 (k := 29) rfl rfl
abbrev YX9_readLine : ab_Y := (yX9_readLine, cX9_readLine, 2, (some .boolean))
theorem kX9_readLine : ab_YK YX9_readLine 1 := ⟨lw_in3 (k := 42) rfl rfl, lw_in1 (k := 6) rfl rfl, ⟨by decide, by decide⟩, by decide +kernel, by decide⟩
theorem iX9_readLine : Cond.instanceMethod YX9_readLine.1 ∈ lw_all := lw_in3 (k := 41) rfl rfl
theorem eX9_readLine : Cond.selects YX9_readLine.1.cls YX9_readLine.1 YX9_readLine.1 ∈ lw_all := lw_in0 (k := 7) (q := (yX9_readLine, _)) rfl
abbrev YX9_readWay : ab_Y := (yX9_readWay, cX9_readWay, 6, (some .boolean))
theorem kX9_readWay : ab_YK YX9_readWay 1 := ⟨lw_in3 (k := 117) rfl rfl, lw_in1 (k := 6) rfl rfl, ⟨by decide, by decide⟩, by decide +kernel, by decide⟩
theorem iX9_readWay : Cond.instanceMethod YX9_readWay.1 ∈ lw_all := lw_in3 (k := 116) rfl rfl
theorem eX9_readWay : Cond.selects YX9_readWay.1.cls YX9_readWay.1 YX9_readWay.1 ∈ lw_all := lw_in0 (k := 11) (q := (yX9_readWay, _)) rfl
abbrev YX9_choose : ab_Y := (yX9_choose, cX9_choose, 4, (some .int))
theorem kX9_choose : ab_YK YX9_choose 3 := ⟨lw_in3 (k := 102) rfl rfl, lw_in1 (k := 6) rfl rfl, ⟨by decide, by decide⟩, by decide +kernel, by decide⟩
theorem iX9_choose : Cond.instanceMethod YX9_choose.1 ∈ lw_all := lw_in3 (k := 101) rfl rfl
theorem eX9_choose : Cond.selects YX9_choose.1.cls YX9_choose.1 YX9_choose.1 ∈ lw_all := lw_in0 (k := 9) (q := (yX9_choose, _)) rfl
abbrev YX9_number : ab_Y := (yX9_number, cX9_number, 4, (some .int))
theorem kX9_number : ab_YK YX9_number 1 := ⟨lw_in3 (k := 107) rfl rfl, lw_in1 (k := 6) rfl rfl, ⟨by decide, by decide⟩, by decide +kernel, by decide⟩
theorem iX9_number : Cond.instanceMethod YX9_number.1 ∈ lw_all := lw_in3 (k := 106) rfl rfl
theorem eX9_number : Cond.selects YX9_number.1.cls YX9_number.1 YX9_number.1 ∈ lw_all := lw_in0 (k := 10) (q := (yX9_number, _)) rfl
abbrev YX9_pass : ab_Y := (yX9_pass, cX9_pass, 3, (some .boolean))
theorem kX9_pass : ab_YK YX9_pass 1 := ⟨lw_in3 (k := 47) rfl rfl, lw_in1 (k := 6) rfl rfl, ⟨by decide, by decide⟩, by decide +kernel, by decide⟩
theorem iX9_pass : Cond.instanceMethod YX9_pass.1 ∈ lw_all := lw_in3 (k := 46) rfl rfl
theorem eX9_pass : Cond.selects YX9_pass.1.cls YX9_pass.1 YX9_pass.1 ∈ lw_all := lw_in0 (k := 8) (q := (yX9_pass, _)) rfl
abbrev YX9_goOn : ab_Y := (yX9_goOn, cX9_goOn, 1, none)
theorem kX9_goOn : ab_YK YX9_goOn 0 := ⟨lw_in3 (k := 35) rfl rfl, lw_in1 (k := 6) rfl rfl, ⟨by decide, by decide⟩, by decide +kernel, by decide⟩
theorem iX9_goOn : Cond.instanceMethod YX9_goOn.1 ∈ lw_all := lw_in3 (k := 34) rfl rfl
theorem eX9_goOn : Cond.selects YX9_goOn.1.cls YX9_goOn.1 YX9_goOn.1 ∈ lw_all := lw_in0 (k := 6) (q := (yX9_goOn, _)) rfl
abbrev YX9_lookOf : ab_Y := (yX9_lookOf, cX9_lookOf, 1, (some .int))
theorem kX9_lookOf : ab_YK YX9_lookOf 1 := ⟨lw_in3 (k := 38) rfl rfl, lw_in1 (k := 6) rfl rfl, ⟨by decide, by decide⟩, by decide +kernel, by decide⟩
theorem sX9_lookOf : Cond.static YX9_lookOf.1 ∈ lw_all := lw_in3 (k := 37) rfl rfl
abbrev YX10_init : ab_Y := (yX10_init, cX10_init, 1, none)
theorem kX10_init : ab_YK YX10_init 0 := ⟨lw_in1 (k := 34) rfl rfl, lw_in1 (k := 2) rfl rfl, ⟨by decide, by decide⟩, by decide +kernel, by decide⟩
theorem iX10_init : Cond.instanceMethod YX10_init.1 ∈ lw_all := lw_in1 (k := 33) rfl rfl
abbrev YX11_init : ab_Y := (yX11_init, cX11_init, 1, none)
theorem kX11_init : ab_YK YX11_init 0 := ⟨lw_in1 (k := 26) rfl rfl, lw_in1 (k := 1) rfl rfl, ⟨by decide, by decide⟩, by decide +kernel, by decide⟩
theorem iX11_init : Cond.instanceMethod YX11_init.1 ∈ lw_all := lw_in1 (k := 25) rfl rfl
abbrev YX11_worth : ab_Y := (yX11_worth, cX11_worth, 5, (some .int))
theorem kX11_worth : ab_YK YX11_worth 3 := ⟨lw_in2 (k := 137) rfl rfl, lw_in1 (k := 1) rfl rfl, ⟨by decide, by decide⟩, by decide +kernel, by decide⟩
theorem iX11_worth : Cond.instanceMethod YX11_worth.1 ∈ lw_all := lw_in2 (k := 135) rfl rfl
theorem eX11_worth : Cond.selects YX11_worth.1.cls YX11_worth.1 YX11_worth.1 ∈ lw_all := lw_in2 (k := 136) rfl rfl
abbrev YX11_need : ab_Y := (yX11_need, cX11_need, 4, (some .int))
theorem kX11_need : ab_YK YX11_need 2 := ⟨lw_in2 (k := 154) rfl rfl, lw_in1 (k := 1) rfl rfl, ⟨by decide, by decide⟩, by decide +kernel, by decide⟩
theorem iX11_need : Cond.instanceMethod YX11_need.1 ∈ lw_all := lw_in2 (k := 152) rfl rfl
theorem eX11_need : Cond.selects YX11_need.1.cls YX11_need.1 YX11_need.1 ∈ lw_all := lw_in2 (k := 153) rfl rfl
abbrev YX11_coming : ab_Y := (yX11_coming, cX11_coming, 2, (some .int))
theorem kX11_coming : ab_YK YX11_coming 1 := ⟨lw_in2 (k := 158) rfl rfl, lw_in1 (k := 1) rfl rfl, ⟨by decide, by decide⟩, by decide +kernel, by decide⟩
theorem iX11_coming : Cond.instanceMethod YX11_coming.1 ∈ lw_all := lw_in2 (k := 156) rfl rfl
theorem eX11_coming : Cond.selects YX11_coming.1.cls YX11_coming.1 YX11_coming.1 ∈ lw_all := lw_in2 (k := 157) rfl rfl
abbrev YX11_joining : ab_Y := (yX11_joining, cX11_joining, 2, (some .int))
theorem kX11_joining : ab_YK YX11_joining 1 := ⟨lw_in2 (k := 171) rfl rfl, lw_in1 (k := 1) rfl rfl, ⟨by decide, by decide⟩, by decide +kernel, by decide⟩
theorem iX11_joining : Cond.instanceMethod YX11_joining.1 ∈ lw_all := lw_in2 (k := 169) rfl rfl
theorem eX11_joining : Cond.selects YX11_joining.1.cls YX11_joining.1 YX11_joining.1 ∈ lw_all := lw_in2 (k := 170) rfl rfl
abbrev YX11_join : ab_Y := (yX11_join, cX11_join, 2, (some .int))
theorem kX11_join : ab_YK YX11_join 1 := ⟨lw_in2 (k := 175) rfl rfl, lw_in1 (k := 1) rfl rfl, ⟨by decide, by decide⟩, by decide +kernel, by decide⟩
theorem iX11_join : Cond.instanceMethod YX11_join.1 ∈ lw_all := lw_in2 (k := 173) rfl rfl
theorem eX11_join : Cond.selects YX11_join.1.cls YX11_join.1 YX11_join.1 ∈ lw_all := lw_in2 (k := 174) rfl rfl
abbrev YX11_run : ab_Y := (yX11_run, cX11_run, 2, (some .int))
theorem kX11_run : ab_YK YX11_run 1 := ⟨lw_in2 (k := 192) rfl rfl, lw_in1 (k := 1) rfl rfl, ⟨by decide, by decide⟩, by decide +kernel, by decide⟩
theorem iX11_run : Cond.instanceMethod YX11_run.1 ∈ lw_all := lw_in2 (k := 190) rfl rfl
theorem eX11_run : Cond.selects YX11_run.1.cls YX11_run.1 YX11_run.1 ∈ lw_all := lw_in2 (k := 191) rfl rfl
abbrev YX11_person : ab_Y := (yX11_person, cX11_person, 4, (some .int))
theorem kX11_person : ab_YK YX11_person 2 := ⟨lw_in3 (k := 0) rfl rfl, lw_in1 (k := 1) rfl rfl, ⟨by decide, by decide⟩, by decide +kernel, by decide⟩
theorem iX11_person : Cond.instanceMethod YX11_person.1 ∈ lw_all := lw_in2 (k := 238) rfl rfl
theorem eX11_person : Cond.selects YX11_person.1.cls YX11_person.1 YX11_person.1 ∈ lw_all := lw_in2 (k := 239) rfl rfl
abbrev YX11_of : ab_Y := (yX11_of, cX11_of, 3, (some .int))
theorem kX11_of : ab_YK YX11_of 2 := ⟨lw_in3 (k := 5) rfl rfl, lw_in1 (k := 1) rfl rfl, ⟨by decide, by decide⟩, by decide +kernel, by decide⟩
theorem iX11_of : Cond.instanceMethod YX11_of.1 ∈ lw_all := lw_in3 (k := 3) rfl rfl
theorem eX11_of : Cond.selects YX11_of.1.cls YX11_of.1 YX11_of.1 ∈ lw_all := lw_in3 (k := 4) rfl rfl
abbrev YX11_empty : ab_Y := (yX11_empty, cX11_empty, 1, (some .int))
theorem kX11_empty : ab_YK YX11_empty 0 := ⟨lw_in3 (k := 9) rfl rfl, lw_in1 (k := 1) rfl rfl, ⟨by decide, by decide⟩, by decide +kernel, by decide⟩
theorem iX11_empty : Cond.instanceMethod YX11_empty.1 ∈ lw_all := lw_in3 (k := 7) rfl rfl
theorem eX11_empty : Cond.selects YX11_empty.1.cls YX11_empty.1 YX11_empty.1 ∈ lw_all := lw_in3 (k := 8) rfl rfl
abbrev YX11_write : ab_Y := (yX11_write, cX11_write, 5, (some .int))
theorem kX11_write : ab_YK YX11_write 2 := ⟨lw_in3 (k := 13) rfl rfl, lw_in1 (k := 1) rfl rfl, ⟨by decide, by decide⟩, by decide +kernel, by decide⟩
theorem iX11_write : Cond.instanceMethod YX11_write.1 ∈ lw_all := lw_in3 (k := 11) rfl rfl
theorem eX11_write : Cond.selects YX11_write.1.cls YX11_write.1 YX11_write.1 ∈ lw_all := lw_in3 (k := 12) rfl rfl
abbrev YX11_erase : ab_Y := (yX11_erase, cX11_erase, 2, (some .int))
theorem kX11_erase : ab_YK YX11_erase 0 := ⟨lw_in3 (k := 22) rfl rfl, lw_in1 (k := 1) rfl rfl, ⟨by decide, by decide⟩, by decide +kernel, by decide⟩
theorem iX11_erase : Cond.instanceMethod YX11_erase.1 ∈ lw_all := lw_in3 (k := 20) rfl rfl
theorem eX11_erase : Cond.selects YX11_erase.1.cls YX11_erase.1 YX11_erase.1 ∈ lw_all := lw_in3 (k := 21) rfl rfl
abbrev YX11_fault : ab_Y := (yX11_fault, cX11_fault, 1, (some .int))
theorem kX11_fault : ab_YK YX11_fault 0 := ⟨lw_in3 (k := 26) rfl rfl, lw_in1 (k := 1) rfl rfl, ⟨by decide, by decide⟩, by decide +kernel, by decide⟩
theorem iX11_fault : Cond.instanceMethod YX11_fault.1 ∈ lw_all := lw_in3 (k := 24) rfl rfl
theorem eX11_fault : Cond.selects YX11_fault.1.cls YX11_fault.1 YX11_fault.1 ∈ lw_all := lw_in3 (k := 25) rfl rfl
abbrev YX11_rules : ab_Y := (yX11_rules, cX11_rules, 1, (some .int))
theorem kX11_rules : ab_YK YX11_rules 0 := ⟨lw_in3 (k := 127) rfl rfl, lw_in1 (k := 1) rfl rfl, ⟨by decide, by decide⟩, by decide +kernel, by decide⟩
theorem iX11_rules : Cond.instanceMethod YX11_rules.1 ∈ lw_all := lw_in3 (k := 125) rfl rfl
theorem eX11_rules : Cond.selects YX11_rules.1.cls YX11_rules.1 YX11_rules.1 ∈ lw_all := lw_in3 (k := 126) rfl rfl
abbrev YX11_rule : ab_Y := (yX11_rule, cX11_rule, 2, (some .int))
theorem kX11_rule : ab_YK YX11_rule 1 := ⟨lw_in3 (k := 135) rfl rfl, lw_in1 (k := 1) rfl rfl, ⟨by decide, by decide⟩, by decide +kernel, by decide⟩
theorem iX11_rule : Cond.instanceMethod YX11_rule.1 ∈ lw_all := lw_in3 (k := 133) rfl rfl
theorem eX11_rule : Cond.selects YX11_rule.1.cls YX11_rule.1 YX11_rule.1 ∈ lw_all := lw_in3 (k := 134) rfl rfl
abbrev YX11_way : ab_Y := (yX11_way, cX11_way, 3, (some .int))
theorem kX11_way : ab_YK YX11_way 2 := ⟨lw_in3 (k := 139) rfl rfl, lw_in1 (k := 1) rfl rfl, ⟨by decide, by decide⟩, by decide +kernel, by decide⟩
theorem iX11_way : Cond.instanceMethod YX11_way.1 ∈ lw_all := lw_in3 (k := 137) rfl rfl
theorem eX11_way : Cond.selects YX11_way.1.cls YX11_way.1 YX11_way.1 ∈ lw_all := lw_in3 (k := 138) rfl rfl
abbrev YX11_would : ab_Y := (yX11_would, cX11_would, 3, (some .int))
theorem kX11_would : ab_YK YX11_would 2 := ⟨lw_in3 (k := 143) rfl rfl, lw_in1 (k := 1) rfl rfl, ⟨by decide, by decide⟩, by decide +kernel, by decide⟩
theorem iX11_would : Cond.instanceMethod YX11_would.1 ∈ lw_all := lw_in3 (k := 141) rfl rfl
theorem eX11_would : Cond.selects YX11_would.1.cls YX11_would.1 YX11_would.1 ∈ lw_all := lw_in3 (k := 142) rfl rfl
abbrev YX11_gain : ab_Y := (yX11_gain, cX11_gain, 3, (some .int))
theorem kX11_gain : ab_YK YX11_gain 2 := ⟨lw_in3 (k := 164) rfl rfl, lw_in1 (k := 1) rfl rfl, ⟨by decide, by decide⟩, by decide +kernel, by decide⟩
theorem iX11_gain : Cond.instanceMethod YX11_gain.1 ∈ lw_all := lw_in3 (k := 162) rfl rfl
theorem eX11_gain : Cond.selects YX11_gain.1.cls YX11_gain.1 YX11_gain.1 ∈ lw_all := lw_in3 (k := 163) rfl rfl
abbrev YX11_best : ab_Y := (yX11_best, cX11_best, 7, (some .int))
theorem kX11_best : ab_YK YX11_best 2 := ⟨lw_in3 (k := 173) rfl rfl, lw_in1 (k := 1) rfl rfl, ⟨by decide, by decide⟩, by decide +kernel, by decide⟩
theorem iX11_best : Cond.instanceMethod YX11_best.1 ∈ lw_all := lw_in3 (k := 171) rfl rfl
theorem eX11_best : Cond.selects YX11_best.1.cls YX11_best.1 YX11_best.1 ∈ lw_all := lw_in3 (k := 172) rfl rfl
abbrev YX11_rest : ab_Y := (yX11_rest, cX11_rest, 3, (some .int))
theorem kX11_rest : ab_YK YX11_rest 2 := ⟨lw_in3 (k := 177) rfl rfl, lw_in1 (k := 1) rfl rfl, ⟨by decide, by decide⟩, by decide +kernel, by decide⟩
theorem iX11_rest : Cond.instanceMethod YX11_rest.1 ∈ lw_all := lw_in3 (k := 175) rfl rfl
theorem eX11_rest : Cond.selects YX11_rest.1.cls YX11_rest.1 YX11_rest.1 ∈ lw_all := lw_in3 (k := 176) rfl rfl
abbrev YX11_lot : ab_Y := (yX11_lot, cX11_lot, 7, (some .int))
theorem kX11_lot : ab_YK YX11_lot 5 := ⟨lw_in3 (k := 218) rfl rfl, lw_in1 (k := 1) rfl rfl, ⟨by decide, by decide⟩, by decide +kernel, by decide⟩
theorem iX11_lot : Cond.instanceMethod YX11_lot.1 ∈ lw_all := lw_in3 (k := 216) rfl rfl
theorem eX11_lot : Cond.selects YX11_lot.1.cls YX11_lot.1 YX11_lot.1 ∈ lw_all := lw_in3 (k := 217) rfl rfl
abbrev YX11_holder : ab_Y := (yX11_holder, cX11_holder, 3, (some .int))
theorem kX11_holder : ab_YK YX11_holder 2 := ⟨lw_in4 (k := 14) rfl rfl, lw_in1 (k := 1) rfl rfl, ⟨by decide, by decide⟩, by decide +kernel, by decide⟩
theorem iX11_holder : Cond.instanceMethod YX11_holder.1 ∈ lw_all := lw_in4 (k := 12) rfl rfl
theorem eX11_holder : Cond.selects YX11_holder.1.cls YX11_holder.1 YX11_holder.1 ∈ lw_all := lw_in4 (k := 13) rfl rfl
abbrev YX11_swaps : ab_Y := (yX11_swaps, cX11_swaps, 2, (some .int))
theorem kX11_swaps : ab_YK YX11_swaps 1 := ⟨lw_in4 (k := 22) rfl rfl, lw_in1 (k := 1) rfl rfl, ⟨by decide, by decide⟩, by decide +kernel, by decide⟩
theorem iX11_swaps : Cond.instanceMethod YX11_swaps.1 ∈ lw_all := lw_in4 (k := 20) rfl rfl
theorem eX11_swaps : Cond.selects YX11_swaps.1.cls YX11_swaps.1 YX11_swaps.1 ∈ lw_all := lw_in4 (k := 21) rfl rfl
abbrev YX11_rings : ab_Y := (yX11_rings, cX11_rings, 1, (some .int))
theorem kX11_rings : ab_YK YX11_rings 0 := ⟨lw_in4 (k := 46) rfl rfl, lw_in1 (k := 1) rfl rfl, ⟨by decide, by decide⟩, by decide +kernel, by decide⟩
theorem iX11_rings : Cond.instanceMethod YX11_rings.1 ∈ lw_all := lw_in4 (k := 44) rfl rfl
theorem eX11_rings : Cond.selects YX11_rings.1.cls YX11_rings.1 YX11_rings.1 ∈ lw_all := lw_in4 (k := 45) rfl rfl
abbrev YX11_chain : ab_Y := (yX11_chain, cX11_chain, 3, (some .int))
theorem kX11_chain : ab_YK YX11_chain 2 := ⟨lw_in4 (k := 50) rfl rfl, lw_in1 (k := 1) rfl rfl, ⟨by decide, by decide⟩, by decide +kernel, by decide⟩
theorem iX11_chain : Cond.instanceMethod YX11_chain.1 ∈ lw_all := lw_in4 (k := 48) rfl rfl
theorem eX11_chain : Cond.selects YX11_chain.1.cls YX11_chain.1 YX11_chain.1 ∈ lw_all := lw_in4 (k := 49) rfl rfl
abbrev YX11_mean : ab_Y := (yX11_mean, cX11_mean, 16, (some .long))
theorem kX11_mean : ab_YK YX11_mean 4 := ⟨lw_in4 (k := 66) rfl rfl, lw_in1 (k := 1) rfl rfl, ⟨by decide, by decide⟩, by decide +kernel, by decide⟩
theorem iX11_mean : Cond.instanceMethod YX11_mean.1 ∈ lw_all := lw_in4 (k := 64) rfl rfl
theorem eX11_mean : Cond.selects YX11_mean.1.cls YX11_mean.1 YX11_mean.1 ∈ lw_all := lw_in4 (k := 65) rfl rfl
abbrev YX11_count : ab_Y := (yX11_count, cX11_count, 2, (some .int))
theorem kX11_count : ab_YK YX11_count 1 := ⟨lw_in4 (k := 74) rfl rfl, lw_in1 (k := 1) rfl rfl, ⟨by decide, by decide⟩, by decide +kernel, by decide⟩
theorem iX11_count : Cond.instanceMethod YX11_count.1 ∈ lw_all := lw_in4 (k := 72) rfl rfl
theorem eX11_count : Cond.selects YX11_count.1.cls YX11_count.1 YX11_count.1 ∈ lw_all := lw_in4 (k := 73) rfl rfl
abbrev YX11_tryOut : ab_Y := (yX11_tryOut, cX11_tryOut, 3, none)
theorem kX11_tryOut : ab_YK YX11_tryOut 2 := ⟨lw_in3 (k := 147) rfl rfl, lw_in1 (k := 1) rfl rfl, ⟨by decide, by decide⟩, by decide +kernel, by decide⟩
theorem iX11_tryOut : Cond.instanceMethod YX11_tryOut.1 ∈ lw_all := lw_in3 (k := 146) rfl rfl
theorem eX11_tryOut : Cond.selects YX11_tryOut.1.cls YX11_tryOut.1 YX11_tryOut.1 ∈ lw_all := lw_in0 (k := 12) (q := (yX11_tryOut, _)) rfl
abbrev YX11_within : ab_Y := (yX11_within, cX11_within, 3, (some .boolean))
theorem kX11_within : ab_YK YX11_within 3 := ⟨lw_in2 (k := 143) rfl rfl, lw_in1 (k := 1) rfl rfl, ⟨by decide, by decide⟩, by decide +kernel, by decide⟩
theorem sX11_within : Cond.static YX11_within.1 ∈ lw_all := lw_in2 (k := 142) rfl rfl
abbrev YX11_isSort : ab_Y := (yX11_isSort, cX11_isSort, 1, (some .boolean))
theorem kX11_isSort : ab_YK YX11_isSort 1 := ⟨lw_in2 (k := 140) rfl rfl, lw_in1 (k := 1) rfl rfl, ⟨by decide, by decide⟩, by decide +kernel, by decide⟩
theorem sX11_isSort : Cond.static YX11_isSort.1 ∈ lw_all := lw_in2 (k := 139) rfl rfl
abbrev YX11_isKind : ab_Y := (yX11_isKind, cX11_isKind, 1, (some .boolean))
theorem kX11_isKind : ab_YK YX11_isKind 1 := ⟨lw_in2 (k := 146) rfl rfl, lw_in1 (k := 1) rfl rfl, ⟨by decide, by decide⟩, by decide +kernel, by decide⟩
theorem sX11_isKind : Cond.static YX11_isKind.1 ∈ lw_all := lw_in2 (k := 145) rfl rfl
abbrev YX11_power : ab_Y := (yX11_power, cX11_power, 6, (some .long))
theorem kX11_power : ab_YK YX11_power 2 := ⟨lw_in4 (k := 70) rfl rfl, lw_in1 (k := 1) rfl rfl, ⟨by decide, by decide⟩, by decide +kernel, by decide⟩
theorem sX11_power : Cond.static YX11_power.1 ∈ lw_all := lw_in4 (k := 69) rfl rfl
abbrev YX11_lowest : ab_Y := (yX11_lowest, cX11_lowest, 7, (some .long))
theorem kX11_lowest : ab_YK YX11_lowest 3 := ⟨lw_in4 (k := 7) rfl rfl, lw_in1 (k := 1) rfl rfl, ⟨by decide, by decide⟩, by decide +kernel, by decide⟩
theorem sX11_lowest : Cond.static YX11_lowest.1 ∈ lw_all := lw_in4 (k := 6) rfl rfl
abbrev YX11_commonDivisor : ab_Y := (yX11_commonDivisor, cX11_commonDivisor, 7, (some .long))
theorem kX11_commonDivisor : ab_YK YX11_commonDivisor 2 := ⟨lw_in4 (k := 10) rfl rfl, lw_in1 (k := 1) rfl rfl, ⟨by decide, by decide⟩, by decide +kernel, by decide⟩
theorem sX11_commonDivisor : Cond.static YX11_commonDivisor.1 ∈ lw_all := lw_in4 (k := 9) rfl rfl
abbrev YX12_init : ab_Y := (yX12_init, cX12_init, 2, none)
theorem kX12_init : ab_YK YX12_init 0 := ⟨lw_in4 (k := 79) rfl rfl, lw_in1 (k := 14) rfl rfl, ⟨by decide, by decide⟩, by decide +kernel, by decide⟩
theorem iX12_init : Cond.instanceMethod YX12_init.1 ∈ lw_all := lw_in4 (k := 78) rfl rfl
abbrev YX12_firstRules : ab_Y := (yX12_firstRules, cX12_firstRules, 2, none)
theorem kX12_firstRules : ab_YK YX12_firstRules 1 := ⟨lw_in4 (k := 83) rfl rfl, lw_in1 (k := 14) rfl rfl, ⟨by decide, by decide⟩, by decide +kernel, by decide⟩
theorem sX12_firstRules : Cond.static YX12_firstRules.1 ∈ lw_all := lw_in4 (k := 82) rfl rfl
abbrev YX12_in : ab_Y := (yX12_in, cX12_in, 3, (some .boolean))
theorem kX12_in : ab_YK YX12_in 3 := ⟨lw_in4 (k := 191) rfl rfl, lw_in1 (k := 14) rfl rfl, ⟨by decide, by decide⟩, by decide +kernel, by decide⟩
theorem sX12_in : Cond.static YX12_in.1 ∈ lw_all := lw_in4 (k := 190) rfl rfl
abbrev YX12_isFour : ab_Y := (yX12_isFour, cX12_isFour, 1, (some .boolean))
theorem kX12_isFour : ab_YK YX12_isFour 1 := ⟨lw_in4 (k := 188) rfl rfl, lw_in1 (k := 14) rfl rfl, ⟨by decide, by decide⟩, by decide +kernel, by decide⟩
theorem sX12_isFour : Cond.static YX12_isFour.1 ∈ lw_all := lw_in4 (k := 187) rfl rfl
abbrev YX12_worth : ab_Y := (yX12_worth, cX12_worth, 5, (some .int))
theorem kX12_worth : ab_YK YX12_worth 3 := ⟨lw_in4 (k := 185) rfl rfl, lw_in1 (k := 14) rfl rfl, ⟨by decide, by decide⟩, by decide +kernel, by decide⟩
theorem iX12_worth : Cond.instanceMethod YX12_worth.1 ∈ lw_all := lw_in4 (k := 183) rfl rfl
theorem eX12_worth : Cond.selects YX12_worth.1.cls YX12_worth.1 YX12_worth.1 ∈ lw_all := lw_in4 (k := 184) rfl rfl
abbrev YX12_need : ab_Y := (yX12_need, cX12_need, 4, (some .int))
theorem kX12_need : ab_YK YX12_need 2 := ⟨lw_in4 (k := 195) rfl rfl, lw_in1 (k := 14) rfl rfl, ⟨by decide, by decide⟩, by decide +kernel, by decide⟩
theorem iX12_need : Cond.instanceMethod YX12_need.1 ∈ lw_all := lw_in4 (k := 193) rfl rfl
theorem eX12_need : Cond.selects YX12_need.1.cls YX12_need.1 YX12_need.1 ∈ lw_all := lw_in4 (k := 194) rfl rfl
abbrev YX12_coming : ab_Y := (yX12_coming, cX12_coming, 2, (some .int))
theorem kX12_coming : ab_YK YX12_coming 1 := ⟨lw_in4 (k := 199) rfl rfl, lw_in1 (k := 14) rfl rfl, ⟨by decide, by decide⟩, by decide +kernel, by decide⟩
theorem iX12_coming : Cond.instanceMethod YX12_coming.1 ∈ lw_all := lw_in4 (k := 197) rfl rfl
theorem eX12_coming : Cond.selects YX12_coming.1.cls YX12_coming.1 YX12_coming.1 ∈ lw_all := lw_in4 (k := 198) rfl rfl
abbrev YX12_joining : ab_Y := (yX12_joining, cX12_joining, 2, (some .int))
theorem kX12_joining : ab_YK YX12_joining 1 := ⟨lw_in4 (k := 203) rfl rfl, lw_in1 (k := 14) rfl rfl, ⟨by decide, by decide⟩, by decide +kernel, by decide⟩
theorem iX12_joining : Cond.instanceMethod YX12_joining.1 ∈ lw_all := lw_in4 (k := 201) rfl rfl
theorem eX12_joining : Cond.selects YX12_joining.1.cls YX12_joining.1 YX12_joining.1 ∈ lw_all := lw_in4 (k := 202) rfl rfl
abbrev YX12_add : ab_Y := (yX12_add, cX12_add, 3, none)
theorem kX12_add : ab_YK YX12_add 1 := ⟨lw_in4 (k := 211) rfl rfl, lw_in1 (k := 14) rfl rfl, ⟨by decide, by decide⟩, by decide +kernel, by decide⟩
theorem iX12_add : Cond.instanceMethod YX12_add.1 ∈ lw_all := lw_in4 (k := 210) rfl rfl
theorem eX12_add : Cond.selects YX12_add.1.cls YX12_add.1 YX12_add.1 ∈ lw_all := lw_in0 (k := 23) (q := (yX12_add, _)) rfl
abbrev YX12_join : ab_Y := (yX12_join, cX12_join, 2, (some .int))
theorem kX12_join : ab_YK YX12_join 1 := ⟨lw_in4 (k := 207) rfl rfl, lw_in1 (k := 14) rfl rfl, ⟨by decide, by decide⟩, by decide +kernel, by decide⟩
theorem iX12_join : Cond.instanceMethod YX12_join.1 ∈ lw_all := lw_in4 (k := 205) rfl rfl
theorem eX12_join : Cond.selects YX12_join.1.cls YX12_join.1 YX12_join.1 ∈ lw_all := lw_in4 (k := 206) rfl rfl
abbrev YX12_isAhead : ab_Y := (yX12_isAhead, cX12_isAhead, 5, (some .boolean))
theorem kX12_isAhead : ab_YK YX12_isAhead 2 := ⟨lw_in4 (k := 231) rfl rfl, lw_in1 (k := 14) rfl rfl, ⟨by decide, by decide⟩, by decide +kernel, by decide⟩
theorem iX12_isAhead : Cond.instanceMethod YX12_isAhead.1 ∈ lw_all := lw_in4 (k := 230) rfl rfl
theorem eX12_isAhead : Cond.selects YX12_isAhead.1.cls YX12_isAhead.1 YX12_isAhead.1 ∈ lw_all := lw_in0 (k := 27) (q := (yX12_isAhead, _)) rfl
abbrev YX12_findOrder : ab_Y := (yX12_findOrder, cX12_findOrder, 4, none)
theorem kX12_findOrder : ab_YK YX12_findOrder 0 := ⟨lw_in4 (k := 227) rfl rfl, lw_in1 (k := 14) rfl rfl, ⟨by decide, by decide⟩, by decide +kernel, by decide⟩
theorem iX12_findOrder : Cond.instanceMethod YX12_findOrder.1 ∈ lw_all := lw_in4 (k := 226) rfl rfl
theorem eX12_findOrder : Cond.selects YX12_findOrder.1.cls YX12_findOrder.1 YX12_findOrder.1 ∈ lw_all := lw_in0 (k := 26) (q := (yX12_findOrder, _)) rfl
abbrev YX12_doesTake : ab_Y := (yX12_doesTake, cX12_doesTake, 6, (some .boolean))
theorem kX12_doesTake : ab_YK YX12_doesTake 2 := ⟨lw_in4 (k := 235) rfl rfl, lw_in1 (k := 14) rfl rfl, ⟨by decide, by decide⟩, by decide +kernel, by decide⟩
theorem iX12_doesTake : Cond.instanceMethod YX12_doesTake.1 ∈ lw_all := lw_in4 (k := 234) rfl rfl
theorem eX12_doesTake : Cond.selects YX12_doesTake.1.cls YX12_doesTake.1 YX12_doesTake.1 ∈ lw_all := lw_in0 (k := 28) (q := (yX12_doesTake, _)) rfl
abbrev YX12_offer : ab_Y := (yX12_offer, cX12_offer, 6, none)
theorem kX12_offer : ab_YK YX12_offer 1 := ⟨lw_in4 (k := 223) rfl rfl, lw_in1 (k := 14) rfl rfl, ⟨by decide, by decide⟩, by decide +kernel, by decide⟩
theorem iX12_offer : Cond.instanceMethod YX12_offer.1 ∈ lw_all := lw_in4 (k := 222) rfl rfl
theorem eX12_offer : Cond.selects YX12_offer.1.cls YX12_offer.1 YX12_offer.1 ∈ lw_all := lw_in0 (k := 25) (q := (yX12_offer, _)) rfl
abbrev YX12_goWeek : ab_Y := (yX12_goWeek, cX12_goWeek, 5, none)
theorem kX12_goWeek : ab_YK YX12_goWeek 0 := ⟨lw_in4 (k := 219) rfl rfl, lw_in1 (k := 14) rfl rfl, ⟨by decide, by decide⟩, by decide +kernel, by decide⟩
theorem iX12_goWeek : Cond.instanceMethod YX12_goWeek.1 ∈ lw_all := lw_in4 (k := 218) rfl rfl
theorem eX12_goWeek : Cond.selects YX12_goWeek.1.cls YX12_goWeek.1 YX12_goWeek.1 ∈ lw_all := lw_in0 (k := 24) (q := (yX12_goWeek, _)) rfl
abbrev YX12_run : ab_Y := (yX12_run, cX12_run, 3, (some .int))
theorem kX12_run : ab_YK YX12_run 1 := ⟨lw_in4 (k := 215) rfl rfl, lw_in1 (k := 14) rfl rfl, ⟨by decide, by decide⟩, by decide +kernel, by decide⟩
theorem iX12_run : Cond.instanceMethod YX12_run.1 ∈ lw_all := lw_in4 (k := 213) rfl rfl
theorem eX12_run : Cond.selects YX12_run.1.cls YX12_run.1 YX12_run.1 ∈ lw_all := lw_in4 (k := 214) rfl rfl
abbrev YX12_person : ab_Y := (yX12_person, cX12_person, 3, (some .int))
theorem kX12_person : ab_YK YX12_person 2 := ⟨lw_in4 (k := 239) rfl rfl, lw_in1 (k := 14) rfl rfl, ⟨by decide, by decide⟩, by decide +kernel, by decide⟩
theorem iX12_person : Cond.instanceMethod YX12_person.1 ∈ lw_all := lw_in4 (k := 237) rfl rfl
theorem eX12_person : Cond.selects YX12_person.1.cls YX12_person.1 YX12_person.1 ∈ lw_all := lw_in4 (k := 238) rfl rfl
abbrev YX12_of : ab_Y := (yX12_of, cX12_of, 3, (some .int))
theorem kX12_of : ab_YK YX12_of 2 := ⟨lw_in5 (k := 3) rfl rfl, lw_in1 (k := 14) rfl rfl, ⟨by decide, by decide⟩, by decide +kernel, by decide⟩
theorem iX12_of : Cond.instanceMethod YX12_of.1 ∈ lw_all := lw_in5 (k := 1) rfl rfl
theorem eX12_of : Cond.selects YX12_of.1.cls YX12_of.1 YX12_of.1 ∈ lw_all := lw_in5 (k := 2) rfl rfl
abbrev YX12_empty : ab_Y := (yX12_empty, cX12_empty, 1, (some .int))
theorem kX12_empty : ab_YK YX12_empty 0 := ⟨lw_in5 (k := 7) rfl rfl, lw_in1 (k := 14) rfl rfl, ⟨by decide, by decide⟩, by decide +kernel, by decide⟩
theorem iX12_empty : Cond.instanceMethod YX12_empty.1 ∈ lw_all := lw_in5 (k := 5) rfl rfl
theorem eX12_empty : Cond.selects YX12_empty.1.cls YX12_empty.1 YX12_empty.1 ∈ lw_all := lw_in5 (k := 6) rfl rfl
abbrev YX12_write : ab_Y := (yX12_write, cX12_write, 5, (some .int))
theorem kX12_write : ab_YK YX12_write 2 := ⟨lw_in5 (k := 11) rfl rfl, lw_in1 (k := 14) rfl rfl, ⟨by decide, by decide⟩, by decide +kernel, by decide⟩
theorem iX12_write : Cond.instanceMethod YX12_write.1 ∈ lw_all := lw_in5 (k := 9) rfl rfl
theorem eX12_write : Cond.selects YX12_write.1.cls YX12_write.1 YX12_write.1 ∈ lw_all := lw_in5 (k := 10) rfl rfl
abbrev YX12_erase : ab_Y := (yX12_erase, cX12_erase, 2, (some .int))
theorem kX12_erase : ab_YK YX12_erase 0 := ⟨lw_in5 (k := 16) rfl rfl, lw_in1 (k := 14) rfl rfl, ⟨by decide, by decide⟩, by decide +kernel, by decide⟩
theorem iX12_erase : Cond.instanceMethod YX12_erase.1 ∈ lw_all := lw_in5 (k := 14) rfl rfl
theorem eX12_erase : Cond.selects YX12_erase.1.cls YX12_erase.1 YX12_erase.1 ∈ lw_all := lw_in5 (k := 15) rfl rfl
abbrev YX12_nextToken : ab_Y := (yX12_nextToken, cX12_nextToken, 1, none)
theorem kX12_nextToken : ab_YK YX12_nextToken 0 := ⟨lw_in5 (k := 32) rfl rfl, lw_in1 (k := 14) rfl rfl, ⟨by decide, by decide⟩, by decide +kernel, by decide⟩
theorem iX12_nextToken : Cond.instanceMethod YX12_nextToken.1 ∈ lw_all := lw_in5 (k := 31) rfl rfl
theorem eX12_nextToken : Cond.selects YX12_nextToken.1.cls YX12_nextToken.1 YX12_nextToken.1 ∈ lw_all := lw_in0 (k := 31) (q := (yX12_nextToken, _)) rfl
abbrev YX12_fails : ab_Y := (yX12_fails, cX12_fails, 1, (some .boolean))
theorem kX12_fails : ab_YK YX12_fails 0 := ⟨lw_in5 (k := 50) rfl rfl, lw_in1 (k := 14) rfl rfl, ⟨by decide, by decide⟩, by decide +kernel, by decide⟩
theorem iX12_fails : Cond.instanceMethod YX12_fails.1 ∈ lw_all := lw_in5 (k := 49) rfl rfl
theorem eX12_fails : Cond.selects YX12_fails.1.cls YX12_fails.1 YX12_fails.1 ∈ lw_all := lw_in0 (k := 33) (q := (yX12_fails, _)) rfl
abbrev YX12_isNumber : ab_Y := (yX12_isNumber, cX12_isNumber, 3, (some .boolean))
theorem kX12_isNumber : ab_YK YX12_isNumber 2 := ⟨lw_in5 (k := 55) rfl rfl, lw_in1 (k := 14) rfl rfl, ⟨by decide, by decide⟩, by decide +kernel, by decide⟩
theorem iX12_isNumber : Cond.instanceMethod YX12_isNumber.1 ∈ lw_all := lw_in5 (k := 54) rfl rfl
theorem eX12_isNumber : Cond.selects YX12_isNumber.1.cls YX12_isNumber.1 YX12_isNumber.1 ∈ lw_all := lw_in0 (k := 34) (q := (yX12_isNumber, _)) rfl
abbrev YX12_isOf : ab_Y := (yX12_isOf, cX12_isOf, 8, (some .boolean))
theorem kX12_isOf : ab_YK YX12_isOf 4 := ⟨lw_in5 (k := 46) rfl rfl, lw_in1 (k := 14) rfl rfl, ⟨by decide, by decide⟩, by decide +kernel, by decide⟩
theorem iX12_isOf : Cond.instanceMethod YX12_isOf.1 ∈ lw_all := lw_in5 (k := 45) rfl rfl
theorem eX12_isOf : Cond.selects YX12_isOf.1.cls YX12_isOf.1 YX12_isOf.1 ∈ lw_all := lw_in0 (k := 32) (q := (yX12_isOf, _)) rfl
abbrev YX12_isWay : ab_Y := (yX12_isWay, cX12_isWay, 2, (some .boolean))
theorem kX12_isWay : ab_YK YX12_isWay 0 := ⟨lw_in5 (k := 65) rfl rfl, lw_in1 (k := 14) rfl rfl, ⟨by decide, by decide⟩, by decide +kernel, by decide⟩
theorem iX12_isWay : Cond.instanceMethod YX12_isWay.1 ∈ lw_all := lw_in5 (k := 64) rfl rfl
theorem eX12_isWay : Cond.selects YX12_isWay.1.cls YX12_isWay.1 YX12_isWay.1 ∈ lw_all := lw_in0 (k := 35) (q := (yX12_isWay, _)) rfl
abbrev YX12_isLine : ab_Y := (yX12_isLine, cX12_isLine, 1, (some .boolean))
theorem kX12_isLine : ab_YK YX12_isLine 0 := ⟨lw_in5 (k := 28) rfl rfl, lw_in1 (k := 14) rfl rfl, ⟨by decide, by decide⟩, by decide +kernel, by decide⟩
theorem iX12_isLine : Cond.instanceMethod YX12_isLine.1 ∈ lw_all := lw_in5 (k := 27) rfl rfl
theorem eX12_isLine : Cond.selects YX12_isLine.1.cls YX12_isLine.1 YX12_isLine.1 ∈ lw_all := lw_in0 (k := 30) (q := (yX12_isLine, _)) rfl
abbrev YX12_isRead : ab_Y := (yX12_isRead, cX12_isRead, 2, (some .boolean))
theorem kX12_isRead : ab_YK YX12_isRead 0 := ⟨lw_in5 (k := 24) rfl rfl, lw_in1 (k := 14) rfl rfl, ⟨by decide, by decide⟩, by decide +kernel, by decide⟩
theorem iX12_isRead : Cond.instanceMethod YX12_isRead.1 ∈ lw_all := lw_in5 (k := 23) rfl rfl
theorem eX12_isRead : Cond.selects YX12_isRead.1.cls YX12_isRead.1 YX12_isRead.1 ∈ lw_all := lw_in0 (k := 29) (q := (yX12_isRead, _)) rfl
abbrev YX12_fault : ab_Y := (yX12_fault, cX12_fault, 1, (some .int))
theorem kX12_fault : ab_YK YX12_fault 0 := ⟨lw_in5 (k := 20) rfl rfl, lw_in1 (k := 14) rfl rfl, ⟨by decide, by decide⟩, by decide +kernel, by decide⟩
theorem iX12_fault : Cond.instanceMethod YX12_fault.1 ∈ lw_all := lw_in5 (k := 18) rfl rfl
theorem eX12_fault : Cond.selects YX12_fault.1.cls YX12_fault.1 YX12_fault.1 ∈ lw_all := lw_in5 (k := 19) rfl rfl
abbrev YX12_rules : ab_Y := (yX12_rules, cX12_rules, 2, (some .int))
theorem kX12_rules : ab_YK YX12_rules 0 := ⟨lw_in5 (k := 72) rfl rfl, lw_in1 (k := 14) rfl rfl, ⟨by decide, by decide⟩, by decide +kernel, by decide⟩
theorem iX12_rules : Cond.instanceMethod YX12_rules.1 ∈ lw_all := lw_in5 (k := 70) rfl rfl
theorem eX12_rules : Cond.selects YX12_rules.1.cls YX12_rules.1 YX12_rules.1 ∈ lw_all := lw_in5 (k := 71) rfl rfl
abbrev YX12_rule : ab_Y := (yX12_rule, cX12_rule, 2, (some .int))
theorem kX12_rule : ab_YK YX12_rule 1 := ⟨lw_in5 (k := 76) rfl rfl, lw_in1 (k := 14) rfl rfl, ⟨by decide, by decide⟩, by decide +kernel, by decide⟩
theorem iX12_rule : Cond.instanceMethod YX12_rule.1 ∈ lw_all := lw_in5 (k := 74) rfl rfl
theorem eX12_rule : Cond.selects YX12_rule.1.cls YX12_rule.1 YX12_rule.1 ∈ lw_all := lw_in5 (k := 75) rfl rfl
abbrev YX12_way : ab_Y := (yX12_way, cX12_way, 3, (some .int))
theorem kX12_way : ab_YK YX12_way 2 := ⟨lw_in5 (k := 80) rfl rfl, lw_in1 (k := 14) rfl rfl, ⟨by decide, by decide⟩, by decide +kernel, by decide⟩
theorem iX12_way : Cond.instanceMethod YX12_way.1 ∈ lw_all := lw_in5 (k := 78) rfl rfl
theorem eX12_way : Cond.selects YX12_way.1.cls YX12_way.1 YX12_way.1 ∈ lw_all := lw_in5 (k := 79) rfl rfl
abbrev YX12_keepRules : ab_Y := (yX12_keepRules, cX12_keepRules, 2, none)
theorem kX12_keepRules : ab_YK YX12_keepRules 0 := ⟨lw_in5 (k := 113) rfl rfl, lw_in1 (k := 14) rfl rfl, ⟨by decide, by decide⟩, by decide +kernel, by decide⟩
theorem iX12_keepRules : Cond.instanceMethod YX12_keepRules.1 ∈ lw_all := lw_in5 (k := 112) rfl rfl
theorem eX12_keepRules : Cond.selects YX12_keepRules.1.cls YX12_keepRules.1 YX12_keepRules.1 ∈ lw_all := lw_in0 (k := 40) (q := (yX12_keepRules, _)) rfl
abbrev YX12_layBackRules : ab_Y := (yX12_layBackRules, cX12_layBackRules, 2, none)
theorem kX12_layBackRules : ab_YK YX12_layBackRules 0 := ⟨lw_in5 (k := 117) rfl rfl, lw_in1 (k := 14) rfl rfl, ⟨by decide, by decide⟩, by decide +kernel, by decide⟩
theorem iX12_layBackRules : Cond.instanceMethod YX12_layBackRules.1 ∈ lw_all := lw_in5 (k := 116) rfl rfl
theorem eX12_layBackRules : Cond.selects YX12_layBackRules.1.cls YX12_layBackRules.1 YX12_layBackRules.1 ∈ lw_all := lw_in0 (k := 41) (q := (yX12_layBackRules, _)) rfl
abbrev YX12_goOn : ab_Y := (yX12_goOn, cX12_goOn, 3, none)
theorem kX12_goOn : ab_YK YX12_goOn 1 := ⟨lw_in5 (k := 88) rfl rfl, lw_in1 (k := 14) rfl rfl, ⟨by decide, by decide⟩, by decide +kernel, by decide⟩
theorem iX12_goOn : Cond.instanceMethod YX12_goOn.1 ∈ lw_all := lw_in5 (k := 87) rfl rfl
theorem eX12_goOn : Cond.selects YX12_goOn.1.cls YX12_goOn.1 YX12_goOn.1 ∈ lw_all := lw_in0 (k := 36) (q := (yX12_goOn, _)) rfl
abbrev YX12_layBack : ab_Y := (yX12_layBack, cX12_layBack, 2, none)
theorem kX12_layBack : ab_YK YX12_layBack 0 := ⟨lw_in5 (k := 96) rfl rfl, lw_in1 (k := 14) rfl rfl, ⟨by decide, by decide⟩, by decide +kernel, by decide⟩
theorem iX12_layBack : Cond.instanceMethod YX12_layBack.1 ∈ lw_all := lw_in5 (k := 95) rfl rfl
theorem eX12_layBack : Cond.selects YX12_layBack.1.cls YX12_layBack.1 YX12_layBack.1 ∈ lw_all := lw_in0 (k := 38) (q := (yX12_layBack, _)) rfl
abbrev YX12_more : ab_Y := (yX12_more, cX12_more, 4, (some .int))
theorem kX12_more : ab_YK YX12_more 1 := ⟨lw_in5 (k := 92) rfl rfl, lw_in1 (k := 14) rfl rfl, ⟨by decide, by decide⟩, by decide +kernel, by decide⟩
theorem iX12_more : Cond.instanceMethod YX12_more.1 ∈ lw_all := lw_in5 (k := 91) rfl rfl
theorem eX12_more : Cond.selects YX12_more.1.cls YX12_more.1 YX12_more.1 ∈ lw_all := lw_in0 (k := 37) (q := (yX12_more, _)) rfl
abbrev YX12_would : ab_Y := (yX12_would, cX12_would, 4, (some .int))
theorem kX12_would : ab_YK YX12_would 2 := ⟨lw_in5 (k := 84) rfl rfl, lw_in1 (k := 14) rfl rfl, ⟨by decide, by decide⟩, by decide +kernel, by decide⟩
theorem iX12_would : Cond.instanceMethod YX12_would.1 ∈ lw_all := lw_in5 (k := 82) rfl rfl
theorem eX12_would : Cond.selects YX12_would.1.cls YX12_would.1 YX12_would.1 ∈ lw_all := lw_in5 (k := 83) rfl rfl
abbrev YX12_gainOf : ab_Y := (yX12_gainOf, cX12_gainOf, 2, (some .int))
theorem kX12_gainOf : ab_YK YX12_gainOf 1 := ⟨lw_in5 (k := 105) rfl rfl, lw_in1 (k := 14) rfl rfl, ⟨by decide, by decide⟩, by decide +kernel, by decide⟩
theorem iX12_gainOf : Cond.instanceMethod YX12_gainOf.1 ∈ lw_all := lw_in5 (k := 104) rfl rfl
theorem eX12_gainOf : Cond.selects YX12_gainOf.1.cls YX12_gainOf.1 YX12_gainOf.1 ∈ lw_all := lw_in0 (k := 39) (q := (yX12_gainOf, _)) rfl
abbrev YX12_gain : ab_Y := (yX12_gain, cX12_gain, 4, (some .int))
theorem kX12_gain : ab_YK YX12_gain 2 := ⟨lw_in5 (k := 100) rfl rfl, lw_in1 (k := 14) rfl rfl, ⟨by decide, by decide⟩, by decide +kernel, by decide⟩
theorem iX12_gain : Cond.instanceMethod YX12_gain.1 ∈ lw_all := lw_in5 (k := 98) rfl rfl
theorem eX12_gain : Cond.selects YX12_gain.1.cls YX12_gain.1 YX12_gain.1 ∈ lw_all := lw_in5 (k := 99) rfl rfl
abbrev YX12_best : ab_Y := (yX12_best, cX12_best, 7, (some .int))
theorem kX12_best : ab_YK YX12_best 2 := ⟨lw_in5 (k := 109) rfl rfl, lw_in1 (k := 14) rfl rfl, ⟨by decide, by decide⟩, by decide +kernel, by decide⟩
theorem iX12_best : Cond.instanceMethod YX12_best.1 ∈ lw_all := lw_in5 (k := 107) rfl rfl
theorem eX12_best : Cond.selects YX12_best.1.cls YX12_best.1 YX12_best.1 ∈ lw_all := lw_in5 (k := 108) rfl rfl
abbrev YX12_findGains : ab_Y := (yX12_findGains, cX12_findGains, 6, none)
theorem kX12_findGains : ab_YK YX12_findGains 1 := ⟨lw_in5 (k := 125) rfl rfl, lw_in1 (k := 14) rfl rfl, ⟨by decide, by decide⟩, by decide +kernel, by decide⟩
theorem iX12_findGains : Cond.instanceMethod YX12_findGains.1 ∈ lw_all := lw_in5 (k := 124) rfl rfl
theorem eX12_findGains : Cond.selects YX12_findGains.1.cls YX12_findGains.1 YX12_findGains.1 ∈ lw_all := lw_in0 (k := 42) (q := (yX12_findGains, _)) rfl
abbrev YX12_isAtRest : ab_Y := (yX12_isAtRest, cX12_isAtRest, 7, (some .boolean))
theorem kX12_isAtRest : ab_YK YX12_isAtRest 1 := ⟨lw_in5 (k := 129) rfl rfl, lw_in1 (k := 14) rfl rfl, ⟨by decide, by decide⟩, by decide +kernel, by decide⟩
theorem iX12_isAtRest : Cond.instanceMethod YX12_isAtRest.1 ∈ lw_all := lw_in5 (k := 128) rfl rfl
theorem eX12_isAtRest : Cond.selects YX12_isAtRest.1.cls YX12_isAtRest.1 YX12_isAtRest.1 ∈ lw_all := lw_in0 (k := 43) (q := (yX12_isAtRest, _)) rfl
abbrev YX12_rest : ab_Y := (yX12_rest, cX12_rest, 5, (some .int))
theorem kX12_rest : ab_YK YX12_rest 2 := ⟨lw_in5 (k := 121) rfl rfl, lw_in1 (k := 14) rfl rfl, ⟨by decide, by decide⟩, by decide +kernel, by decide⟩
theorem iX12_rest : Cond.instanceMethod YX12_rest.1 ∈ lw_all := lw_in5 (k := 119) rfl rfl
theorem eX12_rest : Cond.selects YX12_rest.1.cls YX12_rest.1 YX12_rest.1 ∈ lw_all := lw_in5 (k := 120) rfl rfl
abbrev YX12_divisor : ab_Y := (yX12_divisor, cX12_divisor, 10, (some .long))
theorem kX12_divisor : ab_YK YX12_divisor 2 := ⟨lw_in5 (k := 144) rfl rfl, lw_in1 (k := 14) rfl rfl, ⟨by decide, by decide⟩, by decide +kernel, by decide⟩
theorem sX12_divisor : Cond.static YX12_divisor.1 ∈ lw_all := lw_in5 (k := 143) rfl rfl
abbrev YX12_part : ab_Y := (yX12_part, cX12_part, 8, (some .int))
theorem kX12_part : ab_YK YX12_part 3 := ⟨lw_in5 (k := 141) rfl rfl, lw_in1 (k := 14) rfl rfl, ⟨by decide, by decide⟩, by decide +kernel, by decide⟩
theorem iX12_part : Cond.instanceMethod YX12_part.1 ∈ lw_all := lw_in5 (k := 140) rfl rfl
theorem eX12_part : Cond.selects YX12_part.1.cls YX12_part.1 YX12_part.1 ∈ lw_all := lw_in0 (k := 45) (q := (yX12_part, _)) rfl
abbrev YX12_lotOf : ab_Y := (yX12_lotOf, cX12_lotOf, 9, (some .int))
theorem kX12_lotOf : ab_YK YX12_lotOf 3 := ⟨lw_in5 (k := 137) rfl rfl, lw_in1 (k := 14) rfl rfl, ⟨by decide, by decide⟩, by decide +kernel, by decide⟩
theorem iX12_lotOf : Cond.instanceMethod YX12_lotOf.1 ∈ lw_all := lw_in5 (k := 136) rfl rfl
theorem eX12_lotOf : Cond.selects YX12_lotOf.1.cls YX12_lotOf.1 YX12_lotOf.1 ∈ lw_all := lw_in0 (k := 44) (q := (yX12_lotOf, _)) rfl
abbrev YX12_lot : ab_Y := (yX12_lot, cX12_lot, 14, (some .int))
theorem kX12_lot : ab_YK YX12_lot 5 := ⟨lw_in5 (k := 133) rfl rfl, lw_in1 (k := 14) rfl rfl, ⟨by decide, by decide⟩, by decide +kernel, by decide⟩
theorem iX12_lot : Cond.instanceMethod YX12_lot.1 ∈ lw_all := lw_in5 (k := 131) rfl rfl
theorem eX12_lot : Cond.selects YX12_lot.1.cls YX12_lot.1 YX12_lot.1 ∈ lw_all := lw_in5 (k := 132) rfl rfl
abbrev YX12_holder : ab_Y := (yX12_holder, cX12_holder, 3, (some .int))
theorem kX12_holder : ab_YK YX12_holder 2 := ⟨lw_in5 (k := 148) rfl rfl, lw_in1 (k := 14) rfl rfl, ⟨by decide, by decide⟩, by decide +kernel, by decide⟩
theorem iX12_holder : Cond.instanceMethod YX12_holder.1 ∈ lw_all := lw_in5 (k := 146) rfl rfl
theorem eX12_holder : Cond.selects YX12_holder.1.cls YX12_holder.1 YX12_holder.1 ∈ lw_all := lw_in5 (k := 147) rfl rfl
abbrev YX12_worthTo : ab_Y := (yX12_worthTo, cX12_worthTo, 3, (some .int))
theorem kX12_worthTo : ab_YK YX12_worthTo 2 := ⟨lw_in5 (k := 160) rfl rfl, lw_in1 (k := 14) rfl rfl, ⟨by decide, by decide⟩, by decide +kernel, by decide⟩
theorem iX12_worthTo : Cond.instanceMethod YX12_worthTo.1 ∈ lw_all := lw_in5 (k := 159) rfl rfl
theorem eX12_worthTo : Cond.selects YX12_worthTo.1.cls YX12_worthTo.1 YX12_worthTo.1 ∈ lw_all := lw_in0 (k := 47) (q := (yX12_worthTo, _)) rfl
abbrev YX12_swapAll : ab_Y := (yX12_swapAll, cX12_swapAll, 7, none)
theorem kX12_swapAll : ab_YK YX12_swapAll 0 := ⟨lw_in5 (k := 156) rfl rfl, lw_in1 (k := 14) rfl rfl, ⟨by decide, by decide⟩, by decide +kernel, by decide⟩
theorem iX12_swapAll : Cond.instanceMethod YX12_swapAll.1 ∈ lw_all := lw_in5 (k := 155) rfl rfl
theorem eX12_swapAll : Cond.selects YX12_swapAll.1.cls YX12_swapAll.1 YX12_swapAll.1 ∈ lw_all := lw_in0 (k := 46) (q := (yX12_swapAll, _)) rfl
abbrev YX12_swaps : ab_Y := (yX12_swaps, cX12_swaps, 2, (some .int))
theorem kX12_swaps : ab_YK YX12_swaps 1 := ⟨lw_in5 (k := 152) rfl rfl, lw_in1 (k := 14) rfl rfl, ⟨by decide, by decide⟩, by decide +kernel, by decide⟩
theorem iX12_swaps : Cond.instanceMethod YX12_swaps.1 ∈ lw_all := lw_in5 (k := 150) rfl rfl
theorem eX12_swaps : Cond.selects YX12_swaps.1.cls YX12_swaps.1 YX12_swaps.1 ∈ lw_all := lw_in5 (k := 151) rfl rfl
abbrev YX12_rings : ab_Y := (yX12_rings, cX12_rings, 1, (some .int))
theorem kX12_rings : ab_YK YX12_rings 0 := ⟨lw_in5 (k := 164) rfl rfl, lw_in1 (k := 14) rfl rfl, ⟨by decide, by decide⟩, by decide +kernel, by decide⟩
theorem iX12_rings : Cond.instanceMethod YX12_rings.1 ∈ lw_all := lw_in5 (k := 162) rfl rfl
theorem eX12_rings : Cond.selects YX12_rings.1.cls YX12_rings.1 YX12_rings.1 ∈ lw_all := lw_in5 (k := 163) rfl rfl
abbrev YX12_wouldGo : ab_Y := (yX12_wouldGo, cX12_wouldGo, 3, (some .boolean))
theorem kX12_wouldGo : ab_YK YX12_wouldGo 2 := ⟨lw_in5 (k := 172) rfl rfl, lw_in1 (k := 14) rfl rfl, ⟨by decide, by decide⟩, by decide +kernel, by decide⟩
theorem iX12_wouldGo : Cond.instanceMethod YX12_wouldGo.1 ∈ lw_all := lw_in5 (k := 171) rfl rfl
theorem eX12_wouldGo : Cond.selects YX12_wouldGo.1.cls YX12_wouldGo.1 YX12_wouldGo.1 ∈ lw_all := lw_in0 (k := 48) (q := (yX12_wouldGo, _)) rfl
abbrev YX12_chain : ab_Y := (yX12_chain, cX12_chain, 13, (some .int))
theorem kX12_chain : ab_YK YX12_chain 2 := ⟨lw_in5 (k := 168) rfl rfl, lw_in1 (k := 14) rfl rfl, ⟨by decide, by decide⟩, by decide +kernel, by decide⟩
theorem iX12_chain : Cond.instanceMethod YX12_chain.1 ∈ lw_all := lw_in5 (k := 166) rfl rfl
theorem eX12_chain : Cond.selects YX12_chain.1.cls YX12_chain.1 YX12_chain.1 ∈ lw_all := lw_in5 (k := 167) rfl rfl
abbrev YX12_mean : ab_Y := (yX12_mean, cX12_mean, 13, (some .long))
theorem kX12_mean : ab_YK YX12_mean 4 := ⟨lw_in5 (k := 176) rfl rfl, lw_in1 (k := 14) rfl rfl, ⟨by decide, by decide⟩, by decide +kernel, by decide⟩
theorem iX12_mean : Cond.instanceMethod YX12_mean.1 ∈ lw_all := lw_in5 (k := 174) rfl rfl
theorem eX12_mean : Cond.selects YX12_mean.1.cls YX12_mean.1 YX12_mean.1 ∈ lw_all := lw_in5 (k := 175) rfl rfl
abbrev YX12_count : ab_Y := (yX12_count, cX12_count, 2, (some .int))
theorem kX12_count : ab_YK YX12_count 1 := ⟨lw_in5 (k := 180) rfl rfl, lw_in1 (k := 14) rfl rfl, ⟨by decide, by decide⟩, by decide +kernel, by decide⟩
theorem iX12_count : Cond.instanceMethod YX12_count.1 ∈ lw_all := lw_in5 (k := 178) rfl rfl
theorem eX12_count : Cond.selects YX12_count.1.cls YX12_count.1 YX12_count.1 ∈ lw_all := lw_in5 (k := 179) rfl rfl
abbrev YJ6_numberOfTrailingZeros_0f7a4 : ab_Y := (yJ6_numberOfTrailingZeros_0f7a4, cJ6_numberOfTrailingZeros_0f7a4, 2, (some .int))
theorem kJ6_numberOfTrailingZeros_0f7a4 : ab_YK YJ6_numberOfTrailingZeros_0f7a4 1 := ⟨lw_in4 (k := 33) rfl rfl, lw_in1 (k := 20) rfl rfl, ⟨by decide, by decide⟩, by decide +kernel, by decide⟩
theorem sJ6_numberOfTrailingZeros_0f7a4 : Cond.static YJ6_numberOfTrailingZeros_0f7a4.1 ∈ lw_all := lw_in4 (k := 32) rfl rfl
abbrev YJ9_min_7cf53 : ab_Y := (yJ9_min_7cf53, cJ9_min_7cf53, 2, (some .int))
theorem cJmin : Cond.code Lib.Math.min.name Lib.Math.min.code 2 (some .int) ∈ lw_all := lw_in2 (k := 236) rfl rfl
theorem nJmin : Cond.initialized "java/lang/Math" ∈ lw_all := lw_in1 (k := 15) rfl rfl
theorem sJmin : Cond.static Lib.Math.min.name ∈ lw_all := lw_in2 (k := 235) rfl rfl
abbrev YJ0_length_8abf5 : ab_Y := (yJ0_length_8abf5, cJ0_length_8abf5, 1, (some .int))
theorem kJ0_length_8abf5 : ab_YK YJ0_length_8abf5 0 := ⟨lw_in3 (k := 51) rfl rfl, lw_in1 (k := 16) rfl rfl, ⟨by decide, by decide⟩, by decide +kernel, by decide⟩
theorem iJ0_length_8abf5 : Cond.instanceMethod YJ0_length_8abf5.1 ∈ lw_all := lw_in3 (k := 49) rfl rfl
theorem eJ0_length_8abf5 : Cond.selects YJ0_length_8abf5.1.cls YJ0_length_8abf5.1 YJ0_length_8abf5.1 ∈ lw_all := lw_in3 (k := 50) rfl rfl
abbrev YJ0_charAt_5068e : ab_Y := (yJ0_charAt_5068e, cJ0_charAt_5068e, 2, (some .char))
theorem kJ0_charAt_5068e : ab_YK YJ0_charAt_5068e 1 := ⟨lw_in3 (k := 61) rfl rfl, lw_in1 (k := 16) rfl rfl, ⟨by decide, by decide⟩, by decide +kernel, by decide⟩
theorem iJ0_charAt_5068e : Cond.instanceMethod YJ0_charAt_5068e.1 ∈ lw_all := lw_in3 (k := 59) rfl rfl
theorem eJ0_charAt_5068e : Cond.selects YJ0_charAt_5068e.1.cls YJ0_charAt_5068e.1 YJ0_charAt_5068e.1 ∈ lw_all := lw_in3 (k := 60) rfl rfl
abbrev YJ0_coder_7d493 : ab_Y := (yJ0_coder_7d493, cJ0_coder_7d493, 1, (some .byte))
theorem kJ0_coder_7d493 : ab_YK YJ0_coder_7d493 0 := ⟨lw_in3 (k := 55) rfl rfl, lw_in1 (k := 16) rfl rfl, ⟨by decide, by decide⟩, by decide +kernel, by decide⟩
theorem iJ0_coder_7d493 : Cond.instanceMethod YJ0_coder_7d493.1 ∈ lw_all := lw_in3 (k := 53) rfl rfl
theorem eJ0_coder_7d493 : Cond.selects YJ0_coder_7d493.1.cls YJ0_coder_7d493.1 YJ0_coder_7d493.1 ∈ lw_all := lw_in3 (k := 54) rfl rfl
abbrev YJ0_isLatin1_aae02 : ab_Y := (yJ0_isLatin1_aae02, cJ0_isLatin1_aae02, 1, (some .boolean))
theorem kJ0_isLatin1_aae02 : ab_YK YJ0_isLatin1_aae02 0 := ⟨lw_in3 (k := 65) rfl rfl, lw_in1 (k := 16) rfl rfl, ⟨by decide, by decide⟩, by decide +kernel, by decide⟩
theorem iJ0_isLatin1_aae02 : Cond.instanceMethod YJ0_isLatin1_aae02.1 ∈ lw_all := lw_in3 (k := 63) rfl rfl
theorem eJ0_isLatin1_aae02 : Cond.selects YJ0_isLatin1_aae02.1.cls YJ0_isLatin1_aae02.1 YJ0_isLatin1_aae02.1 ∈ lw_all := lw_in3 (k := 64) rfl rfl
abbrev YJ0_checkIndex_df160 : ab_Y := (yJ0_checkIndex_df160, cJ0_checkIndex_df160, 2, none)
theorem kJ0_checkIndex_df160 : ab_YK YJ0_checkIndex_df160 2 := ⟨lw_in3 (k := 71) rfl rfl, lw_in1 (k := 16) rfl rfl, ⟨by decide, by decide⟩, by decide +kernel, by decide⟩
theorem sJ0_checkIndex_df160 : Cond.static YJ0_checkIndex_df160.1 ∈ lw_all := lw_in3 (k := 70) rfl rfl
abbrev YJ1_charAt_3b067 : ab_Y := (yJ1_charAt_3b067, cJ1_charAt_3b067, 2, (some .char))
theorem kJ1_charAt_3b067 : ab_YK YJ1_charAt_3b067 2 := ⟨lw_in3 (k := 68) rfl rfl, lw_in1 (k := 17) rfl rfl, ⟨by decide, by decide⟩, by decide +kernel, by decide⟩
theorem sJ1_charAt_3b067 : Cond.static YJ1_charAt_3b067.1 ∈ lw_all := lw_in3 (k := 67) rfl rfl
abbrev YJ2_getChar_3b067 : ab_Y := (yJ2_getChar_3b067, cJ2_getChar_3b067, 2, (some .char))
theorem kJ2_getChar_3b067 : ab_YK YJ2_getChar_3b067 2 := ⟨lw_in3 (k := 89) rfl rfl, lw_in1 (k := 19) rfl rfl, ⟨by decide, by decide⟩, by decide +kernel, by decide⟩
theorem sJ2_getChar_3b067 : Cond.static YJ2_getChar_3b067.1 ∈ lw_all := lw_in3 (k := 88) rfl rfl
abbrev YJ2_length_9d52b : ab_Y := (yJ2_length_9d52b, cJ2_length_9d52b, 1, (some .int))
theorem kJ2_length_9d52b : ab_YK YJ2_length_9d52b 1 := ⟨lw_in3 (k := 85) rfl rfl, lw_in1 (k := 19) rfl rfl, ⟨by decide, by decide⟩, by decide +kernel, by decide⟩
theorem sJ2_length_9d52b : Cond.static YJ2_length_9d52b.1 ∈ lw_all := lw_in3 (k := 84) rfl rfl
abbrev YJ2_charAt_3b067 : ab_Y := (yJ2_charAt_3b067, cJ2_charAt_3b067, 2, (some .char))
theorem kJ2_charAt_3b067 : ab_YK YJ2_charAt_3b067 2 := ⟨lw_in3 (k := 79) rfl rfl, lw_in1 (k := 19) rfl rfl, ⟨by decide, by decide⟩, by decide +kernel, by decide⟩
theorem sJ2_charAt_3b067 : Cond.static YJ2_charAt_3b067.1 ∈ lw_all := lw_in3 (k := 78) rfl rfl
abbrev YJ2_checkIndex_2214a : ab_Y := (yJ2_checkIndex_2214a, cJ2_checkIndex_2214a, 2, none)
theorem kJ2_checkIndex_2214a : ab_YK YJ2_checkIndex_2214a 2 := ⟨lw_in3 (k := 82) rfl rfl, lw_in1 (k := 19) rfl rfl, ⟨by decide, by decide⟩, by decide +kernel, by decide⟩
theorem sJ2_checkIndex_2214a : Cond.static YJ2_checkIndex_2214a.1 ∈ lw_all := lw_in3 (k := 81) rfl rfl
abbrev YJ7_fill_53178 : ab_Y := (yJ7_fill_53178, cJ7_fill_53178, 4, none)
theorem kJ7_fill_53178 : ab_YK YJ7_fill_53178 2 := ⟨lw_in1 (k := 55) rfl rfl, lw_in1 (k := 4) rfl rfl, ⟨by decide, by decide⟩, by decide +kernel, by decide⟩
theorem sJ7_fill_53178 : Cond.static YJ7_fill_53178.1 ∈ lw_all := lw_in1 (k := 54) rfl rfl
abbrev YJ3_checkIndex_8e157 : ab_Y := (yJ3_checkIndex_8e157, cJ3_checkIndex_8e157, 3, (some .int))
theorem kJ3_checkIndex_8e157 : ab_YK YJ3_checkIndex_8e157 3 := ⟨lw_in3 (k := 76) rfl rfl, lw_in1 (k := 18) rfl rfl, ⟨by decide, by decide⟩, by decide +kernel, by decide⟩
theorem sJ3_checkIndex_8e157 : Cond.static YJ3_checkIndex_8e157.1 ∈ lw_all := lw_in3 (k := 75) rfl rfl
abbrev YL_law : ab_Y := (x, code, maxLocals, ret)
theorem kc0 : ab_KC 0 RX0 TX0 4 := ⟨by decide, rfl, tyX0_ok, nmX0, by decide +kernel, fun w hw => List.mem_filter.mpr ⟨(by decide +kernel : ∀ w ∈ u_ws RX0 TX0 4, w ∈ lw_tbl) w hw, (by decide +kernel : ∀ w ∈ u_ws RX0 TX0 4, goodWord w = true) w hw⟩⟩
theorem kc1 : ab_KC 1 RX1 TX1 7 := ⟨by decide, rfl, tyX1_ok, nmX1, by decide +kernel, fun w hw => List.mem_filter.mpr ⟨(by decide +kernel : ∀ w ∈ u_ws RX1 TX1 7, w ∈ lw_tbl) w hw, (by decide +kernel : ∀ w ∈ u_ws RX1 TX1 7, goodWord w = true) w hw⟩⟩
theorem kc2 : ab_KC 2 RX2 TX2 4 := ⟨by decide, rfl, tyX2_ok, nmX2, by decide +kernel, fun w hw => List.mem_filter.mpr ⟨(by decide +kernel : ∀ w ∈ u_ws RX2 TX2 4, w ∈ lw_tbl) w hw, (by decide +kernel : ∀ w ∈ u_ws RX2 TX2 4, goodWord w = true) w hw⟩⟩
theorem kc3 : ab_KC 3 RX3 TX3 4 := ⟨by decide, rfl, tyX3_ok, nmX3, by decide +kernel, fun w hw => List.mem_filter.mpr ⟨(by decide +kernel : ∀ w ∈ u_ws RX3 TX3 4, w ∈ lw_tbl) w hw, (by decide +kernel : ∀ w ∈ u_ws RX3 TX3 4, goodWord w = true) w hw⟩⟩
theorem kc4 : ab_KC 4 RX4 TX4 5 := ⟨by decide, rfl, tyX4_ok, nmX4, by decide +kernel, fun w hw => List.mem_filter.mpr ⟨(by decide +kernel : ∀ w ∈ u_ws RX4 TX4 5, w ∈ lw_tbl) w hw, (by decide +kernel : ∀ w ∈ u_ws RX4 TX4 5, goodWord w = true) w hw⟩⟩
theorem kc5 : ab_KC 5 RX5 TX5 6 := ⟨by decide, rfl, tyX5_ok, nmX5, by decide +kernel, fun w hw => List.mem_filter.mpr ⟨(by decide +kernel : ∀ w ∈ u_ws RX5 TX5 6, w ∈ lw_tbl) w hw, (by decide +kernel : ∀ w ∈ u_ws RX5 TX5 6, goodWord w = true) w hw⟩⟩
theorem kc6 : ab_KC 6 RX6 TX6 2 := ⟨by decide, rfl, tyX6_ok, nmX6, by decide +kernel, fun w hw => List.mem_filter.mpr ⟨(by decide +kernel : ∀ w ∈ u_ws RX6 TX6 2, w ∈ lw_tbl) w hw, (by decide +kernel : ∀ w ∈ u_ws RX6 TX6 2, goodWord w = true) w hw⟩⟩
theorem kc7 : ab_KC 7 RX7 TX7 7 := ⟨by decide, rfl, tyX7_ok, nmX7, by decide +kernel, fun w hw => List.mem_filter.mpr ⟨(by decide +kernel : ∀ w ∈ u_ws RX7 TX7 7, w ∈ lw_tbl) w hw, (by decide +kernel : ∀ w ∈ u_ws RX7 TX7 7, goodWord w = true) w hw⟩⟩
theorem kc8 : ab_KC 8 RX8 TX8 3 := ⟨by decide, rfl, tyX8_ok, nmX8, by decide +kernel, fun w hw => List.mem_filter.mpr ⟨(by decide +kernel : ∀ w ∈ u_ws RX8 TX8 3, w ∈ lw_tbl) w hw, (by decide +kernel : ∀ w ∈ u_ws RX8 TX8 3, goodWord w = true) w hw⟩⟩
theorem kc9 : ab_KC 9 RX9 TX9 6 := ⟨by decide, rfl, tyX9_ok, nmX9, by decide +kernel, fun w hw => List.mem_filter.mpr ⟨(by decide +kernel : ∀ w ∈ u_ws RX9 TX9 6, w ∈ lw_tbl) w hw, (by decide +kernel : ∀ w ∈ u_ws RX9 TX9 6, goodWord w = true) w hw⟩⟩
theorem kc10 : ab_KC 10 RX10 TX10 4 := ⟨by decide, rfl, tyX10_ok, nmX10, by decide +kernel, fun w hw => List.mem_filter.mpr ⟨(by decide +kernel : ∀ w ∈ u_ws RX10 TX10 4, w ∈ lw_tbl) w hw, (by decide +kernel : ∀ w ∈ u_ws RX10 TX10 4, goodWord w = true) w hw⟩⟩
theorem kc11 : ab_KC 11 RX11 TX11 11 := ⟨by decide, rfl, tyX11_ok, nmX11, by decide +kernel, fun w hw => List.mem_filter.mpr ⟨(by decide +kernel : ∀ w ∈ u_ws RX11 TX11 11, w ∈ lw_tbl) w hw, (by decide +kernel : ∀ w ∈ u_ws RX11 TX11 11, goodWord w = true) w hw⟩⟩
theorem kc12 : ab_KC 12 RX12 TX12 32 := ⟨by decide, rfl, tyX12_ok, nmX12, by decide +kernel, fun w hw => List.mem_filter.mpr ⟨(by decide +kernel : ∀ w ∈ u_ws RX12 TX12 32, w ∈ lw_tbl) w hw, (by decide +kernel : ∀ w ∈ u_ws RX12 TX12 32, goodWord w = true) w hw⟩⟩
theorem lL_9 : Cond.methodLink RL 9 YX11_init.1 ∈ lw_all := lw_in1 (k := 24) rfl rfl
theorem lX11_1 : Cond.methodLink RX11 1 objectInit ∈ lw_all := lw_in1 (k := 27) rfl rfl
theorem lX11_9 : Cond.methodLink RX11 9 YX10_init.1 ∈ lw_all := lw_in1 (k := 32) rfl rfl
theorem lX10_3 : Cond.methodLink RX10 3 objectInit ∈ lw_all := lw_in1 (k := 35) rfl rfl
theorem lX6_3 : Cond.methodLink RX6 3 objectInit ∈ lw_all := lw_in1 (k := 43) rfl rfl
theorem fX6_9 : ab_FL RX6 9 6 0 true := ⟨_, _, _, kc6, by decide, rfl, lw_in1 (k := 44) rfl rfl⟩
theorem fX6_15 : ab_FL RX6 15 6 1 false := ⟨_, _, _, kc6, by decide, rfl, lw_in1 (k := 45) rfl rfl⟩
theorem fX11_275 : ab_FL RX11 275 6 1 false := ⟨_, _, _, kc6, by decide, rfl, lw_in1 (k := 46) rfl rfl⟩
theorem lX10_30 : Cond.methodLink RX10 30 YJ7_fill_53178.1 ∈ lw_all := lw_in1 (k := 53) rfl rfl
theorem fX10_11 : ab_FL RX10 11 10 0 true := ⟨_, _, _, kc10, by decide, rfl, lw_in1 (k := 56) rfl rfl⟩
theorem fX11_93 : ab_FL RX11 93 10 0 true := ⟨_, _, _, kc10, by decide, rfl, lw_in1 (k := 57) rfl rfl⟩
theorem fX2_26 : ab_FL RX2 26 10 0 true := ⟨_, _, _, kc10, by decide, rfl, lw_in1 (k := 58) rfl rfl⟩
theorem fX5_66 : ab_FL RX5 66 10 0 true := ⟨_, _, _, kc10, by decide, rfl, lw_in1 (k := 59) rfl rfl⟩
theorem fX3_63 : ab_FL RX3 63 10 0 true := ⟨_, _, _, kc10, by decide, rfl, lw_in1 (k := 60) rfl rfl⟩
theorem fX1_112 : ab_FL RX1 112 10 0 true := ⟨_, _, _, kc10, by decide, rfl, lw_in1 (k := 61) rfl rfl⟩
theorem fX10_16 : ab_FL RX10 16 10 1 true := ⟨_, _, _, kc10, by decide, rfl, lw_in1 (k := 62) rfl rfl⟩
theorem fX11_100 : ab_FL RX11 100 10 1 true := ⟨_, _, _, kc10, by decide, rfl, lw_in1 (k := 63) rfl rfl⟩
theorem fX1_93 : ab_FL RX1 93 10 1 true := ⟨_, _, _, kc10, by decide, rfl, lw_in1 (k := 64) rfl rfl⟩
theorem fX10_23 : ab_FL RX10 23 10 2 true := ⟨_, _, _, kc10, by decide, rfl, lw_in1 (k := 65) rfl rfl⟩
theorem fX11_104 : ab_FL RX11 104 10 2 true := ⟨_, _, _, kc10, by decide, rfl, lw_in1 (k := 66) rfl rfl⟩
theorem fX1_58 : ab_FL RX1 58 10 2 true := ⟨_, _, _, kc10, by decide, rfl, lw_in1 (k := 67) rfl rfl⟩
theorem fX10_27 : ab_FL RX10 27 10 3 true := ⟨_, _, _, kc10, by decide, rfl, lw_in1 (k := 68) rfl rfl⟩
theorem fX11_118 : ab_FL RX11 118 10 3 true := ⟨_, _, _, kc10, by decide, rfl, lw_in1 (k := 69) rfl rfl⟩
theorem fX1_74 : ab_FL RX1 74 10 3 true := ⟨_, _, _, kc10, by decide, rfl, lw_in1 (k := 70) rfl rfl⟩
theorem lX11_18 : Cond.methodLink RX11 18 YX7_init.1 ∈ lw_all := lw_in1 (k := 82) rfl rfl
theorem lX7_3 : Cond.methodLink RX7 3 objectInit ∈ lw_all := lw_in1 (k := 85) rfl rfl
theorem lX7_21 : Cond.methodLink RX7 21 YX7_setAsAtFirst.1 ∈ lw_all := lw_in1 (k := 86) rfl rfl
theorem lX7_37 : Cond.methodLink RX7 37 YX7_setWay.1 ∈ lw_all := lw_in1 (k := 90) rfl rfl
theorem fX7_24 : ab_FL RX7 24 7 0 false := ⟨_, _, _, kc7, by decide, rfl, lw_in1 (k := 94) rfl rfl⟩
theorem fX9_58 : ab_FL RX9 58 7 0 false := ⟨_, _, _, kc7, by decide, rfl, lw_in1 (k := 95) rfl rfl⟩
theorem fX11_136 : ab_FL RX11 136 7 0 false := ⟨_, _, _, kc7, by decide, rfl, lw_in1 (k := 96) rfl rfl⟩
theorem fX1_106 : ab_FL RX1 106 7 0 false := ⟨_, _, _, kc7, by decide, rfl, lw_in1 (k := 97) rfl rfl⟩
theorem fX7_28 : ab_FL RX7 28 7 1 false := ⟨_, _, _, kc7, by decide, rfl, lw_in1 (k := 98) rfl rfl⟩
theorem fX9_66 : ab_FL RX9 66 7 1 false := ⟨_, _, _, kc7, by decide, rfl, lw_in1 (k := 99) rfl rfl⟩
theorem fX1_133 : ab_FL RX1 133 7 1 false := ⟨_, _, _, kc7, by decide, rfl, lw_in1 (k := 100) rfl rfl⟩
theorem fX11_188 : ab_FL RX11 188 7 1 false := ⟨_, _, _, kc7, by decide, rfl, lw_in1 (k := 101) rfl rfl⟩
theorem fX7_31 : ab_FL RX7 31 7 2 false := ⟨_, _, _, kc7, by decide, rfl, lw_in1 (k := 102) rfl rfl⟩
theorem fX9_75 : ab_FL RX9 75 7 2 false := ⟨_, _, _, kc7, by decide, rfl, lw_in1 (k := 103) rfl rfl⟩
theorem fX1_134 : ab_FL RX1 134 7 2 false := ⟨_, _, _, kc7, by decide, rfl, lw_in1 (k := 104) rfl rfl⟩
theorem fX11_189 : ab_FL RX11 189 7 2 false := ⟨_, _, _, kc7, by decide, rfl, lw_in1 (k := 105) rfl rfl⟩
theorem fX7_34 : ab_FL RX7 34 7 3 false := ⟨_, _, _, kc7, by decide, rfl, lw_in1 (k := 106) rfl rfl⟩
theorem fX9_79 : ab_FL RX9 79 7 3 false := ⟨_, _, _, kc7, by decide, rfl, lw_in1 (k := 107) rfl rfl⟩
theorem fX1_81 : ab_FL RX1 81 7 3 false := ⟨_, _, _, kc7, by decide, rfl, lw_in1 (k := 108) rfl rfl⟩
theorem fX11_192 : ab_FL RX11 192 7 3 false := ⟨_, _, _, kc7, by decide, rfl, lw_in1 (k := 109) rfl rfl⟩
theorem fX7_9 : ab_FL RX7 9 7 4 true := ⟨_, _, _, kc7, by decide, rfl, lw_in1 (k := 110) rfl rfl⟩
theorem fX11_195 : ab_FL RX11 195 7 4 true := ⟨_, _, _, kc7, by decide, rfl, lw_in1 (k := 111) rfl rfl⟩
theorem fX7_15 : ab_FL RX7 15 7 5 true := ⟨_, _, _, kc7, by decide, rfl, lw_in1 (k := 112) rfl rfl⟩
theorem fX11_198 : ab_FL RX11 198 7 5 true := ⟨_, _, _, kc7, by decide, rfl, lw_in1 (k := 113) rfl rfl⟩
theorem fX7_18 : ab_FL RX7 18 7 6 true := ⟨_, _, _, kc7, by decide, rfl, lw_in1 (k := 114) rfl rfl⟩
theorem fX11_201 : ab_FL RX11 201 7 6 true := ⟨_, _, _, kc7, by decide, rfl, lw_in1 (k := 115) rfl rfl⟩
theorem lX9_3 : Cond.methodLink RX9 3 objectInit ∈ lw_all := lw_in1 (k := 136) rfl rfl
theorem fX9_9 : ab_FL RX9 9 9 0 true := ⟨_, _, _, kc9, by decide, rfl, lw_in1 (k := 137) rfl rfl⟩
theorem fX9_15 : ab_FL RX9 15 9 1 false := ⟨_, _, _, kc9, by decide, rfl, lw_in1 (k := 138) rfl rfl⟩
theorem fX11_169 : ab_FL RX11 169 9 1 false := ⟨_, _, _, kc9, by decide, rfl, lw_in1 (k := 139) rfl rfl⟩
theorem fX9_19 : ab_FL RX9 19 9 2 false := ⟨_, _, _, kc9, by decide, rfl, lw_in1 (k := 140) rfl rfl⟩
theorem fX11_185 : ab_FL RX11 185 9 2 false := ⟨_, _, _, kc9, by decide, rfl, lw_in1 (k := 141) rfl rfl⟩
theorem fX9_37 : ab_FL RX9 37 9 3 false := ⟨_, _, _, kc9, by decide, rfl, lw_in1 (k := 142) rfl rfl⟩
theorem fX9_27 : ab_FL RX9 27 9 4 false := ⟨_, _, _, kc9, by decide, rfl, lw_in1 (k := 143) rfl rfl⟩
theorem fX9_96 : ab_FL RX9 96 9 5 false := ⟨_, _, _, kc9, by decide, rfl, lw_in1 (k := 144) rfl rfl⟩
theorem lX11_35 : Cond.methodLink RX11 35 YX1_init.1 ∈ lw_all := lw_in1 (k := 161) rfl rfl
theorem lX1_3 : Cond.methodLink RX1 3 objectInit ∈ lw_all := lw_in1 (k := 164) rfl rfl
theorem lX4_1 : Cond.methodLink RX4 1 objectInit ∈ lw_all := lw_in1 (k := 172) rfl rfl
theorem fX4_7 : ab_FL RX4 7 4 0 false := ⟨_, _, _, kc4, by decide, rfl, lw_in1 (k := 173) rfl rfl⟩
theorem fX3_41 : ab_FL RX3 41 4 0 false := ⟨_, _, _, kc4, by decide, rfl, lw_in1 (k := 174) rfl rfl⟩
theorem fX11_146 : ab_FL RX11 146 4 0 false := ⟨_, _, _, kc4, by decide, rfl, lw_in1 (k := 175) rfl rfl⟩
theorem fX1_97 : ab_FL RX1 97 4 0 false := ⟨_, _, _, kc4, by decide, rfl, lw_in1 (k := 176) rfl rfl⟩
theorem fX4_13 : ab_FL RX4 13 4 1 false := ⟨_, _, _, kc4, by decide, rfl, lw_in1 (k := 177) rfl rfl⟩
theorem fX11_151 : ab_FL RX11 151 4 1 false := ⟨_, _, _, kc4, by decide, rfl, lw_in1 (k := 178) rfl rfl⟩
theorem fX1_103 : ab_FL RX1 103 4 1 false := ⟨_, _, _, kc4, by decide, rfl, lw_in1 (k := 179) rfl rfl⟩
theorem fX4_16 : ab_FL RX4 16 4 2 false := ⟨_, _, _, kc4, by decide, rfl, lw_in1 (k := 180) rfl rfl⟩
theorem fX11_154 : ab_FL RX11 154 4 2 false := ⟨_, _, _, kc4, by decide, rfl, lw_in1 (k := 181) rfl rfl⟩
theorem fX1_100 : ab_FL RX1 100 4 2 false := ⟨_, _, _, kc4, by decide, rfl, lw_in1 (k := 182) rfl rfl⟩
theorem fX4_19 : ab_FL RX4 19 4 3 false := ⟨_, _, _, kc4, by decide, rfl, lw_in1 (k := 183) rfl rfl⟩
theorem fX11_157 : ab_FL RX11 157 4 3 false := ⟨_, _, _, kc4, by decide, rfl, lw_in1 (k := 184) rfl rfl⟩
theorem fX1_130 : ab_FL RX1 130 4 3 false := ⟨_, _, _, kc4, by decide, rfl, lw_in1 (k := 185) rfl rfl⟩
theorem fX4_22 : ab_FL RX4 22 4 4 false := ⟨_, _, _, kc4, by decide, rfl, lw_in1 (k := 186) rfl rfl⟩
theorem fX11_160 : ab_FL RX11 160 4 4 false := ⟨_, _, _, kc4, by decide, rfl, lw_in1 (k := 187) rfl rfl⟩
theorem fX1_115 : ab_FL RX1 115 4 4 false := ⟨_, _, _, kc4, by decide, rfl, lw_in1 (k := 188) rfl rfl⟩
theorem fX1_35 : ab_FL RX1 35 1 0 true := ⟨_, _, _, kc1, by decide, rfl, lw_in1 (k := 200) rfl rfl⟩
theorem fX1_11 : ab_FL RX1 11 1 1 true := ⟨_, _, _, kc1, by decide, rfl, lw_in1 (k := 201) rfl rfl⟩
theorem fX3_37 : ab_FL RX3 37 1 1 true := ⟨_, _, _, kc1, by decide, rfl, lw_in1 (k := 202) rfl rfl⟩
theorem fX11_142 : ab_FL RX11 142 1 1 true := ⟨_, _, _, kc1, by decide, rfl, lw_in1 (k := 203) rfl rfl⟩
theorem fX1_17 : ab_FL RX1 17 1 2 false := ⟨_, _, _, kc1, by decide, rfl, lw_in1 (k := 204) rfl rfl⟩
theorem fX3_26 : ab_FL RX3 26 1 2 false := ⟨_, _, _, kc1, by decide, rfl, lw_in1 (k := 205) rfl rfl⟩
theorem fX11_125 : ab_FL RX11 125 1 2 false := ⟨_, _, _, kc1, by decide, rfl, lw_in1 (k := 206) rfl rfl⟩
theorem fX1_21 : ab_FL RX1 21 1 3 false := ⟨_, _, _, kc1, by decide, rfl, lw_in1 (k := 207) rfl rfl⟩
theorem fX11_129 : ab_FL RX11 129 1 3 false := ⟨_, _, _, kc1, by decide, rfl, lw_in1 (k := 208) rfl rfl⟩
theorem fX1_24 : ab_FL RX1 24 1 4 false := ⟨_, _, _, kc1, by decide, rfl, lw_in1 (k := 209) rfl rfl⟩
theorem fX11_276 : ab_FL RX11 276 1 4 false := ⟨_, _, _, kc1, by decide, rfl, lw_in1 (k := 210) rfl rfl⟩
theorem fX1_27 : ab_FL RX1 27 1 5 false := ⟨_, _, _, kc1, by decide, rfl, lw_in1 (k := 211) rfl rfl⟩
theorem fX11_166 : ab_FL RX11 166 1 5 false := ⟨_, _, _, kc1, by decide, rfl, lw_in1 (k := 212) rfl rfl⟩
theorem fX1_32 : ab_FL RX1 32 1 6 true := ⟨_, _, _, kc1, by decide, rfl, lw_in1 (k := 213) rfl rfl⟩
theorem fX11_163 : ab_FL RX11 163 1 6 true := ⟨_, _, _, kc1, by decide, rfl, lw_in1 (k := 214) rfl rfl⟩
theorem lX11_47 : Cond.methodLink RX11 47 YX5_init.1 ∈ lw_all := lw_in1 (k := 232) rfl rfl
theorem lX5_3 : Cond.methodLink RX5 3 objectInit ∈ lw_all := lw_in1 (k := 235) rfl rfl
theorem fX5_30 : ab_FL RX5 30 5 0 true := ⟨_, _, _, kc5, by decide, rfl, lw_in1 (k := 237) rfl rfl⟩
theorem fX5_9 : ab_FL RX5 9 5 1 true := ⟨_, _, _, kc5, by decide, rfl, lw_in1 (k := 238) rfl rfl⟩
theorem fX5_17 : ab_FL RX5 17 5 2 true := ⟨_, _, _, kc5, by decide, rfl, lw_in1 (k := 239) rfl rfl⟩
theorem fX5_20 : ab_FL RX5 20 5 3 true := ⟨_, _, _, kc5, by decide, rfl, lw_in2 (k := 0) rfl rfl⟩
theorem fX11_224 : ab_FL RX11 224 5 3 true := ⟨_, _, _, kc5, by decide, rfl, lw_in2 (k := 1) rfl rfl⟩
theorem fX5_23 : ab_FL RX5 23 5 4 false := ⟨_, _, _, kc5, by decide, rfl, lw_in2 (k := 2) rfl rfl⟩
theorem fX11_221 : ab_FL RX11 221 5 4 false := ⟨_, _, _, kc5, by decide, rfl, lw_in2 (k := 3) rfl rfl⟩
theorem fX5_27 : ab_FL RX5 27 5 5 false := ⟨_, _, _, kc5, by decide, rfl, lw_in2 (k := 4) rfl rfl⟩
theorem lX11_54 : Cond.methodLink RX11 54 YX3_init.1 ∈ lw_all := lw_in2 (k := 20) rfl rfl
theorem lX3_3 : Cond.methodLink RX3 3 objectInit ∈ lw_all := lw_in2 (k := 23) rfl rfl
theorem fX3_22 : ab_FL RX3 22 3 0 true := ⟨_, _, _, kc3, by decide, rfl, lw_in2 (k := 24) rfl rfl⟩
theorem fX3_9 : ab_FL RX3 9 3 1 true := ⟨_, _, _, kc3, by decide, rfl, lw_in2 (k := 25) rfl rfl⟩
theorem fX3_15 : ab_FL RX3 15 3 2 false := ⟨_, _, _, kc3, by decide, rfl, lw_in2 (k := 26) rfl rfl⟩
theorem fX3_19 : ab_FL RX3 19 3 3 true := ⟨_, _, _, kc3, by decide, rfl, lw_in2 (k := 27) rfl rfl⟩
theorem lX11_61 : Cond.methodLink RX11 61 YX2_init.1 ∈ lw_all := lw_in2 (k := 39) rfl rfl
theorem lX2_3 : Cond.methodLink RX2 3 objectInit ∈ lw_all := lw_in2 (k := 42) rfl rfl
theorem fX2_22 : ab_FL RX2 22 2 0 true := ⟨_, _, _, kc2, by decide, rfl, lw_in2 (k := 43) rfl rfl⟩
theorem fX2_9 : ab_FL RX2 9 2 1 true := ⟨_, _, _, kc2, by decide, rfl, lw_in2 (k := 44) rfl rfl⟩
theorem fX2_15 : ab_FL RX2 15 2 2 true := ⟨_, _, _, kc2, by decide, rfl, lw_in2 (k := 45) rfl rfl⟩
theorem fX0_41 : ab_FL RX0 41 2 2 true := ⟨_, _, _, kc2, by decide, rfl, lw_in2 (k := 46) rfl rfl⟩
theorem fX8_41 : ab_FL RX8 41 2 2 true := ⟨_, _, _, kc2, by decide, rfl, lw_in2 (k := 47) rfl rfl⟩
theorem fX2_18 : ab_FL RX2 18 2 3 false := ⟨_, _, _, kc2, by decide, rfl, lw_in2 (k := 48) rfl rfl⟩
theorem fX8_23 : ab_FL RX8 23 2 3 false := ⟨_, _, _, kc2, by decide, rfl, lw_in2 (k := 49) rfl rfl⟩
theorem fX0_36 : ab_FL RX0 36 2 3 false := ⟨_, _, _, kc2, by decide, rfl, lw_in2 (k := 50) rfl rfl⟩
theorem fX11_251 : ab_FL RX11 251 2 3 false := ⟨_, _, _, kc2, by decide, rfl, lw_in2 (k := 51) rfl rfl⟩
theorem lX11_68 : Cond.methodLink RX11 68 YX8_init.1 ∈ lw_all := lw_in2 (k := 63) rfl rfl
theorem lX8_3 : Cond.methodLink RX8 3 objectInit ∈ lw_all := lw_in2 (k := 66) rfl rfl
theorem fX8_19 : ab_FL RX8 19 8 0 true := ⟨_, _, _, kc8, by decide, rfl, lw_in2 (k := 67) rfl rfl⟩
theorem fX8_9 : ab_FL RX8 9 8 1 true := ⟨_, _, _, kc8, by decide, rfl, lw_in2 (k := 68) rfl rfl⟩
theorem fX11_257 : ab_FL RX11 257 8 1 true := ⟨_, _, _, kc8, by decide, rfl, lw_in2 (k := 69) rfl rfl⟩
theorem fX8_15 : ab_FL RX8 15 8 2 false := ⟨_, _, _, kc8, by decide, rfl, lw_in2 (k := 70) rfl rfl⟩
theorem fX11_260 : ab_FL RX11 260 8 2 false := ⟨_, _, _, kc8, by decide, rfl, lw_in2 (k := 71) rfl rfl⟩
theorem lX11_77 : Cond.methodLink RX11 77 YX0_init.1 ∈ lw_all := lw_in2 (k := 81) rfl rfl
theorem lX0_3 : Cond.methodLink RX0 3 objectInit ∈ lw_all := lw_in2 (k := 84) rfl rfl
theorem fX0_22 : ab_FL RX0 22 0 0 true := ⟨_, _, _, kc0, by decide, rfl, lw_in2 (k := 85) rfl rfl⟩
theorem fX0_9 : ab_FL RX0 9 0 1 true := ⟨_, _, _, kc0, by decide, rfl, lw_in2 (k := 86) rfl rfl⟩
theorem fX0_15 : ab_FL RX0 15 0 2 true := ⟨_, _, _, kc0, by decide, rfl, lw_in2 (k := 87) rfl rfl⟩
theorem fX11_266 : ab_FL RX11 266 0 2 true := ⟨_, _, _, kc0, by decide, rfl, lw_in2 (k := 88) rfl rfl⟩
theorem fX0_18 : ab_FL RX0 18 0 3 false := ⟨_, _, _, kc0, by decide, rfl, lw_in2 (k := 89) rfl rfl⟩
theorem fX11_265 : ab_FL RX11 265 0 3 false := ⟨_, _, _, kc0, by decide, rfl, lw_in2 (k := 90) rfl rfl⟩
theorem fX11_10 : ab_FL RX11 10 11 0 true := ⟨_, _, _, kc11, by decide, rfl, lw_in2 (k := 100) rfl rfl⟩
theorem fX11_19 : ab_FL RX11 19 11 1 true := ⟨_, _, _, kc11, by decide, rfl, lw_in2 (k := 101) rfl rfl⟩
theorem fX11_23 : ab_FL RX11 23 11 2 true := ⟨_, _, _, kc11, by decide, rfl, lw_in2 (k := 102) rfl rfl⟩
theorem fX11_29 : ab_FL RX11 29 11 3 true := ⟨_, _, _, kc11, by decide, rfl, lw_in2 (k := 103) rfl rfl⟩
theorem fX11_38 : ab_FL RX11 38 11 4 true := ⟨_, _, _, kc11, by decide, rfl, lw_in2 (k := 104) rfl rfl⟩
theorem fX11_42 : ab_FL RX11 42 11 5 true := ⟨_, _, _, kc11, by decide, rfl, lw_in2 (k := 105) rfl rfl⟩
theorem fX11_48 : ab_FL RX11 48 11 6 true := ⟨_, _, _, kc11, by decide, rfl, lw_in2 (k := 106) rfl rfl⟩
theorem fX11_55 : ab_FL RX11 55 11 7 true := ⟨_, _, _, kc11, by decide, rfl, lw_in2 (k := 107) rfl rfl⟩
theorem fX11_62 : ab_FL RX11 62 11 8 true := ⟨_, _, _, kc11, by decide, rfl, lw_in2 (k := 108) rfl rfl⟩
theorem fX11_71 : ab_FL RX11 71 11 9 true := ⟨_, _, _, kc11, by decide, rfl, lw_in2 (k := 109) rfl rfl⟩
theorem fX11_78 : ab_FL RX11 78 11 10 true := ⟨_, _, _, kc11, by decide, rfl, lw_in2 (k := 110) rfl rfl⟩
theorem lL_13 : Cond.methodLink RL 13 YX11_worth.1 ∈ lw_all := lw_in2 (k := 134) rfl rfl
theorem lX11_82 : Cond.methodLink RX11 82 YX11_isSort.1 ∈ lw_all := lw_in2 (k := 138) rfl rfl
theorem lX11_89 : Cond.methodLink RX11 89 YX11_within.1 ∈ lw_all := lw_in2 (k := 141) rfl rfl
theorem lX11_86 : Cond.methodLink RX11 86 YX11_isKind.1 ∈ lw_all := lw_in2 (k := 144) rfl rfl
theorem lX11_97 : Cond.methodLink RX11 97 YX5_forget.1 ∈ lw_all := lw_in2 (k := 147) rfl rfl
theorem lL_18 : Cond.methodLink RL 18 YX11_need.1 ∈ lw_all := lw_in2 (k := 151) rfl rfl
theorem lL_23 : Cond.methodLink RL 23 YX11_coming.1 ∈ lw_all := lw_in2 (k := 155) rfl rfl
theorem lX11_108 : Cond.methodLink RX11 108 YX6_isFull.1 ∈ lw_all := lw_in2 (k := 159) rfl rfl
theorem lX11_114 : Cond.methodLink RX11 114 YX6_add.1 ∈ lw_all := lw_in2 (k := 163) rfl rfl
theorem lX6_19 : Cond.methodLink RX6 19 YX6_isFull.1 ∈ lw_all := lw_in2 (k := 167) rfl rfl
theorem lL_28 : Cond.methodLink RL 28 YX11_joining.1 ∈ lw_all := lw_in2 (k := 168) rfl rfl
theorem lL_32 : Cond.methodLink RL 32 YX11_join.1 ∈ lw_all := lw_in2 (k := 172) rfl rfl
theorem lX11_121 : Cond.methodLink RX11 121 YX1_isFull.1 ∈ lw_all := lw_in2 (k := 176) rfl rfl
theorem lX11_122 : Cond.methodLink RX11 122 YX1_add.1 ∈ lw_all := lw_in2 (k := 180) rfl rfl
theorem lX1_50 : Cond.methodLink RX1 50 YX1_isFull.1 ∈ lw_all := lw_in2 (k := 184) rfl rfl
theorem lX1_54 : Cond.methodLink RX1 54 YX4_begin.1 ∈ lw_all := lw_in2 (k := 185) rfl rfl
theorem lL_36 : Cond.methodLink RL 36 YX11_run.1 ∈ lw_all := lw_in2 (k := 189) rfl rfl
theorem lX11_132 : Cond.methodLink RX11 132 YX1_pass.1 ∈ lw_all := lw_in2 (k := 193) rfl rfl
theorem lX1_64 : Cond.methodLink RX1 64 YX6_inWeek.1 ∈ lw_all := lw_in2 (k := 197) rfl rfl
theorem lX1_70 : Cond.methodLink RX1 70 YX1_offer.1 ∈ lw_all := lw_in2 (k := 201) rfl rfl
theorem lX1_109 : Cond.methodLink RX1 109 YX1_stand.1 ∈ lw_all := lw_in2 (k := 205) rfl rfl
theorem lX1_89 : Cond.methodLink RX1 89 YX1_isAhead.1 ∈ lw_all := lw_in2 (k := 209) rfl rfl
theorem lX1_118 : Cond.methodLink RX1 118 YX7_takes.1 ∈ lw_all := lw_in2 (k := 213) rfl rfl
theorem lX1_122 : Cond.methodLink RX1 122 YX1_sayNo.1 ∈ lw_all := lw_in2 (k := 217) rfl rfl
theorem lX1_126 : Cond.methodLink RX1 126 YX1_house.1 ∈ lw_all := lw_in2 (k := 221) rfl rfl
theorem lX1_77 : Cond.methodLink RX1 77 YX1_arrive.1 ∈ lw_all := lw_in2 (k := 225) rfl rfl
theorem lX1_137 : Cond.methodLink RX1 137 YX1_add.1 ∈ lw_all := lw_in2 (k := 229) rfl rfl
theorem lX1_86 : Cond.methodLink RX1 86 YX1_growOlder.1 ∈ lw_all := lw_in2 (k := 230) rfl rfl
theorem lX1_140 : Cond.methodLink RX1 140 YJ9_min_7cf53.1 ∈ lw_all := lw_in2 (k := 234) rfl rfl
theorem lL_40 : Cond.methodLink RL 40 YX11_person.1 ∈ lw_all := lw_in2 (k := 237) rfl rfl
theorem lX11_139 : Cond.methodLink RX11 139 YX1_stand.1 ∈ lw_all := lw_in3 (k := 1) rfl rfl
theorem lL_44 : Cond.methodLink RL 44 YX11_of.1 ∈ lw_all := lw_in3 (k := 2) rfl rfl
theorem lL_48 : Cond.methodLink RL 48 YX11_empty.1 ∈ lw_all := lw_in3 (k := 6) rfl rfl
theorem lL_55 : Cond.methodLink RL 55 YX11_write.1 ∈ lw_all := lw_in3 (k := 10) rfl rfl
theorem nX11_172 : Cond.constantLong RX11 172 (Int64.ofInt (255)) ∈ lw_all := lw_in3 (k := 14) rfl rfl
theorem lX11_174 : Cond.methodLink RX11 174 YX9_add.1 ∈ lw_all := lw_in3 (k := 15) rfl rfl
theorem lL_60 : Cond.methodLink RL 60 YX11_erase.1 ∈ lw_all := lw_in3 (k := 19) rfl rfl
theorem lL_64 : Cond.methodLink RL 64 YX11_fault.1 ∈ lw_all := lw_in3 (k := 23) rfl rfl
theorem lX11_177 : Cond.methodLink RX11 177 YX9_readInto.1 ∈ lw_all := lw_in3 (k := 27) rfl rfl
theorem lX9_22 : Cond.methodLink RX9 22 YX7_setAsAtFirst.1 ∈ lw_all := lw_in3 (k := 31) rfl rfl
theorem lX9_30 : Cond.methodLink RX9 30 YX9_goOn.1 ∈ lw_all := lw_in3 (k := 32) rfl rfl
theorem lX9_108 : Cond.methodLink RX9 108 YX9_lookOf.1 ∈ lw_all := lw_in3 (k := 36) rfl rfl
theorem lX9_33 : Cond.methodLink RX9 33 YX9_readLine.1 ∈ lw_all := lw_in3 (k := 39) rfl rfl
theorem lX9_42 : Cond.methodLink RX9 42 YX9_pass.1 ∈ lw_all := lw_in3 (k := 44) rfl rfl
theorem lX9_99 : Cond.methodLink RX9 99 YJ0_length_8abf5.1 ∈ lw_all := lw_in3 (k := 48) rfl rfl
theorem lJ0_335 : Cond.methodLink RJ0 335 YJ0_coder_7d493.1 ∈ lw_all := lw_in3 (k := 52) rfl rfl
theorem gJ0_38 : Cond.fieldLink RJ0 38 "java/lang/String" "COMPACT_STRINGS" "Z" ∈ lw_all := lw_in3 (k := 56) rfl rfl
theorem lX9_104 : Cond.methodLink RX9 104 YJ0_charAt_5068e.1 ∈ lw_all := lw_in3 (k := 58) rfl rfl
theorem lJ0_492 : Cond.methodLink RJ0 492 YJ0_isLatin1_aae02.1 ∈ lw_all := lw_in3 (k := 62) rfl rfl
theorem lJ0_495 : Cond.methodLink RJ0 495 YJ1_charAt_3b067.1 ∈ lw_all := lw_in3 (k := 66) rfl rfl
theorem lJ1_9 : Cond.methodLink RJ1 9 YJ0_checkIndex_df160.1 ∈ lw_all := lw_in3 (k := 69) rfl rfl
theorem gJ0_1053 : Cond.fieldLink RJ0 1053 "jdk/internal/util/Preconditions" "SIOOBE_FORMATTER" "Ljava/util/function/BiFunction;" ∈ lw_all := lw_in3 (k := 72) rfl rfl
theorem lJ0_1059 : Cond.methodLink RJ0 1059 YJ3_checkIndex_8e157.1 ∈ lw_all := lw_in3 (k := 74) rfl rfl
theorem lJ0_498 : Cond.methodLink RJ0 498 YJ2_charAt_3b067.1 ∈ lw_all := lw_in3 (k := 77) rfl rfl
theorem lJ2_67 : Cond.methodLink RJ2 67 YJ2_checkIndex_2214a.1 ∈ lw_all := lw_in3 (k := 80) rfl rfl
theorem lJ2_48 : Cond.methodLink RJ2 48 YJ2_length_9d52b.1 ∈ lw_all := lw_in3 (k := 83) rfl rfl
theorem lJ2_414 : Cond.methodLink RJ2 414 YJ0_checkIndex_df160.1 ∈ lw_all := lw_in3 (k := 86) rfl rfl
theorem lJ2_71 : Cond.methodLink RJ2 71 YJ2_getChar_3b067.1 ∈ lw_all := lw_in3 (k := 87) rfl rfl
theorem gJ2_44 : Cond.fieldLink RJ2 44 "java/lang/StringUTF16" "$assertionsDisabled" "Z" ∈ lw_all := lw_in3 (k := 90) rfl rfl
theorem gJ2_59 : Cond.fieldLink RJ2 59 "java/lang/StringUTF16" "HI_BYTE_SHIFT" "I" ∈ lw_all := lw_in3 (k := 92) rfl rfl
theorem gJ2_63 : Cond.fieldLink RJ2 63 "java/lang/StringUTF16" "LO_BYTE_SHIFT" "I" ∈ lw_all := lw_in3 (k := 94) rfl rfl
theorem lX9_54 : Cond.methodLink RX9 54 YX9_choose.1 ∈ lw_all := lw_in3 (k := 99) rfl rfl
theorem lX9_62 : Cond.methodLink RX9 62 YX9_number.1 ∈ lw_all := lw_in3 (k := 104) rfl rfl
theorem lX9_83 : Cond.methodLink RX9 83 YX9_readWay.1 ∈ lw_all := lw_in3 (k := 114) rfl rfl
theorem lX9_92 : Cond.methodLink RX9 92 YX7_setWay.1 ∈ lw_all := lw_in3 (k := 121) rfl rfl
theorem lL_68 : Cond.methodLink RL 68 YX11_rules.1 ∈ lw_all := lw_in3 (k := 124) rfl rfl
theorem lX11_181 : Cond.methodLink RX11 181 YX7_copy.1 ∈ lw_all := lw_in3 (k := 128) rfl rfl
theorem lL_72 : Cond.methodLink RL 72 YX11_rule.1 ∈ lw_all := lw_in3 (k := 132) rfl rfl
theorem lL_76 : Cond.methodLink RL 76 YX11_way.1 ∈ lw_all := lw_in3 (k := 136) rfl rfl
theorem lL_80 : Cond.methodLink RL 80 YX11_would.1 ∈ lw_all := lw_in3 (k := 140) rfl rfl
theorem lX11_204 : Cond.methodLink RX11 204 YX11_tryOut.1 ∈ lw_all := lw_in3 (k := 144) rfl rfl
theorem lX11_279 : Cond.methodLink RX11 279 YX1_beginLike.1 ∈ lw_all := lw_in3 (k := 148) rfl rfl
theorem lX1_40 : Cond.methodLink RX1 40 YX4_copy.1 ∈ lw_all := lw_in3 (k := 152) rfl rfl
theorem lX1_44 : Cond.methodLink RX1 44 YJ7_fill_53178.1 ∈ lw_all := lw_in3 (k := 156) rfl rfl
theorem lX11_207 : Cond.methodLink RX11 207 YX1_total.1 ∈ lw_all := lw_in3 (k := 157) rfl rfl
theorem lL_84 : Cond.methodLink RL 84 YX11_gain.1 ∈ lw_all := lw_in3 (k := 161) rfl rfl
theorem nX11_210 : Cond.constant RX11 210 (Int32.ofInt (-2147483648)) ∈ lw_all := lw_in3 (k := 165) rfl rfl
theorem lX11_211 : Cond.methodLink RX11 211 YX1_gained.1 ∈ lw_all := lw_in3 (k := 166) rfl rfl
theorem lL_88 : Cond.methodLink RL 88 YX11_best.1 ∈ lw_all := lw_in3 (k := 170) rfl rfl
theorem lL_92 : Cond.methodLink RL 92 YX11_rest.1 ∈ lw_all := lw_in3 (k := 174) rfl rfl
theorem lX11_214 : Cond.methodLink RX11 214 YX5_areKnownFor.1 ∈ lw_all := lw_in3 (k := 178) rfl rfl
theorem lX11_217 : Cond.methodLink RX11 217 YX5_find.1 ∈ lw_all := lw_in3 (k := 182) rfl rfl
theorem lX5_34 : Cond.methodLink RX5 34 YX5_findLikeBars.1 ∈ lw_all := lw_in3 (k := 186) rfl rfl
theorem lX5_62 : Cond.methodLink RX5 62 YX5_kindsTaken.1 ∈ lw_all := lw_in3 (k := 190) rfl rfl
theorem lX5_37 : Cond.methodLink RX5 37 YX5_likeSetting.1 ∈ lw_all := lw_in3 (k := 194) rfl rfl
theorem lX5_71 : Cond.methodLink RX5 71 YX5_barOf.1 ∈ lw_all := lw_in3 (k := 198) rfl rfl
theorem lX5_41 : Cond.methodLink RX5 41 YX5_setWays.1 ∈ lw_all := lw_in3 (k := 203) rfl rfl
theorem lX5_77 : Cond.methodLink RX5 77 YX7_setWay.1 ∈ lw_all := lw_in3 (k := 207) rfl rfl
theorem lX5_45 : Cond.methodLink RX5 45 YX1_beginLike.1 ∈ lw_all := lw_in3 (k := 208) rfl rfl
theorem lX5_51 : Cond.methodLink RX5 51 YX1_pass.1 ∈ lw_all := lw_in3 (k := 209) rfl rfl
theorem lX5_55 : Cond.methodLink RX5 55 YX1_gained.1 ∈ lw_all := lw_in3 (k := 210) rfl rfl
theorem lX5_58 : Cond.methodLink RX5 58 YX5_isAtRest.1 ∈ lw_all := lw_in3 (k := 211) rfl rfl
theorem lL_96 : Cond.methodLink RL 96 YX11_lot.1 ∈ lw_all := lw_in3 (k := 215) rfl rfl
theorem lX11_227 : Cond.methodLink RX11 227 YJ9_min_7cf53.1 ∈ lw_all := lw_in3 (k := 219) rfl rfl
theorem lX11_233 : Cond.methodLink RX11 233 YX3_gather.1 ∈ lw_all := lw_in3 (k := 220) rfl rfl
theorem lX3_31 : Cond.methodLink RX3 31 YJ9_min_7cf53.1 ∈ lw_all := lw_in3 (k := 224) rfl rfl
theorem lX11_237 : Cond.methodLink RX11 237 YX3_lay.1 ∈ lw_all := lw_in3 (k := 225) rfl rfl
theorem lX3_46 : Cond.methodLink RX3 46 YJ7_fill_53178.1 ∈ lw_all := lw_in3 (k := 229) rfl rfl
theorem lX11_241 : Cond.methodLink RX11 241 YX3_rowsFor.1 ∈ lw_all := lw_in3 (k := 230) rfl rfl
theorem lX3_52 : Cond.methodLink RX3 52 YX3_rowsFrom.1 ∈ lw_all := lw_in3 (k := 234) rfl rfl
theorem lX3_56 : Cond.methodLink RX3 56 YX3_kindTaken.1 ∈ lw_all := lw_in3 (k := 238) rfl rfl
theorem gX11_244 : Cond.fieldLink RX11 244 "ThreeOffers" "FACTORIALS" "[I" ∈ lw_all := lw_in4 (k := 4) rfl rfl
theorem lX11_247 : Cond.methodLink RX11 247 YX11_lowest.1 ∈ lw_all := lw_in4 (k := 5) rfl rfl
theorem lX11_283 : Cond.methodLink RX11 283 YX11_commonDivisor.1 ∈ lw_all := lw_in4 (k := 8) rfl rfl
theorem lL_101 : Cond.methodLink RL 101 YX11_holder.1 ∈ lw_all := lw_in4 (k := 11) rfl rfl
theorem lX11_252 : Cond.methodLink RX11 252 YX2_add.1 ∈ lw_all := lw_in4 (k := 15) rfl rfl
theorem lL_105 : Cond.methodLink RL 105 YX11_swaps.1 ∈ lw_all := lw_in4 (k := 19) rfl rfl
theorem lX11_254 : Cond.methodLink RX11 254 YX8_settle.1 ∈ lw_all := lw_in4 (k := 23) rfl rfl
theorem lX8_28 : Cond.methodLink RX8 28 YX8_closeRing.1 ∈ lw_all := lw_in4 (k := 27) rfl rfl
theorem lX8_32 : Cond.methodLink RX8 32 YJ6_numberOfTrailingZeros_0f7a4.1 ∈ lw_all := lw_in4 (k := 31) rfl rfl
theorem nJ6_264 : Cond.constant RJ6 264 (Int32.ofInt (65536)) ∈ lw_all := lw_in4 (k := 34) rfl rfl
theorem lX8_37 : Cond.methodLink RX8 37 YX8_pointedTo.1 ∈ lw_all := lw_in4 (k := 35) rfl rfl
theorem lX8_44 : Cond.methodLink RX8 44 YX2_likesMore.1 ∈ lw_all := lw_in4 (k := 39) rfl rfl
theorem lL_109 : Cond.methodLink RL 109 YX11_rings.1 ∈ lw_all := lw_in4 (k := 43) rfl rfl
theorem lL_113 : Cond.methodLink RL 113 YX11_chain.1 ∈ lw_all := lw_in4 (k := 47) rfl rfl
theorem lX11_263 : Cond.methodLink RX11 263 YX0_find.1 ∈ lw_all := lw_in4 (k := 51) rfl rfl
theorem lX0_26 : Cond.methodLink RX0 26 YX0_goOn.1 ∈ lw_all := lw_in4 (k := 55) rfl rfl
theorem lX0_30 : Cond.methodLink RX0 30 arraycopyName ∈ lw_all := lw_in4 (k := 59) rfl rfl
theorem lX0_44 : Cond.methodLink RX0 44 YX2_likesMore.1 ∈ lw_all := lw_in4 (k := 62) rfl rfl
theorem lL_117 : Cond.methodLink RL 117 YX11_mean.1 ∈ lw_all := lw_in4 (k := 63) rfl rfl
theorem nX11_269 : Cond.constantLong RX11 269 (Int64.ofInt (-3)) ∈ lw_all := lw_in4 (k := 67) rfl rfl
theorem lX11_271 : Cond.methodLink RX11 271 YX11_power.1 ∈ lw_all := lw_in4 (k := 68) rfl rfl
theorem lL_122 : Cond.methodLink RL 122 YX11_count.1 ∈ lw_all := lw_in4 (k := 71) rfl rfl
theorem lL_12 : Cond.methodLink RL 12 YX12_init.1 ∈ lw_all := lw_in4 (k := 77) rfl rfl
theorem lX12_1 : Cond.methodLink RX12 1 objectInit ∈ lw_all := lw_in4 (k := 80) rfl rfl
theorem lX12_71 : Cond.methodLink RX12 71 YX12_firstRules.1 ∈ lw_all := lw_in4 (k := 81) rfl rfl
theorem fX12_7 : ab_FL RX12 7 12 0 true := ⟨_, _, _, kc12, by decide, rfl, lw_in4 (k := 84) rfl rfl⟩
theorem fX12_13 : ab_FL RX12 13 12 1 true := ⟨_, _, _, kc12, by decide, rfl, lw_in4 (k := 85) rfl rfl⟩
theorem fX12_83 : ab_FL RX12 83 12 2 false := ⟨_, _, _, kc12, by decide, rfl, lw_in4 (k := 86) rfl rfl⟩
theorem fX12_16 : ab_FL RX12 16 12 3 true := ⟨_, _, _, kc12, by decide, rfl, lw_in4 (k := 87) rfl rfl⟩
theorem fX12_87 : ab_FL RX12 87 12 4 false := ⟨_, _, _, kc12, by decide, rfl, lw_in4 (k := 88) rfl rfl⟩
theorem fX12_19 : ab_FL RX12 19 12 5 true := ⟨_, _, _, kc12, by decide, rfl, lw_in4 (k := 89) rfl rfl⟩
theorem fX12_22 : ab_FL RX12 22 12 6 true := ⟨_, _, _, kc12, by decide, rfl, lw_in4 (k := 90) rfl rfl⟩
theorem fX12_25 : ab_FL RX12 25 12 7 true := ⟨_, _, _, kc12, by decide, rfl, lw_in4 (k := 91) rfl rfl⟩
theorem fX12_28 : ab_FL RX12 28 12 8 true := ⟨_, _, _, kc12, by decide, rfl, lw_in4 (k := 92) rfl rfl⟩
theorem fX12_31 : ab_FL RX12 31 12 9 true := ⟨_, _, _, kc12, by decide, rfl, lw_in4 (k := 93) rfl rfl⟩
theorem fX12_110 : ab_FL RX12 110 12 10 false := ⟨_, _, _, kc12, by decide, rfl, lw_in4 (k := 94) rfl rfl⟩
theorem fX12_35 : ab_FL RX12 35 12 11 true := ⟨_, _, _, kc12, by decide, rfl, lw_in4 (k := 95) rfl rfl⟩
theorem fX12_115 : ab_FL RX12 115 12 12 false := ⟨_, _, _, kc12, by decide, rfl, lw_in4 (k := 96) rfl rfl⟩
theorem fX12_118 : ab_FL RX12 118 12 13 false := ⟨_, _, _, kc12, by decide, rfl, lw_in4 (k := 97) rfl rfl⟩
theorem fX12_129 : ab_FL RX12 129 12 14 false := ⟨_, _, _, kc12, by decide, rfl, lw_in4 (k := 98) rfl rfl⟩
theorem fX12_121 : ab_FL RX12 121 12 15 false := ⟨_, _, _, kc12, by decide, rfl, lw_in4 (k := 99) rfl rfl⟩
theorem fX12_124 : ab_FL RX12 124 12 16 false := ⟨_, _, _, kc12, by decide, rfl, lw_in4 (k := 100) rfl rfl⟩
theorem fX12_143 : ab_FL RX12 143 12 17 false := ⟨_, _, _, kc12, by decide, rfl, lw_in4 (k := 101) rfl rfl⟩
theorem fX12_191 : ab_FL RX12 191 12 18 false := ⟨_, _, _, kc12, by decide, rfl, lw_in4 (k := 102) rfl rfl⟩
theorem fX12_38 : ab_FL RX12 38 12 19 true := ⟨_, _, _, kc12, by decide, rfl, lw_in4 (k := 103) rfl rfl⟩
theorem fX12_41 : ab_FL RX12 41 12 20 true := ⟨_, _, _, kc12, by decide, rfl, lw_in4 (k := 104) rfl rfl⟩
theorem fX12_44 : ab_FL RX12 44 12 21 true := ⟨_, _, _, kc12, by decide, rfl, lw_in4 (k := 105) rfl rfl⟩
theorem fX12_47 : ab_FL RX12 47 12 22 true := ⟨_, _, _, kc12, by decide, rfl, lw_in4 (k := 106) rfl rfl⟩
theorem fX12_50 : ab_FL RX12 50 12 23 true := ⟨_, _, _, kc12, by decide, rfl, lw_in4 (k := 107) rfl rfl⟩
theorem fX12_53 : ab_FL RX12 53 12 24 true := ⟨_, _, _, kc12, by decide, rfl, lw_in4 (k := 108) rfl rfl⟩
theorem fX12_238 : ab_FL RX12 238 12 25 false := ⟨_, _, _, kc12, by decide, rfl, lw_in4 (k := 109) rfl rfl⟩
theorem fX12_56 : ab_FL RX12 56 12 26 true := ⟨_, _, _, kc12, by decide, rfl, lw_in4 (k := 110) rfl rfl⟩
theorem fX12_59 : ab_FL RX12 59 12 27 true := ⟨_, _, _, kc12, by decide, rfl, lw_in4 (k := 111) rfl rfl⟩
theorem fX12_62 : ab_FL RX12 62 12 28 true := ⟨_, _, _, kc12, by decide, rfl, lw_in4 (k := 112) rfl rfl⟩
theorem fX12_65 : ab_FL RX12 65 12 29 true := ⟨_, _, _, kc12, by decide, rfl, lw_in4 (k := 113) rfl rfl⟩
theorem fX12_241 : ab_FL RX12 241 12 30 false := ⟨_, _, _, kc12, by decide, rfl, lw_in4 (k := 114) rfl rfl⟩
theorem fX12_68 : ab_FL RX12 68 12 31 true := ⟨_, _, _, kc12, by decide, rfl, lw_in4 (k := 115) rfl rfl⟩
theorem lL_17 : Cond.methodLink RL 17 YX12_worth.1 ∈ lw_all := lw_in4 (k := 182) rfl rfl
theorem lX12_79 : Cond.methodLink RX12 79 YX12_isFour.1 ∈ lw_all := lw_in4 (k := 186) rfl rfl
theorem lX12_75 : Cond.methodLink RX12 75 YX12_in.1 ∈ lw_all := lw_in4 (k := 189) rfl rfl
theorem lL_22 : Cond.methodLink RL 22 YX12_need.1 ∈ lw_all := lw_in4 (k := 192) rfl rfl
theorem lL_27 : Cond.methodLink RL 27 YX12_coming.1 ∈ lw_all := lw_in4 (k := 196) rfl rfl
theorem lL_31 : Cond.methodLink RL 31 YX12_joining.1 ∈ lw_all := lw_in4 (k := 200) rfl rfl
theorem lL_35 : Cond.methodLink RL 35 YX12_join.1 ∈ lw_all := lw_in4 (k := 204) rfl rfl
theorem lX12_90 : Cond.methodLink RX12 90 YX12_add.1 ∈ lw_all := lw_in4 (k := 208) rfl rfl
theorem lL_39 : Cond.methodLink RL 39 YX12_run.1 ∈ lw_all := lw_in4 (k := 212) rfl rfl
theorem lX12_107 : Cond.methodLink RX12 107 YX12_goWeek.1 ∈ lw_all := lw_in4 (k := 216) rfl rfl
theorem lX12_104 : Cond.methodLink RX12 104 YX12_offer.1 ∈ lw_all := lw_in4 (k := 220) rfl rfl
theorem lX12_98 : Cond.methodLink RX12 98 YX12_findOrder.1 ∈ lw_all := lw_in4 (k := 224) rfl rfl
theorem lX12_94 : Cond.methodLink RX12 94 YX12_isAhead.1 ∈ lw_all := lw_in4 (k := 228) rfl rfl
theorem lX12_101 : Cond.methodLink RX12 101 YX12_doesTake.1 ∈ lw_all := lw_in4 (k := 232) rfl rfl
theorem lL_43 : Cond.methodLink RL 43 YX12_person.1 ∈ lw_all := lw_in4 (k := 236) rfl rfl
theorem lL_47 : Cond.methodLink RL 47 YX12_of.1 ∈ lw_all := lw_in5 (k := 0) rfl rfl
theorem lL_52 : Cond.methodLink RL 52 YX12_empty.1 ∈ lw_all := lw_in5 (k := 4) rfl rfl
theorem lL_59 : Cond.methodLink RL 59 YX12_write.1 ∈ lw_all := lw_in5 (k := 8) rfl rfl
theorem nX12_113 : Cond.constantLong RX12 113 (Int64.ofInt (255)) ∈ lw_all := lw_in5 (k := 12) rfl rfl
theorem lL_63 : Cond.methodLink RL 63 YX12_erase.1 ∈ lw_all := lw_in5 (k := 13) rfl rfl
theorem lL_67 : Cond.methodLink RL 67 YX12_fault.1 ∈ lw_all := lw_in5 (k := 17) rfl rfl
theorem lX12_197 : Cond.methodLink RX12 197 YX12_isRead.1 ∈ lw_all := lw_in5 (k := 21) rfl rfl
theorem lX12_194 : Cond.methodLink RX12 194 YX12_isLine.1 ∈ lw_all := lw_in5 (k := 25) rfl rfl
theorem lX12_146 : Cond.methodLink RX12 146 YX12_nextToken.1 ∈ lw_all := lw_in5 (k := 29) rfl rfl
theorem nX12_127 : Cond.constantLong RX12 127 (Int64.ofInt (-2)) ∈ lw_all := lw_in5 (k := 33) rfl rfl
theorem nX12_133 : Cond.constantLong RX12 133 (Int64.ofInt (27)) ∈ lw_all := lw_in5 (k := 34) rfl rfl
theorem nX12_135 : Cond.constantLong RX12 135 (Int64.ofInt (96)) ∈ lw_all := lw_in5 (k := 35) rfl rfl
theorem nX12_137 : Cond.constantLong RX12 137 (Int64.ofInt (-4)) ∈ lw_all := lw_in5 (k := 36) rfl rfl
theorem nX12_139 : Cond.constantLong RX12 139 (Int64.ofInt (-1)) ∈ lw_all := lw_in5 (k := 37) rfl rfl
theorem nX12_141 : Cond.constantLong RX12 141 (Int64.ofInt (-3)) ∈ lw_all := lw_in5 (k := 38) rfl rfl
theorem nX12_166 : Cond.constantLong RX12 166 (Int64.ofInt (8328978)) ∈ lw_all := lw_in5 (k := 39) rfl rfl
theorem nX12_168 : Cond.constantLong RX12 168 (Int64.ofInt (400577)) ∈ lw_all := lw_in5 (k := 40) rfl rfl
theorem nX12_170 : Cond.constantLong RX12 170 (Int64.ofInt (279346)) ∈ lw_all := lw_in5 (k := 41) rfl rfl
theorem nX12_172 : Cond.constantLong RX12 172 (Int64.ofInt (237742039)) ∈ lw_all := lw_in5 (k := 42) rfl rfl
theorem lX12_159 : Cond.methodLink RX12 159 YX12_isOf.1 ∈ lw_all := lw_in5 (k := 43) rfl rfl
theorem lX12_149 : Cond.methodLink RX12 149 YX12_fails.1 ∈ lw_all := lw_in5 (k := 47) rfl rfl
theorem nX12_174 : Cond.constantLong RX12 174 (Int64.ofInt (286651)) ∈ lw_all := lw_in5 (k := 51) rfl rfl
theorem lX12_163 : Cond.methodLink RX12 163 YX12_isNumber.1 ∈ lw_all := lw_in5 (k := 52) rfl rfl
theorem nX12_176 : Cond.constantLong RX12 176 (Int64.ofInt (399641)) ∈ lw_all := lw_in5 (k := 56) rfl rfl
theorem nX12_178 : Cond.constantLong RX12 178 (Int64.ofInt (4027)) ∈ lw_all := lw_in5 (k := 57) rfl rfl
theorem nX12_180 : Cond.constantLong RX12 180 (Int64.ofInt (40187)) ∈ lw_all := lw_in5 (k := 58) rfl rfl
theorem nX12_182 : Cond.constantLong RX12 182 (Int64.ofInt (388609)) ∈ lw_all := lw_in5 (k := 59) rfl rfl
theorem nX12_184 : Cond.constantLong RX12 184 (Int64.ofInt (151331)) ∈ lw_all := lw_in5 (k := 60) rfl rfl
theorem nX12_186 : Cond.constantLong RX12 186 (Int64.ofInt (16819)) ∈ lw_all := lw_in5 (k := 61) rfl rfl
theorem lX12_188 : Cond.methodLink RX12 188 YX12_isWay.1 ∈ lw_all := lw_in5 (k := 62) rfl rfl
theorem nX12_153 : Cond.constantLong RX12 153 (Int64.ofInt (1132)) ∈ lw_all := lw_in5 (k := 66) rfl rfl
theorem nX12_155 : Cond.constantLong RX12 155 (Int64.ofInt (1503)) ∈ lw_all := lw_in5 (k := 67) rfl rfl
theorem nX12_157 : Cond.constantLong RX12 157 (Int64.ofInt (119163)) ∈ lw_all := lw_in5 (k := 68) rfl rfl
theorem lL_71 : Cond.methodLink RL 71 YX12_rules.1 ∈ lw_all := lw_in5 (k := 69) rfl rfl
theorem lL_75 : Cond.methodLink RL 75 YX12_rule.1 ∈ lw_all := lw_in5 (k := 73) rfl rfl
theorem lL_79 : Cond.methodLink RL 79 YX12_way.1 ∈ lw_all := lw_in5 (k := 77) rfl rfl
theorem lL_83 : Cond.methodLink RL 83 YX12_would.1 ∈ lw_all := lw_in5 (k := 81) rfl rfl
theorem lX12_200 : Cond.methodLink RX12 200 YX12_goOn.1 ∈ lw_all := lw_in5 (k := 85) rfl rfl
theorem lX12_203 : Cond.methodLink RX12 203 YX12_more.1 ∈ lw_all := lw_in5 (k := 89) rfl rfl
theorem lX12_207 : Cond.methodLink RX12 207 YX12_layBack.1 ∈ lw_all := lw_in5 (k := 93) rfl rfl
theorem lL_87 : Cond.methodLink RL 87 YX12_gain.1 ∈ lw_all := lw_in5 (k := 97) rfl rfl
theorem nX12_210 : Cond.constant RX12 210 (Int32.ofInt (-2147483648)) ∈ lw_all := lw_in5 (k := 101) rfl rfl
theorem lX12_211 : Cond.methodLink RX12 211 YX12_gainOf.1 ∈ lw_all := lw_in5 (k := 102) rfl rfl
theorem lL_91 : Cond.methodLink RL 91 YX12_best.1 ∈ lw_all := lw_in5 (k := 106) rfl rfl
theorem lX12_214 : Cond.methodLink RX12 214 YX12_keepRules.1 ∈ lw_all := lw_in5 (k := 110) rfl rfl
theorem lX12_217 : Cond.methodLink RX12 217 YX12_layBackRules.1 ∈ lw_all := lw_in5 (k := 114) rfl rfl
theorem lL_95 : Cond.methodLink RL 95 YX12_rest.1 ∈ lw_all := lw_in5 (k := 118) rfl rfl
theorem lX12_220 : Cond.methodLink RX12 220 YX12_findGains.1 ∈ lw_all := lw_in5 (k := 122) rfl rfl
theorem lX12_223 : Cond.methodLink RX12 223 YX12_isAtRest.1 ∈ lw_all := lw_in5 (k := 126) rfl rfl
theorem lL_100 : Cond.methodLink RL 100 YX12_lot.1 ∈ lw_all := lw_in5 (k := 130) rfl rfl
theorem lX12_230 : Cond.methodLink RX12 230 YX12_lotOf.1 ∈ lw_all := lw_in5 (k := 134) rfl rfl
theorem lX12_234 : Cond.methodLink RX12 234 YX12_part.1 ∈ lw_all := lw_in5 (k := 138) rfl rfl
theorem lX12_226 : Cond.methodLink RX12 226 YX12_divisor.1 ∈ lw_all := lw_in5 (k := 142) rfl rfl
theorem lL_104 : Cond.methodLink RL 104 YX12_holder.1 ∈ lw_all := lw_in5 (k := 145) rfl rfl
theorem lL_108 : Cond.methodLink RL 108 YX12_swaps.1 ∈ lw_all := lw_in5 (k := 149) rfl rfl
theorem lX12_248 : Cond.methodLink RX12 248 YX12_swapAll.1 ∈ lw_all := lw_in5 (k := 153) rfl rfl
theorem lX12_244 : Cond.methodLink RX12 244 YX12_worthTo.1 ∈ lw_all := lw_in5 (k := 157) rfl rfl
theorem lL_112 : Cond.methodLink RL 112 YX12_rings.1 ∈ lw_all := lw_in5 (k := 161) rfl rfl
theorem lL_116 : Cond.methodLink RL 116 YX12_chain.1 ∈ lw_all := lw_in5 (k := 165) rfl rfl
theorem lX12_251 : Cond.methodLink RX12 251 YX12_wouldGo.1 ∈ lw_all := lw_in5 (k := 169) rfl rfl
theorem lL_121 : Cond.methodLink RL 121 YX12_mean.1 ∈ lw_all := lw_in5 (k := 173) rfl rfl
theorem lL_125 : Cond.methodLink RL 125 YX12_count.1 ∈ lw_all := lw_in5 (k := 177) rfl rfl
theorem nL_53 : Cond.constantLong RL 53 (Int64.ofInt (4294967295)) ∈ lw_all := lw_in5 (k := 181) rfl rfl
theorem gJ0_9 : Cond.fieldLink RJ0 9 "java/lang/String" "value" "[B" ∈ lw_all := lw_in5 (k := 182) rfl rfl
theorem gJ0_15 : Cond.fieldLink RJ0 15 "java/lang/String" "coder" "B" ∈ lw_all := lw_in5 (k := 183) rfl rfl
