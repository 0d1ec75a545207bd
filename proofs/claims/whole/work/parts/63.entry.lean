theorem lw_tb1 {w : Cond} {k : Nat} (h : tables_1_1[k]? = some w) : w ∈ lw_tbl := by rw [lw_t]; exact List.mem_append_right _ (List.mem_append_left _ (List.mem_of_getElem? h))
theorem lw_tb2 {w : Cond} {k : Nat} (h : tables_1_2[k]? = some w) : w ∈ lw_tbl := by rw [lw_t]; exact List.mem_append_right _ (List.mem_append_right _ (List.mem_append_left _ (List.mem_of_getElem? h)))
theorem lw_tb3 {w : Cond} {k : Nat} (h : tables_1_3[k]? = some w) : w ∈ lw_tbl := by rw [lw_t]; exact List.mem_append_right _ (List.mem_append_right _ (List.mem_append_right _ (List.mem_append_left _ (List.mem_of_getElem? h))))
theorem lw_tb4 {w : Cond} {k : Nat} (h : tables_1_4[k]? = some w) : w ∈ lw_tbl := by rw [lw_t]; exact List.mem_append_right _ (List.mem_append_right _ (List.mem_append_right _ (List.mem_append_right _ (List.mem_append_left _ (List.mem_of_getElem? h)))))
theorem lw_tb5 {w : Cond} {k : Nat} (h : tables_1_5[k]? = some w) : w ∈ lw_tbl := by rw [lw_t]; exact List.mem_append_right _ (List.mem_append_right _ (List.mem_append_right _ (List.mem_append_right _ (List.mem_append_right _ (List.mem_of_getElem? h)))))
theorem sr_0 : Cond.stringRef "ThreeOffers$Text" 46 "order" ∈ lw_tbl := (lw_tb3 (k := 43) rfl)
theorem sr_1 : Cond.stringRef "ThreeOffers$Text" 48 "time" ∈ lw_tbl := (lw_tb3 (k := 96) rfl)
theorem sr_2 : Cond.stringRef "ThreeOffers$Text" 50 "need" ∈ lw_tbl := (lw_tb3 (k := 97) rfl)
theorem sr_3 : Cond.stringRef "ThreeOffers$Text" 52 "points" ∈ lw_tbl := (lw_tb3 (k := 98) rfl)
theorem sr_4 : Cond.stringRef "ThreeOffers$Text" 60 "noes" ∈ lw_tbl := (lw_tb3 (k := 103) rfl)
theorem sr_5 : Cond.stringRef "ThreeOffers$Text" 68 "then" ∈ lw_tbl := (lw_tb3 (k := 108) rfl)
theorem sr_6 : Cond.stringRef "ThreeOffers$Text" 70 "end" ∈ lw_tbl := (lw_tb3 (k := 109) rfl)
theorem sr_7 : Cond.stringRef "ThreeOffers$Text" 71 "back" ∈ lw_tbl := (lw_tb3 (k := 110) rfl)
theorem sr_8 : Cond.stringRef "ThreeOffers$Text" 73 "stay" ∈ lw_tbl := (lw_tb3 (k := 111) rfl)
theorem sr_9 : Cond.stringRef "ThreeOffers$Text" 77 "grow" ∈ lw_tbl := (lw_tb3 (k := 112) rfl)
theorem sr_10 : Cond.stringRef "ThreeOffers$Text" 81 "way" ∈ lw_tbl := (lw_tb3 (k := 113) rfl)
theorem sr_11 : Cond.stringRef "ThreeOffers$Text" 86 "any" ∈ lw_tbl := (lw_tb3 (k := 118) rfl)
theorem sr_12 : Cond.stringRef "ThreeOffers$Text" 88 "bar" ∈ lw_tbl := (lw_tb3 (k := 119) rfl)
theorem sr_13 : Cond.stringRef "ThreeOffers$Text" 90 "fall" ∈ lw_tbl := (lw_tb3 (k := 120) rfl)
theorem sr_14 : Cond.stringRef "ThreeOffers$Text" 40 ";" ∈ lw_tbl := (lw_tb3 (k := 122) rfl)
theorem sr_all : ∀ i, i < 15 → Cond.stringRef "ThreeOffers$Text" (ab_six i) (ab_stx i) ∈ lw_tbl
  | 0, _ => sr_0
  | 1, _ => sr_1
  | 2, _ => sr_2
  | 3, _ => sr_3
  | 4, _ => sr_4
  | 5, _ => sr_5
  | 6, _ => sr_6
  | 7, _ => sr_7
  | 8, _ => sr_8
  | 9, _ => sr_9
  | 10, _ => sr_10
  | 11, _ => sr_11
  | 12, _ => sr_12
  | 13, _ => sr_13
  | 14, _ => sr_14
  | n + 15, h => absurd h (by omega)
abbrev wsF : List Cond := flatC (Jvm.Cond.and given_1 narrow_1)
set_option maxHeartbeats 4000000 in
set_option maxRecDepth 100000 in
theorem wm_ex : ∀ i : Fin 15, Cond.exactly (.string "ThreeOffers$Text" (ab_six i.val)) "java/lang/String" ∈ wsF := by decide +kernel
set_option maxHeartbeats 4000000 in
set_option maxRecDepth 100000 in
theorem wm_co : ∀ i : Fin 15, Cond.eq (.field (.string "ThreeOffers$Text" (ab_six i.val)) "java/lang/String" "coder" "B") (.int 0) ∈ wsF := by decide +kernel
set_option maxHeartbeats 4000000 in
set_option maxRecDepth 100000 in
theorem wm_ar : ∀ i : Fin 15, Cond.arrayOf (.field (.string "ThreeOffers$Text" (ab_six i.val)) "java/lang/String" "value" "[B") .byte ∈ wsF := by decide +kernel
set_option maxHeartbeats 4000000 in
set_option maxRecDepth 100000 in
theorem wm_le : ∀ i : Fin 15, Cond.eq (.length (.field (.string "ThreeOffers$Text" (ab_six i.val)) "java/lang/String" "value" "[B")) (.int (Int32.ofNat (ab_len.getD i.val 0))) ∈ wsF := by decide +kernel
set_option maxHeartbeats 4000000 in
set_option maxRecDepth 100000 in
theorem wm_el : ∀ (i : Fin 15) (j : Fin 6), j.val < ab_len.getD i.val 0 → Cond.eq (.elem (.field (.string "ThreeOffers$Text" (ab_six i.val)) "java/lang/String" "value" "[B") (.int (Int32.ofNat j.val))) (.int ((ab_byt.getD i.val []).getD j.val 0)) ∈ wsF := by decide +kernel
set_option maxHeartbeats 4000000 in
set_option maxRecDepth 100000 in
theorem wn_1 : ∀ i : Fin 1, wsF[43 + i.val]? = some (Cond.not (Cond.eq (.string "ThreeOffers$Text" (ab_six i.val)) (.string "ThreeOffers$Text" (ab_six 1)))) := by decide +kernel
set_option maxHeartbeats 4000000 in
set_option maxRecDepth 100000 in
theorem wn_2 : ∀ i : Fin 2, wsF[52 + i.val]? = some (Cond.not (Cond.eq (.string "ThreeOffers$Text" (ab_six i.val)) (.string "ThreeOffers$Text" (ab_six 2)))) := by decide +kernel
set_option maxHeartbeats 4000000 in
set_option maxRecDepth 100000 in
theorem wn_3 : ∀ i : Fin 3, wsF[64 + i.val]? = some (Cond.not (Cond.eq (.string "ThreeOffers$Text" (ab_six i.val)) (.string "ThreeOffers$Text" (ab_six 3)))) := by decide +kernel
set_option maxHeartbeats 4000000 in
set_option maxRecDepth 100000 in
theorem wn_4 : ∀ i : Fin 4, wsF[75 + i.val]? = some (Cond.not (Cond.eq (.string "ThreeOffers$Text" (ab_six i.val)) (.string "ThreeOffers$Text" (ab_six 4)))) := by decide +kernel
set_option maxHeartbeats 4000000 in
set_option maxRecDepth 100000 in
theorem wn_5 : ∀ i : Fin 5, wsF[87 + i.val]? = some (Cond.not (Cond.eq (.string "ThreeOffers$Text" (ab_six i.val)) (.string "ThreeOffers$Text" (ab_six 5)))) := by decide +kernel
set_option maxHeartbeats 4000000 in
set_option maxRecDepth 100000 in
theorem wn_6 : ∀ i : Fin 6, wsF[99 + i.val]? = some (Cond.not (Cond.eq (.string "ThreeOffers$Text" (ab_six i.val)) (.string "ThreeOffers$Text" (ab_six 6)))) := by decide +kernel
set_option maxHeartbeats 4000000 in
set_option maxRecDepth 100000 in
theorem wn_7 : ∀ i : Fin 7, wsF[113 + i.val]? = some (Cond.not (Cond.eq (.string "ThreeOffers$Text" (ab_six i.val)) (.string "ThreeOffers$Text" (ab_six 7)))) := by decide +kernel
set_option maxHeartbeats 4000000 in
set_option maxRecDepth 100000 in
theorem wn_8 : ∀ i : Fin 8, wsF[128 + i.val]? = some (Cond.not (Cond.eq (.string "ThreeOffers$Text" (ab_six i.val)) (.string "ThreeOffers$Text" (ab_six 8)))) := by decide +kernel
set_option maxHeartbeats 4000000 in
set_option maxRecDepth 100000 in
theorem wn_9 : ∀ i : Fin 9, wsF[144 + i.val]? = some (Cond.not (Cond.eq (.string "ThreeOffers$Text" (ab_six i.val)) (.string "ThreeOffers$Text" (ab_six 9)))) := by decide +kernel
set_option maxHeartbeats 4000000 in
set_option maxRecDepth 100000 in
theorem wn_10 : ∀ i : Fin 10, wsF[160 + i.val]? = some (Cond.not (Cond.eq (.string "ThreeOffers$Text" (ab_six i.val)) (.string "ThreeOffers$Text" (ab_six 10)))) := by decide +kernel
set_option maxHeartbeats 4000000 in
set_option maxRecDepth 100000 in
theorem wn_11 : ∀ i : Fin 11, wsF[177 + i.val]? = some (Cond.not (Cond.eq (.string "ThreeOffers$Text" (ab_six i.val)) (.string "ThreeOffers$Text" (ab_six 11)))) := by decide +kernel
set_option maxHeartbeats 4000000 in
set_option maxRecDepth 100000 in
theorem wn_12 : ∀ i : Fin 12, wsF[195 + i.val]? = some (Cond.not (Cond.eq (.string "ThreeOffers$Text" (ab_six i.val)) (.string "ThreeOffers$Text" (ab_six 12)))) := by decide +kernel
set_option maxHeartbeats 4000000 in
set_option maxRecDepth 100000 in
theorem wn_13 : ∀ i : Fin 13, wsF[215 + i.val]? = some (Cond.not (Cond.eq (.string "ThreeOffers$Text" (ab_six i.val)) (.string "ThreeOffers$Text" (ab_six 13)))) := by decide +kernel
set_option maxHeartbeats 4000000 in
set_option maxRecDepth 100000 in
theorem wn_14 : ∀ i : Fin 14, wsF[233 + i.val]? = some (Cond.not (Cond.eq (.string "ThreeOffers$Text" (ab_six i.val)) (.string "ThreeOffers$Text" (ab_six 14)))) := by decide +kernel
theorem wn_all : ∀ (j : Nat), j < 15 → ∀ i : Nat, i < j → Cond.not (Cond.eq (.string "ThreeOffers$Text" (ab_six i)) (.string "ThreeOffers$Text" (ab_six j))) ∈ wsF
  | 0, _, i, hi => absurd hi (by omega)
  | 1, _, i, hi => List.mem_of_getElem? (wn_1 ⟨i, hi⟩)
  | 2, _, i, hi => List.mem_of_getElem? (wn_2 ⟨i, hi⟩)
  | 3, _, i, hi => List.mem_of_getElem? (wn_3 ⟨i, hi⟩)
  | 4, _, i, hi => List.mem_of_getElem? (wn_4 ⟨i, hi⟩)
  | 5, _, i, hi => List.mem_of_getElem? (wn_5 ⟨i, hi⟩)
  | 6, _, i, hi => List.mem_of_getElem? (wn_6 ⟨i, hi⟩)
  | 7, _, i, hi => List.mem_of_getElem? (wn_7 ⟨i, hi⟩)
  | 8, _, i, hi => List.mem_of_getElem? (wn_8 ⟨i, hi⟩)
  | 9, _, i, hi => List.mem_of_getElem? (wn_9 ⟨i, hi⟩)
  | 10, _, i, hi => List.mem_of_getElem? (wn_10 ⟨i, hi⟩)
  | 11, _, i, hi => List.mem_of_getElem? (wn_11 ⟨i, hi⟩)
  | 12, _, i, hi => List.mem_of_getElem? (wn_12 ⟨i, hi⟩)
  | 13, _, i, hi => List.mem_of_getElem? (wn_13 ⟨i, hi⟩)
  | 14, _, i, hi => List.mem_of_getElem? (wn_14 ⟨i, hi⟩)
  | n + 15, h, _, _ => absurd h (by omega)
theorem wm_l6 : ∀ i : Fin 15, ab_len.getD i.val 0 ≤ 6 := by decide
set_option maxHeartbeats 4000000 in
set_option maxRecDepth 100000 in
theorem wm_fa : Cond.arrayOf (.static "ThreeOffers" "FIGURES" "[I") .int ∈ wsF := by decide +kernel
set_option maxHeartbeats 4000000 in
set_option maxRecDepth 100000 in
theorem wm_fl : Cond.eq (.length (.static "ThreeOffers" "FIGURES" "[I")) (.int (Int32.ofNat 4)) ∈ wsF := by decide +kernel
set_option maxHeartbeats 4000000 in
set_option maxRecDepth 100000 in
theorem wm_fe : ∀ j : Fin 4, Cond.eq (.elem (.static "ThreeOffers" "FIGURES" "[I") (.int (Int32.ofNat j.val))) (.int (Int32.ofInt (ab_fig j.val))) ∈ wsF := by decide +kernel
set_option maxHeartbeats 4000000 in
set_option maxRecDepth 100000 in
theorem wm_ca : Cond.arrayOf (.static "ThreeOffers" "FACTORIALS" "[I") .int ∈ wsF := by decide +kernel
set_option maxHeartbeats 4000000 in
set_option maxRecDepth 100000 in
theorem wm_cl : Cond.eq (.length (.static "ThreeOffers" "FACTORIALS" "[I")) (.int (Int32.ofNat 7)) ∈ wsF := by decide +kernel
set_option maxHeartbeats 4000000 in
set_option maxRecDepth 100000 in
theorem wm_ce : ∀ j : Fin 7, Cond.eq (.elem (.static "ThreeOffers" "FACTORIALS" "[I") (.int (Int32.ofNat j.val))) (.int (Int32.ofInt (ab_fac j.val))) ∈ wsF := by decide +kernel
set_option maxHeartbeats 4000000 in
set_option maxRecDepth 100000 in
theorem wm_cs : Cond.eq (.static "java/lang/String" "COMPACT_STRINGS" "Z") (.int 1) ∈ wsF := by decide +kernel
set_option maxHeartbeats 4000000 in
set_option maxRecDepth 100000 in
theorem wm_si : Cond.isRef (.static "jdk/internal/util/Preconditions" "SIOOBE_FORMATTER" "Ljava/util/function/BiFunction;") ∈ wsF := by decide +kernel
theorem ws_k {args : Array Value} {s : State} (hall : ∀ w ∈ lw_all, w.before args s = true) : ∀ c : Nat, ∃ p : ClassId × (Nat → Nat), ∀ q : vw_C, vwCl[c]? = some q → u_Kn s q.1 q.2.1 q.2.2 p.1 p.2
  | 0 => by
    obtain ⟨a, b, h⟩ := u_known hall kc0.2.2.2.2.2 (hall _ inX0)
    exact ⟨(a, b), fun q hq => by rw [← Option.some.inj (show some (RX0, TX0, 4) = some q from hq)]; exact h⟩
  | 1 => by
    obtain ⟨a, b, h⟩ := u_known hall kc1.2.2.2.2.2 (hall _ inX1)
    exact ⟨(a, b), fun q hq => by rw [← Option.some.inj (show some (RX1, TX1, 7) = some q from hq)]; exact h⟩
  | 2 => by
    obtain ⟨a, b, h⟩ := u_known hall kc2.2.2.2.2.2 (hall _ inX2)
    exact ⟨(a, b), fun q hq => by rw [← Option.some.inj (show some (RX2, TX2, 4) = some q from hq)]; exact h⟩
  | 3 => by
    obtain ⟨a, b, h⟩ := u_known hall kc3.2.2.2.2.2 (hall _ inX3)
    exact ⟨(a, b), fun q hq => by rw [← Option.some.inj (show some (RX3, TX3, 4) = some q from hq)]; exact h⟩
  | 4 => by
    obtain ⟨a, b, h⟩ := u_known hall kc4.2.2.2.2.2 (hall _ inX4)
    exact ⟨(a, b), fun q hq => by rw [← Option.some.inj (show some (RX4, TX4, 5) = some q from hq)]; exact h⟩
  | 5 => by
    obtain ⟨a, b, h⟩ := u_known hall kc5.2.2.2.2.2 (hall _ inX5)
    exact ⟨(a, b), fun q hq => by rw [← Option.some.inj (show some (RX5, TX5, 6) = some q from hq)]; exact h⟩
  | 6 => by
    obtain ⟨a, b, h⟩ := u_known hall kc6.2.2.2.2.2 (hall _ inX6)
    exact ⟨(a, b), fun q hq => by rw [← Option.some.inj (show some (RX6, TX6, 2) = some q from hq)]; exact h⟩
  | 7 => by
    obtain ⟨a, b, h⟩ := u_known hall kc7.2.2.2.2.2 (hall _ inX7)
    exact ⟨(a, b), fun q hq => by rw [← Option.some.inj (show some (RX7, TX7, 7) = some q from hq)]; exact h⟩
  | 8 => by
    obtain ⟨a, b, h⟩ := u_known hall kc8.2.2.2.2.2 (hall _ inX8)
    exact ⟨(a, b), fun q hq => by rw [← Option.some.inj (show some (RX8, TX8, 3) = some q from hq)]; exact h⟩
  | 9 => by
    obtain ⟨a, b, h⟩ := u_known hall kc9.2.2.2.2.2 (hall _ inX9)
    exact ⟨(a, b), fun q hq => by rw [← Option.some.inj (show some (RX9, TX9, 6) = some q from hq)]; exact h⟩
  | 10 => by
    obtain ⟨a, b, h⟩ := u_known hall kc10.2.2.2.2.2 (hall _ inX10)
    exact ⟨(a, b), fun q hq => by rw [← Option.some.inj (show some (RX10, TX10, 4) = some q from hq)]; exact h⟩
  | 11 => by
    obtain ⟨a, b, h⟩ := u_known hall kc11.2.2.2.2.2 (hall _ inX11)
    exact ⟨(a, b), fun q hq => by rw [← Option.some.inj (show some (RX11, TX11, 11) = some q from hq)]; exact h⟩
  | 12 => by
    obtain ⟨a, b, h⟩ := u_known hall kc12.2.2.2.2.2 (hall _ inX12)
    exact ⟨(a, b), fun q hq => by rw [← Option.some.inj (show some (RX12, TX12, 32) = some q from hq)]; exact h⟩
  | n + 13 => by
    obtain ⟨a, b, h⟩ := u_known hall kc0.2.2.2.2.2 (hall _ inX0)
    exact ⟨(a, b), fun q hq => by simp at hq⟩
theorem ws_arr {s : State} {cA comp : ClassId} {k : Class} {ty : FieldType} (hk : s.vm.classes[cA]? = some k) (hkind : k.kind = .array comp ty) : ArrOfT s cA ty := fun n z => ⟨fun q h => by simp [arrV] at h, k, hk, comp, hkind⟩
def ws_ax (f g b t q : Nat) (adK adV : Nat → Nat) (i : Nat) : Nat := if i < 1100 then (if i = 1000 then f else if i = 1001 then g else if i = 1002 then b else if i = 1003 then t else q) else if i < 1200 then adK (i - 1100) else adV (i - 1200)
theorem ws_axK (f g b t q : Nat) (adK adV : Nat → Nat) {i : Nat} (hi : i < 15) : ws_ax f g b t q adK adV (1100 + i) = adK i := by
  unfold ws_ax
  rw [if_neg (by omega), if_pos (by omega), Nat.add_sub_cancel_left]
theorem ws_axV (f g b t q : Nat) (adK adV : Nat → Nat) {i : Nat} (hi : i < 15) : ws_ax f g b t q adK adV (1200 + i) = adV i := by
  unfold ws_ax
  rw [if_neg (by omega), if_neg (by omega), Nat.add_sub_cancel_left]
def ws_cT (a b c d e : ClassId) (k : Nat) : ClassId := if k = 20 then a else if k = 21 then b else if k = 22 then c else if k = 23 then d else e
theorem ws_S {len : List Nat} {byt : List (List Int32)} {adK adV aK aV : Nat → Nat} {A : Nat → Prop} {U : State} {H : Heap} (h : vk_S 15 len byt adK adV A U H) (e1 : ∀ i, i < 15 → aK i = adK i) (e2 : ∀ i, i < 15 → aV i = adV i) : vk_S 15 len byt aK aV A U H := by
  refine ⟨fun i hi => ?_, fun i j hi hj he => h.2 i j hi hj (by rw [← e1 i hi, ← e1 j hj]; exact he)⟩
  rw [e1 i hi, e2 i hi]; exact h.1 i hi
set_option maxHeartbeats 4000000 in
set_option maxRecDepth 100000 in
theorem ws_gl {s : State} (l : Launch) {b L : Nat} {xs : Nat → Int32} (hts : ∀ w ∈ lw_tbl, w.before #[Value.ref b] s = true) (hX : va_X b L xs s s.heap) (hb : b < s.heap.size) (hgv : (Jvm.Cond.and given_1 narrow_1).before #[Value.ref b] s = true) : ∃ G : ab_G, G.1 = l ∧ ab_B G + 1 = s.heap.size ∧ ab_ax G 1002 = b ∧ ab_L G = L ∧ ab_Gl G s := by
  have hall : ∀ w ∈ lw_all, w.before #[Value.ref b] s = true := fun w hw => hts w (List.mem_filter.mp hw).1
  have hs : ∀ w ∈ wsF, w.before #[Value.ref b] s = true := flat_of_before _ hgv
  have hA : ∀ a : Nat, a < s.heap.size → ¬ (fun q : Nat => s.heap.size - 1 < q) a := fun a ha h => by
    have h1 : s.heap.size - 1 < a := h
    omega
  obtain ⟨pc9, hpc⟩ := Classical.axiomOfChoice (ws_k hall)
  obtain ⟨cI, kI, ccI, i1, i2, i3⟩ := Cond.arrayClass_spec (hall _ ac_int)
  obtain ⟨cC, kC, ccC, c1, c2, c3⟩ := Cond.arrayClass_spec (hall _ ac_char)
  obtain ⟨cZ, kZ, ccZ, z1, z2, z3⟩ := Cond.arrayClass_spec (hall _ ac_boolean)
  have haoA : (Cond.arrayOver (.array .int)).before #[Value.ref b] s = true := hts _ (lw_tb1 (k := 37) rfl)
  obtain ⟨comp, cA, kA, a1, a2, a3, a4, a5⟩ := arrayOverA_spec haoA
  have haoP : (Cond.arrayOver (.object "ThreeOffers$Person")).before #[Value.ref b] s = true := hts _ (lw_tb1 (k := 166) rfl)
  obtain ⟨comP, cP, kP, p1, p2, p3, p4, p5⟩ := Cond.arrayOver_spec haoP
  have hcomp : comp = cI := Option.some.inj (a1.symm.trans i1)
  obtain ⟨tF, f1, f2⟩ := va_Tof (f := fun j => .int (Int32.ofInt (ab_fig j))) (A := fun q : Nat => s.heap.size - 1 < q) (N := 4) (by decide) (hs _ wm_fa) (va_eqt (hs _ wm_fl)) (fun j hj => va_eqt (hs _ (wm_fe ⟨j, hj⟩))) hA
  have f3 := va_Zref (A := fun q : Nat => s.heap.size - 1 < q) (hts _ (lw_tb3 (k := 202) rfl)) (hall _ iiX11) f1 hA
  obtain ⟨tC, g1, g2⟩ := va_Tof (f := fun j => .int (Int32.ofInt (ab_fac j))) (A := fun q : Nat => s.heap.size - 1 < q) (N := 7) (by decide) (hs _ wm_ca) (va_eqt (hs _ wm_cl)) (fun j hj => va_eqt (hs _ (wm_ce ⟨j, hj⟩))) hA
  have g3 := va_Zref (A := fun q : Nat => s.heap.size - 1 < q) (hts _ (lw_tb4 (k := 3) rfl)) (hall _ iiX11) g1 hA
  have k1 := va_Zof (A := fun q : Nat => s.heap.size - 1 < q) (hts _ (lw_tb3 (k := 57) rfl)) (hts _ (lw_tb1 (k := 16) rfl)) (va_eqi (hs _ wm_cs)) hA
  have q1 := va_Zqof (A := fun q : Nat => s.heap.size - 1 < q) (hts _ (lw_tb3 (k := 73) rfl)) (hts _ (lw_tb1 (k := 18) rfl)) (hs _ wm_si) hA
  obtain ⟨adK, adV, s1, s2⟩ := vk_Sof (args := #[Value.ref b]) (s := s) (N := 15) (tm := fun i => .string "ThreeOffers$Text" (ab_six i)) (len := ab_len) (byt := ab_byt) (A := fun q : Nat => s.heap.size - 1 < q) (fun i hi => Nat.lt_of_le_of_lt (wm_l6 ⟨i, hi⟩) (by decide)) (fun i hi => hs _ (wm_ex ⟨i, hi⟩)) (fun i hi => hs _ (wm_co ⟨i, hi⟩)) (fun i hi => hs _ (wm_ar ⟨i, hi⟩)) (fun i hi => hs _ (wm_le ⟨i, hi⟩)) (fun i hi j hj => hs _ (wm_el ⟨i, hi⟩ ⟨j, Nat.lt_of_lt_of_le hj (wm_l6 ⟨i, hi⟩)⟩ hj)) (fun i j hi hj hij => (Nat.lt_or_ge i j).elim (fun h => Or.inl (hs _ (wn_all j hj i h))) (fun h => Or.inr (hs _ (wn_all i hi j (by omega))))) hA
  obtain ⟨t9, q9, hq9⟩ : ∃ t q : Nat, va_Z "jdk/internal/util/Preconditions" "SIOOBE_FORMATTER" "Ljava/util/function/BiFunction;" (if q = 0 then .null else .ref t) (fun q : Nat => s.heap.size - 1 < q) s s.heap := by
    rcases q1 with h | ⟨t, h⟩
    · exact ⟨0, 0, h⟩
    · exact ⟨t, 1, h⟩
  have eI : ("[" ++ FieldType.int.toString) = "[I" := by first | rfl | decide
  have eA : ("[" ++ (FieldType.array .int).toString) = "[[I" := by first | rfl | decide
  refine ⟨(l, fun c => (pc9 c).1, fun c => (pc9 c).2, ws_cT cI cC cZ cA cP, s.heap.size - 1, ws_ax tF tC b t9 q9 adK adV, L, xs), rfl, by show s.heap.size - 1 + 1 = _; omega, rfl, rfl, ⟨hpc, ?_⟩, ⟨f3, f2, g3, g2, ws_S s1 (fun i hi => ws_axK _ _ _ _ _ _ _ hi) (fun i hi => ws_axV _ _ _ _ _ _ _ hi), ⟨k1, ?_, haoP, kA, kI, ccI, ?_, a3, ?_, ?_, i2, i3⟩, hX, by show b ≤ s.heap.size - 1; omega⟩, fun i hi => ?_, by show s.heap.size - 1 < _; omega, ?_⟩
  · intro k q hk
    match k, hk with
    | 0, hk => rw [← Option.some.inj (show some (cI, FieldType.int) = some q from hk)]; exact ⟨ws_arr i2 i3, i1⟩
    | 1, hk => rw [← Option.some.inj (show some (cC, FieldType.char) = some q from hk)]; exact ⟨ws_arr c2 c3, c1⟩
    | 2, hk => rw [← Option.some.inj (show some (cZ, FieldType.boolean) = some q from hk)]; exact ⟨ws_arr z2 z3, z1⟩
    | 3, hk => rw [← Option.some.inj (show some (cA, FieldType.array .int) = some q from hk)]; exact ⟨ws_arr a3 a4, a5⟩
    | 4, hk => rw [← Option.some.inj (show some (cP, FieldType.object "ThreeOffers$Person") = some q from hk)]; exact ⟨ws_arr p3 p4, kP, comP, p3, p4, p1, p5⟩
    | n + 5, hk => simp [ab_tys] at hk
  · by_cases e : q9 = 0
    · rw [if_pos e] at hq9
      have e2 : ab_rv (l, fun c => (pc9 c).1, fun c => (pc9 c).2, ws_cT cI cC cZ cA cP, s.heap.size - 1, ws_ax tF tC b t9 q9 adK adV, L, xs) (ab_fr (l, fun c => (pc9 c).1, fun c => (pc9 c).2, ws_cT cI cC cZ cA cP, s.heap.size - 1, ws_ax tF tC b t9 q9 adK adV, L, xs)) = .null := by
        unfold ab_fr
        rw [if_pos (show ws_ax tF tC b t9 q9 adK adV 1004 = 0 from e)]; rfl
      rw [e2]; exact hq9
    · rw [if_neg e] at hq9
      have e2 : ab_rv (l, fun c => (pc9 c).1, fun c => (pc9 c).2, ws_cT cI cC cZ cA cP, s.heap.size - 1, ws_ax tF tC b t9 q9 adK adV, L, xs) (ab_fr (l, fun c => (pc9 c).1, fun c => (pc9 c).2, ws_cT cI cC cZ cA cP, s.heap.size - 1, ws_ax tF tC b t9 q9 adK adV, L, xs)) = .ref t9 := by
        unfold ab_fr
        rw [if_neg (show ¬ ws_ax tF tC b t9 q9 adK adV 1004 = 0 from e)]; rfl
      rw [e2]; exact hq9
  · show s.vm.findClass "[[I" = some cA
    rw [← eA]; exact a5
  · show kA.kind = .array cI (.array .int)
    rw [← hcomp]; exact a4
  · show s.vm.findClass "[I" = some cI
    rw [← eI]; exact i1
  · show vk_R "ThreeOffers$Text" (ab_six i) (ab_stx i) (ws_ax tF tC b t9 q9 adK adV (1100 + i)) s
    rw [ws_axK _ _ _ _ _ _ _ hi]
    exact vk_R.of (hts _ (sr_all i hi)) (s2 i hi)
  · exact lw_nest_cases (P := fun w => va_Nw w s) (va_Nw.of rfl (hts _ (lw_tb3 (k := 201) rfl))) (va_Nw.of rfl (hts _ (lw_tb4 (k := 2) rfl))) (va_Nw.of rfl (hts _ (lw_tb1 (k := 40) rfl))) (va_Nw.of rfl (hts _ (lw_tb1 (k := 133) rfl))) (va_Nw.of rfl (hts _ (lw_tb1 (k := 169) rfl)))
/-- YOUR PART: from the entry, for every script of at most 3072 ints, the law comes to its end with true -/
theorem whole_start {p : Program} {e : Env} {s : State} {m : MethodId} {below : List Frame} {meth : Method} {c : Code} (l : Launch) {b L : Nat} {xs : Nat → Int32} (hL : L ≤ 3072) (C0 : lw_At p s m meth c b L xs) : W p l e room_1 s m #[Value.ref b] below meth c s.heap [] 0 0 (lw_Z below #[Value.ref b] s) (entryFrame m ([Value.ref b] : List Value).toArray 4) := by
  obtain ⟨c1, c2, c3, c4, c5, hts, hX, hb, c9, hgv, hnm⟩ := C0
  obtain ⟨G, rfl, hB, hbx, hLx, hG⟩ := ws_gl l hts hX hb hgv
  have hl := lv_entry ([ab_r 1002].map (ab_c G)) (n := 4) (by rw [ab_en_len]; decide)
  rw [ab_en_args G [ab_r 1002] 0] at hl
  have e0 : [ab_r 1002].map (ab_c G) = [Value.ref b] := by
    show [ab_rv G 1002] = [Value.ref b]
    rw [← hbx]; rfl
  rw [e0] at hl
  rw [lg_entry_eq]
  have key := law_start G b (by rw [hLx]; exact hL) p e s m #[Value.ref b] below meth c ⟨c1, c2, c3, c4, c5, fun w hw => hts w (List.mem_filter.mp hw).1, c9, hnm, hG⟩ s.heap [] _ ⟨by decide, by show s.heap.size = ab_B G + 0 + 1; omega, fun i h1 h2 => absurd (Nat.le_trans h1 h2) (by decide)⟩ (fun _ _ => rfl) (fun _ h => by cases h) (ab_lo_pad G (ab_en [ab_r 1002]) 3 hl)
  intro T hT X
  obtain ⟨t, k1, k2⟩ := key T hT X
  exact ⟨t, k1, k2 ⟨rfl, hB.symm⟩⟩

