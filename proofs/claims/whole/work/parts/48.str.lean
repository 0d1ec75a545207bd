-- the Strings' own methods
section AS
variable {G : ab_G} {Y : ab_Y} {R : Room} {Z : ab_Zt} {kc ks : Nat} {h : ab_H} {pc : Nat} {ls : List (Option ab_V)} {st : List ab_V}
theorem aw_sval {i idx : Nat} (hi : i < 15) (hd : decode Y.2.1 pc = .ok (.getfield idx, 3)) (hw : Cond.fieldLink Y.1.cls idx "java/lang/String" "value" "[B" ∈ lw_all) (k : aW G Y R Z kc ks h (pc + 3) ls (ab_r (1200 + i) :: st)) : aW G Y R Z kc ks h pc ls (ab_r (1100 + i) :: st) := by
  intro p e s m args below meth c Cx H locs lsr hR hO hL hl
  have k9 := k p e s m args below meth c Cx H locs lsr hR hO hL hl
  rw [List.map_cons, aw_rv (by omega), ab_ad_ge (by omega)] at k9
  rw [List.map_cons, aw_rv (by omega), ab_ad_ge (by omega)]
  obtain ⟨cf, k', i', f, cell, h1, h2, h3, h4, h5, h6⟩ := (Cx.2.2.2.2.2.2.2.2.2.1.2.2.2.2.1.1 i hi).2.2.1
  exact W.getf Cx.1 Cx.2.1 Cx.2.2.2.2.1 (Cx.2.2.2.2.2.1 _ hw) h1 h2 (by rw [hO _ (Nat.not_lt.mp h6)]; exact h3) h4 h5 rfl rfl hd k9
theorem aw_scod {i idx : Nat} (hi : i < 15) (hd : decode Y.2.1 pc = .ok (.getfield idx, 3)) (hw : Cond.fieldLink Y.1.cls idx "java/lang/String" "coder" "B" ∈ lw_all) (k : aW G Y R Z kc ks h (pc + 3) ls (ab_i 0 :: st)) : aW G Y R Z kc ks h pc ls (ab_r (1100 + i) :: st) := by
  intro p e s m args below meth c Cx H locs lsr hR hO hL hl
  have k9 := k p e s m args below meth c Cx H locs lsr hR hO hL hl
  rw [List.map_cons, aw_rv (by omega), ab_ad_ge (by omega)]
  obtain ⟨cf, k', i', f, cell, h1, h2, h3, h4, h5, h6⟩ := (Cx.2.2.2.2.2.2.2.2.2.1.2.2.2.2.1.1 i hi).2.1
  exact W.getf Cx.1 Cx.2.1 Cx.2.2.2.2.1 (Cx.2.2.2.2.2.1 _ hw) h1 h2 (by rw [hO _ (Nat.not_lt.mp h6)]; exact h3) h4 h5 rfl rfl hd k9
theorem aw_salen {i : Nat} (hi : i < 15) (hd : decode Y.2.1 pc = .ok (.arraylength, 1)) (k : aW G Y R Z kc ks h (pc + 1) ls (ab_i (ab_len.getD i 0 : Nat) :: st)) : aW G Y R Z kc ks h pc ls (ab_r (1200 + i) :: st) := by
  intro p e s m args below meth c Cx H locs lsr hR hO hL hl
  have k9 := k p e s m args below meth c Cx H locs lsr hR hO hL hl
  rw [List.map_cons, aw_rv (by omega), ab_ad_ge (by omega)]
  obtain ⟨cell, h1, h2, h3, h4, h5, h6, h7⟩ := (Cx.2.2.2.2.2.2.2.2.2.1.2.2.2.2.1.1 i hi).2.2.2
  refine W.alen Cx.1 Cx.2.1 (by rw [hO _ (Nat.not_lt.mp h7)]; exact h1) h2 (n := Int32.ofInt (ab_len.getD i 0 : Nat)) ?_ rfl rfl hd k9
  rw [h5]
  exact Int32.ofInt_eq_ofNat.symm
theorem aw_sbald {i j : Nat} (hi : i < 15) (hd : decode Y.2.1 pc = .ok (.baload, 1)) (hj : j < ab_len.getD i 0) (hz : ab_len.getD i 0 < 1000000) (k : aW G Y R Z kc ks h (pc + 1) ls (ab_i ((ab_byt.getD i []).getD j 0).toInt :: st)) : aW G Y R Z kc ks h pc ls (ab_i (j : Int) :: ab_r (1200 + i) :: st) := by
  intro p e s m args below meth c Cx H locs lsr hR hO hL hl
  have k9 := k p e s m args below meth c Cx H locs lsr hR hO hL hl
  obtain ⟨e1, e2⟩ := ab_ixn (j := (j : Int)) (l := ab_len.getD i 0) (by omega) (by omega) hz
  rw [List.map_cons, List.map_cons, aw_rv (by omega), ab_ad_ge (by omega)]
  obtain ⟨cell, h1, h2, h3, h4, h5, h6, h7⟩ := (Cx.2.2.2.2.2.2.2.2.2.1.2.2.2.2.1.1 i hi).2.2.2
  refine W.bald Cx.1 Cx.2.1 (by rw [hO _ (Nat.not_lt.mp h7)]; exact h1) h2 h3 (fun q => e2 (q.imp id (fun q => Nat.le_trans h4 q))) (v := .int (Int32.ofInt ((ab_byt.getD i []).getD j 0).toInt)) ?_ rfl rfl hd k9
  rw [e1, Int32.ofInt_toInt]
  exact h6 _ (by omega)
theorem ab_zcs (s : State) (hG : ab_Gl G s) : va_Z "java/lang/String" "COMPACT_STRINGS" "Z" (ab_c G (ab_i 1)) (ab_A G) s s.heap := hG.2.1.2.2.2.2.2.1.1
theorem ab_zsi (s : State) (hG : ab_Gl G s) : va_Z "jdk/internal/util/Preconditions" "SIOOBE_FORMATTER" "Ljava/util/function/BiFunction;" (ab_c G (ab_r (ab_fr G))) (ab_A G) s s.heap := hG.2.1.2.2.2.2.2.1.2.1
theorem aw_callVS {d' mc ms idx i : Nat} {Y' : ab_Y} {as rest : List ab_V} {Q' : Option ab_V → ab_H → Prop} (hi : i < 15) (hd : decode Y.2.1 pc = .ok (.invokevirtual idx, 3)) (hM : Ct G d' mc ms Y' (ab_r (1100 + i) :: as) h Q') (hC : Y'.1.cls = "java/lang/String") (hY : ab_YK Y' as.length) (hin : Cond.instanceMethod Y'.1 ∈ lw_all) (hse : Cond.selects Y'.1.cls Y'.1 Y'.1 ∈ lw_all) (hlk : Cond.methodLink Y.1.cls idx Y'.1 ∈ lw_all) (hst : st = as.reverse ++ ab_r (1100 + i) :: rest) (hw : rest.length ≤ 4) (h1 : d' + 1 ≤ R.frames) (h2 : 64 * d' + 19 + Y'.2.2.1 ≤ R.locals) (h3 : kc + mc ≤ R.cells) (h4 : ks + ms ≤ R.slots)
    (kk : ∀ (r : Option ab_V) (h' : ab_H), Q' r h' → aW G Y R Z (kc + mc) (ks + ms) h' (pc + 3) ls (r.toList ++ rest)) : aW G Y R Z kc ks h pc ls st := by
  intro p e s m args below meth c Cx H locs lsr hR hO hL hl
  have hts := Cx.2.2.2.2.2.1
  subst hst
  have hb : ab_B G < H.size := by rw [hR.2.1]; omega
  have hG := Cx.2.2.2.2.2.2.2.2
  have e0 : ab_c G (ab_r (1100 + i)) = .ref (ab_ax G (1100 + i)) := by rw [aw_rv (by omega), ab_ad_ge (by omega)]
  have hrcv : ∃ cellB : Cell, H[ab_ax G (1100 + i)]? = some cellB ∧ cellB.vm.isStatics = false ∧ s.vm.findClass Y'.1.cls = some cellB.cls := by
    obtain ⟨cell, q1, q2, q3, q4⟩ := (hG.2.1.2.2.2.2.1.1 i hi).1
    exact ⟨cell, by rw [hO _ (Nat.not_lt.mp q4)]; exact q1, q2, by rw [hC]; exact q3⟩
  refine ab_after Cx hO hL hl (va_runV (C := Y'.1.cls) (b := ab_ax G (1100 + i)) (As := as.map (ab_c G)) (Ts := lw_all) ⟨Cx.1, Cx.2.1, Cx.2.2.2.1, Cx.2.2.2.2.1, hts⟩ hM ⟨ab_callOK (G := G) hts hY hlk h1 h2, hts _ hin, hts _ hse⟩ ⟨ab_blind, hrcv, fun U hU hW => ⟨by rw [List.map_cons, e0], by rw [hU]; exact hR, hG.warm hW (fun q hq => by rw [hU]; exact hO q hq) (by rw [hU]; exact hb)⟩⟩ rfl (by rw [List.length_map]) hl.1 (by show (as.reverse ++ ab_r (1100 + i) :: rest).map _ = _; rw [List.map_append, List.map_reverse, List.map_cons, e0]) (by have := ab_cats (G := G) rest; show 2 * 0 + _ ≤ 8; omega) hd ⟨h3, h4⟩) kk
end AS
/-- letter j of word i -/
def wcT (i j : Nat) : Int := ((ab_byt.getD i []).getD j 0).toInt
def wlT (i : Nat) : Nat := ab_len.getD i 0
theorem wc_all : ∀ i : Fin 15, ∀ j : Fin 6, j.val < wlT i.val → (0 ≤ wcT i.val j.val ∧ wcT i.val j.val ≤ 255) ∧ ab_i2c (ab_and (wcT i.val j.val) 255) = wcT i.val j.val ∧ (Int32.ofInt (wcT i.val j.val)).toUInt32.toUInt16.toUInt32.toInt32 = Int32.ofInt (wcT i.val j.val) := by decide +kernel
theorem wl_all : ∀ i : Fin 15, 1 ≤ wlT i.val ∧ wlT i.val ≤ 6 := by decide +kernel
theorem wl_shr : ∀ i : Fin 15, ab_sr (wlT i.val : Int) 0 = (wlT i.val : Int) := by decide +kernel
set_option maxHeartbeats 1000000 in
theorem ct_coder (G : ab_G) (h0 : ab_H) (i : Nat) (hi : i < 15) : Ct G 0 0 0 YJ0_coder_7d493 [ab_r (1100 + i)] h0 (fun r h => r = some (ab_i 0) ∧ h = h0) := by
  refine Ct.ofW kJ0_coder_7d493 (ls := [some (ab_r (1100 + i))]) (Nat.le_of_ble_eq_true rfl) rfl ?_
  refine aw_gets (w := ab_i 1) dJ0_coder_7d493_0 ab_zcs gJ0_38 ?_
  refine aw_if_eq (tgt := 13) dJ0_coder_7d493_3 rfl ⟨by decide, by decide⟩ (fun c9 => absurd c9 (by decide)) (fun _ => ?_)
  refine aw_aload_n dJ0_coder_7d493_6 rfl (by omega) ?_
  refine aw_scod hi dJ0_coder_7d493_7 gJ0_15 ?_
  refine aw_goto (tgt := 14) dJ0_coder_7d493_10 rfl ?_
  refine aw_zreturn dJ0_coder_7d493_14 rfl (by decide) ?_
  exact ⟨rfl, rfl⟩
set_option maxHeartbeats 1000000 in
theorem ct_slength (G : ab_G) (h0 : ab_H) (i : Nat) (hi : i < 15) : Ct G 1 0 0 YJ0_length_8abf5 [ab_r (1100 + i)] h0 (fun r h => r = some (ab_i (wlT i : Int)) ∧ h = h0) := by
  refine Ct.ofW kJ0_length_8abf5 (ls := [some (ab_r (1100 + i))]) (Nat.le_of_ble_eq_true rfl) rfl ?_
  refine aw_aload_n dJ0_length_8abf5_0 rfl (by omega) ?_
  refine aw_sval hi dJ0_length_8abf5_1 gJ0_9 ?_
  refine aw_salen hi dJ0_length_8abf5_4 ?_
  refine aw_aload_n dJ0_length_8abf5_5 rfl (by omega) ?_
  refine aw_callVS (as := []) (rest := [ab_i (ab_len.getD i 0 : Nat)]) hi dJ0_length_8abf5_6 (ct_coder G h0 i hi) rfl kJ0_coder_7d493 iJ0_coder_7d493 eJ0_coder_7d493 lJ0_335 rfl (Nat.le_of_ble_eq_true rfl) (by decide) (by decide) (by decide) (by decide) ?_
  rintro _ _ ⟨rfl, rfl⟩
  refine aw_ishr dJ0_length_8abf5_9 ?_
  refine aw_to (z := (wlT i : Int)) (wl_shr ⟨i, hi⟩) ?_
  refine aw_ireturn dJ0_length_8abf5_10 rfl ?_
  exact ⟨rfl, rfl⟩
set_option maxHeartbeats 1000000 in
theorem ct_isLatin1 (G : ab_G) (h0 : ab_H) (i : Nat) (hi : i < 15) : Ct G 0 0 0 YJ0_isLatin1_aae02 [ab_r (1100 + i)] h0 (fun r h => r = some (ab_i 1) ∧ h = h0) := by
  refine Ct.ofW kJ0_isLatin1_aae02 (ls := [some (ab_r (1100 + i))]) (Nat.le_of_ble_eq_true rfl) rfl ?_
  refine aw_gets (w := ab_i 1) dJ0_isLatin1_aae02_0 ab_zcs gJ0_38 ?_
  refine aw_if_eq (tgt := 17) dJ0_isLatin1_aae02_3 rfl ⟨by decide, by decide⟩ (fun c9 => absurd c9 (by decide)) (fun _ => ?_)
  refine aw_aload_n dJ0_isLatin1_aae02_6 rfl (by omega) ?_
  refine aw_scod hi dJ0_isLatin1_aae02_7 gJ0_15 ?_
  refine aw_if_ne (tgt := 17) dJ0_isLatin1_aae02_10 rfl ⟨by decide, by decide⟩ (fun c9 => absurd rfl c9) (fun _ => ?_)
  refine aw_iconst dJ0_isLatin1_aae02_13 ?_
  refine aw_goto (tgt := 18) dJ0_isLatin1_aae02_14 rfl ?_
  refine aw_breturn dJ0_isLatin1_aae02_18 rfl (by omega) ?_
  exact ⟨rfl, rfl⟩
set_option maxHeartbeats 1000000 in
theorem ct_pcheck (G : ab_G) (h0 : ab_H) (j n r9 : Nat) (hj : j < n) (hn : n < 1000) : Ct G 0 0 0 YJ3_checkIndex_8e157 [ab_i (j : Int), ab_i (n : Int), ab_r r9] h0 (fun r h => r = some (ab_i (j : Int)) ∧ h = h0) := by
  refine Ct.ofW kJ3_checkIndex_8e157 (ls := [some (ab_i (j : Int)), some (ab_i (n : Int)), some (ab_r r9)]) (Nat.le_of_ble_eq_true rfl) rfl ?_
  refine aw_iload_n dJ3_checkIndex_8e157_0 rfl ?_
  refine aw_if_lt (tgt := 9) dJ3_checkIndex_8e157_1 rfl (by unfold ab_In; omega) (fun c9 => absurd c9 (by omega)) (fun _ => ?_)
  refine aw_iload_n dJ3_checkIndex_8e157_4 rfl ?_
  refine aw_iload_n dJ3_checkIndex_8e157_5 rfl ?_
  refine aw_icmp_lt (tgt := 16) dJ3_checkIndex_8e157_6 rfl (by unfold ab_In; omega) (by unfold ab_In; omega) (fun _ => ?_) (fun c9 => absurd (by omega) c9)
  refine aw_iload_n dJ3_checkIndex_8e157_16 rfl ?_
  refine aw_ireturn dJ3_checkIndex_8e157_17 rfl ?_
  exact ⟨rfl, rfl⟩
set_option maxHeartbeats 1000000 in
theorem ct_scheck (G : ab_G) (h0 : ab_H) (j n : Nat) (hj : j < n) (hn : n < 1000) : Ct G 1 0 0 YJ0_checkIndex_df160 [ab_i (j : Int), ab_i (n : Int)] h0 (fun r h => r = none ∧ h = h0) := by
  refine Ct.ofW kJ0_checkIndex_df160 (ls := [some (ab_i (j : Int)), some (ab_i (n : Int))]) (Nat.le_of_ble_eq_true rfl) rfl ?_
  refine aw_iload_n dJ0_checkIndex_df160_0 rfl ?_
  refine aw_iload_n dJ0_checkIndex_df160_1 rfl ?_
  refine aw_gets (w := ab_r (ab_fr G)) dJ0_checkIndex_df160_2 ab_zsi gJ0_1053 ?_
  refine aw_callS (as := [ab_i (j : Int), ab_i (n : Int), ab_r (ab_fr G)]) (rest := []) dJ0_checkIndex_df160_5 (ct_pcheck G h0 j n (ab_fr G) hj hn) kJ3_checkIndex_8e157 sJ3_checkIndex_8e157 lJ0_1059 rfl (Nat.le_of_ble_eq_true rfl) (by decide) (by decide) (by decide) (by decide) ?_
  rintro _ _ ⟨rfl, rfl⟩
  refine aw_pop dJ0_checkIndex_df160_8 rfl ?_
  refine aw_return dJ0_checkIndex_df160_9 rfl ?_
  exact ⟨rfl, rfl⟩
set_option maxHeartbeats 1000000 in
theorem ct_lcharAt (G : ab_G) (h0 : ab_H) (i j : Nat) (hi : i < 15) (hj : j < wlT i) : Ct G 2 0 0 YJ1_charAt_3b067 [ab_r (1200 + i), ab_i (j : Int)] h0 (fun r h => r = some (ab_i (wcT i j)) ∧ h = h0) := by
  have hwl := wl_all ⟨i, hi⟩
  simp only [] at hwl
  have hwc := wc_all ⟨i, hi⟩ ⟨j, by omega⟩ hj
  simp only [] at hwc
  have hwl2 : ab_len.getD i 0 = wlT i := rfl
  refine Ct.ofW kJ1_charAt_3b067 (ls := [some (ab_r (1200 + i)), some (ab_i (j : Int))]) (Nat.le_of_ble_eq_true rfl) rfl ?_
  refine aw_iload_n dJ1_charAt_3b067_0 rfl ?_
  refine aw_aload_n dJ1_charAt_3b067_1 rfl (by omega) ?_
  refine aw_salen hi dJ1_charAt_3b067_2 ?_
  refine aw_callS (as := [ab_i (j : Int), ab_i (wlT i : Int)]) (rest := []) dJ1_charAt_3b067_3 (ct_scheck G h0 j (wlT i) hj (by omega)) kJ0_checkIndex_df160 sJ0_checkIndex_df160 lJ1_9 rfl (Nat.le_of_ble_eq_true rfl) (by decide) (by decide) (by decide) (by decide) ?_
  rintro _ _ ⟨rfl, rfl⟩
  refine aw_aload_n dJ1_charAt_3b067_6 rfl (by omega) ?_
  refine aw_iload_n dJ1_charAt_3b067_7 rfl ?_
  refine aw_sbald hi dJ1_charAt_3b067_8 hj (by omega) ?_
  refine aw_sipush dJ1_charAt_3b067_9 rfl ?_
  refine aw_iand dJ1_charAt_3b067_12 ?_
  refine aw_i2c dJ1_charAt_3b067_13 ?_
  refine aw_to (z := wcT i j) hwc.2.1 ?_
  refine aw_zreturn dJ1_charAt_3b067_14 rfl (congrArg Value.int hwc.2.2) ?_
  exact ⟨rfl, rfl⟩
set_option maxHeartbeats 1000000 in
theorem ct_scharAt (G : ab_G) (h0 : ab_H) (i j : Nat) (hi : i < 15) (hj : j < wlT i) : Ct G 3 0 0 YJ0_charAt_5068e [ab_r (1100 + i), ab_i (j : Int)] h0 (fun r h => r = some (ab_i (wcT i j)) ∧ h = h0) := by
  have hwl := wl_all ⟨i, hi⟩
  simp only [] at hwl
  have hwc := wc_all ⟨i, hi⟩ ⟨j, by omega⟩ hj
  simp only [] at hwc
  refine Ct.ofW kJ0_charAt_5068e (ls := [some (ab_r (1100 + i)), some (ab_i (j : Int))]) (Nat.le_of_ble_eq_true rfl) rfl ?_
  refine aw_aload_n dJ0_charAt_5068e_0 rfl (by omega) ?_
  refine aw_callVS (as := []) (rest := []) hi dJ0_charAt_5068e_1 (ct_isLatin1 G h0 i hi) rfl kJ0_isLatin1_aae02 iJ0_isLatin1_aae02 eJ0_isLatin1_aae02 lJ0_492 rfl (Nat.le_of_ble_eq_true rfl) (by decide) (by decide) (by decide) (by decide) ?_
  rintro _ _ ⟨rfl, rfl⟩
  refine aw_if_eq (tgt := 16) dJ0_charAt_5068e_4 rfl ⟨by decide, by decide⟩ (fun c9 => absurd c9 (by decide)) (fun _ => ?_)
  refine aw_aload_n dJ0_charAt_5068e_7 rfl (by omega) ?_
  refine aw_sval hi dJ0_charAt_5068e_8 gJ0_9 ?_
  refine aw_iload_n dJ0_charAt_5068e_11 rfl ?_
  refine aw_callS (as := [ab_r (1200 + i), ab_i (j : Int)]) (rest := []) dJ0_charAt_5068e_12 (ct_lcharAt G _ i j hi hj) kJ1_charAt_3b067 sJ1_charAt_3b067 lJ0_495 rfl (Nat.le_of_ble_eq_true rfl) (by decide) (by decide) (by decide) (by decide) ?_
  rintro _ _ ⟨rfl, rfl⟩
  refine aw_zreturn dJ0_charAt_5068e_15 rfl (congrArg Value.int hwc.2.2) ?_
  exact ⟨rfl, rfl⟩
