theorem CS.up {c : Nat} {I : Nat → Nat → Int} {F : Nat → Nat → Nat} {L : List P5} {wk nx W W' : Int} (h : CS c I F L wk nx W) (hw : W ≤ W') : CS c I F L wk nx W' :=
  ⟨h.1, h.2.1, h.2.2.1, h.2.2.2.1, h.2.2.2.2.1, fun t ht => (h.2.2.2.2.2.1 t ht).mono hw (Int.le_refl _), h.2.2.2.2.2.2⟩
theorem CS_week {c : Nat} {I : Nat → Nat → Int} {F : Nat → Nat → Nat} {L : List P5} {wk nx W v W' : Int} {wk' : Int} (h : CS c I F L wk nx W) (hv : v = wk') (hW : W ≤ W') : CS c (ab_u I c 3 v) F L wk' nx W' := by
  obtain ⟨h1, ⟨h2, h3, h4⟩, h5, h6, h7, h8, h9⟩ := h
  refine ⟨h1, ⟨by rw [ab_u_j (by omega)]; exact h2, by rw [ab_u_s]; exact hv, by rw [ab_u_j (by omega)]; exact h4⟩, h5, h6, fun i hi => ?_, fun t ht => (h8 t ht).mono hW (Int.le_refl _), fun p q1 q2 => ?_⟩
  · have := h5 i (by omega)
    rw [tup_u (by omega)]; exact h7 i hi
  · rw [tup_u (by omega)]; exact h9 p q1 q2
theorem CD_week {c : Nat} {I : Nat → Nat → Int} {F : Nat → Nat → Nat} {v : Int} : CD c I F (ab_u I c 3 v) F (fun _ _ => 0) 0 :=
  ⟨fun w s hw hs => by rw [ab_u_i (by omega)]; simp, by rw [ab_u_j (by omega)]; omega, fun i b hi => by rw [ab_u_i (by omega)], fun _ _ _ => rfl⟩
set_option maxHeartbeats 4000000 in
set_option maxRecDepth 100000 in
theorem ct_X1_pass_23_13 (G : ab_G) (I : Nat → Nat → Int) (F : Nat → Nat → Nat) (hF : ab_FB F) (L : List P5) (wk nx : Int) (n : Nat) (hC : CS 23 I F L wk nx (2 * wk)) (hq : Nq L nx) (hwk : 0 ≤ wk ∧ wk + n ≤ 2900) (hnx : 0 ≤ nx ∧ nx + 13 * n ≤ 90000) (hT : TB I) (hR : RB 13 I) : Ct G 3 0 0 YX1_pass [ab_r 23, ab_i (n : Int), ab_r 13] (104, I, F) (fun q h => q = none ∧ ∃ I2 F2, h = (104, I2, F2) ∧ CS 23 I2 F2 (wkN (ruX I 13) (tnX I) (kdX I 9 10) (kdX I 11 12) n wk L nx).1 (wk + n) (wkN (ruX I 13) (tnX I) (kdX I 9 10) (kdX I 11 12) n wk L nx).2.1 (2 * (wk + n)) ∧ CD 23 I F I2 F2 (wkN (ruX I 13) (tnX I) (kdX I 9 10) (kdX I 11 12) n wk L nx).2.2.1 (wkN (ruX I 13) (tnX I) (kdX I 9 10) (kdX I 11 12) n wk L nx).2.2.2 ∧ Nq (wkN (ruX I 13) (tnX I) (kdX I 9 10) (kdX I 11 12) n wk L nx).1 (wkN (ruX I 13) (tnX I) (kdX I 9 10) (kdX I 11 12) n wk L nx).2.1) := by
  refine Ct.ofW kX1_pass (ls := [some (ab_r 23), some (ab_i (n : Int)), some (ab_r 13), none, none, none]) (Nat.le_of_ble_eq_true rfl) rfl ?_
  generalize hfe : (wkN (ruX I 13) (tnX I) (kdX I 9 10) (kdX I 11 12) n wk L nx) = fin
  generalize hZ : ab_Z G (fun q h => q = none ∧ ∃ I2 F2, h = (104, I2, F2) ∧ CS 23 I2 F2 fin.1 (wk + n) fin.2.1 (2 * (wk + n)) ∧ CD 23 I F I2 F2 fin.2.2.1 fin.2.2.2 ∧ Nq fin.1 fin.2.1) 0 0 = Z
  have loop : ∀ (d k : Nat) (I1 : Nat → Nat → Int) (F1 : Nat → Nat → Nat) (Lk : List P5) (nk : Int) (Tk : Nat → Nat → Int) (ek : Int), k + d = n → CS 23 I1 F1 Lk (wk + k) nk (2 * (wk + k)) → CD 23 I F I1 F1 Tk ek → Nq Lk nk → 0 ≤ nk → nk + 13 * d ≤ 90000 → fin = ((wkN (ruX I 13) (tnX I) (kdX I 9 10) (kdX I 11 12) d (wk + k) Lk nk).1, (wkN (ruX I 13) (tnX I) (kdX I 9 10) (kdX I 11 12) d (wk + k) Lk nk).2.1, fun w s => Tk w s + (wkN (ruX I 13) (tnX I) (kdX I 9 10) (kdX I 11 12) d (wk + k) Lk nk).2.2.1 w s, ek + (wkN (ruX I 13) (tnX I) (kdX I 9 10) (kdX I 11 12) d (wk + k) Lk nk).2.2.2) → aW G YX1_pass (ab_rm 3 0 0) Z 0 0 (104, I1, F1) 2 [some (ab_r 23), some (ab_i (n : Int)), some (ab_r 13), some (ab_i (k : Int)), none, none] [] := by
    intro d
    induction d with
    | zero =>
      intro k I1 F1 Lk nk Tk ek hk hC1 hD1 hq1 hn1 hn2 hfin
      have hkn : k = n := by omega
      subst hkn
      refine aw_iload_n dX1_pass_2 rfl ?_
      refine aw_iload_n dX1_pass_3 rfl ?_
      refine aw_icmp_ge (tgt := 88) dX1_pass_4 rfl (by first | assumption | (unfold ab_In at *; omega)) (by first | assumption | (unfold ab_In at *; omega)) (fun c_4 => ?_) (fun c_4 => ?_)
      · rw [← hZ]
        refine aw_return dX1_pass_88 rfl ?_
        refine ⟨rfl, _, _, rfl, ?_⟩
        rw [hfin]
        refine ⟨hC1, ?_, hq1⟩
        have hD9 := hD1
        simp only [wkN, Int.add_zero]
        exact hD1
      · exfalso; omega
    | succ d ih =>
      intro k I1 F1 Lk nk Tk ek hk hC1 hD1 hq1 hn1 hn2 hfin
      have h4 := hD1.2.2.1
      have hFr := hD1.2.2.2
      have hLk := hC1.1
      have hwe : I1 23 3 = wk + k := hC1.2.1.2.1
      have he : ∀ i b, i ≤ 13 + 3 → I1 i b = I i b := fun i b hi => h4 i b (by omega)
      have he2 : ∀ i b, i ≤ 12 → I1 i b = I i b := fun i b hi => h4 i b (by omega)
      have hF1 : ab_FB F1 := fun a b e1 e2 => (hFr a b (by omega)).trans (hF a b e1 e2)
      have hT1 : TB I1 := hT.of he2
      have hR1 : RB 13 I1 := hR.of he
      have hkd := kd_bd hT (wk := wk + k) (by omega)
      have hri := hT1.2.2.1
      have hrj := hT1.2.2.2.2.1
      have hws := wkS_nq (ru := (ruX I 13)) (tn := (tnX I)) (kd := kdX I 9 10 (wk + k)) (js := kdX I 11 12 (wk + k)) hq1
      have hos := ofS_nq (ru := (ruX I 13)) (tn := (tnX I)) (kd := kdX I 9 10 (wk + k)) hq1
      generalize hoe : ofS (ruX I 13) (tnX I) (kdX I 9 10 (wk + k)) Lk nk = oo at hos
      have s64 : ∀ (I3 : Nat → Nat → Int) (F3 : Nat → Nat → Nat) (L3 : List P5) (n3 : Int) (T3 : Nat → Nat → Int) (e3 : Int), CS 23 I3 F3 L3 (wk + k) n3 (2 * (wk + k) + 1) → CD 23 I1 F1 I3 F3 T3 e3 → n3 ≤ 100000 → wkS (ruX I 13) (tnX I) (kdX I 9 10 (wk + k)) (kdX I 11 12 (wk + k)) Lk nk = (L3.map (gr (ruX I 13).2.2.2.1), n3, fun w s => T3 w s + grT (tnX I).1 L3 w s, e3) → aW G YX1_pass (ab_rm 3 0 0) Z 0 0 (104, I3, F3) 64 [some (ab_r 23), some (ab_i (n : Int)), some (ab_r 13), some (ab_i (k : Int)), none, none] [] := by
        intro I3 F3 L3 n3 T3 e3 hC3 hD3 hn3 hw3
        have h43 := hD3.2.2.1
        have he3 : ∀ i b, i ≤ 13 + 3 → I3 i b = I i b := fun i b hi => (h43 i b (by omega)).trans (he i b hi)
        have he23 : ∀ i b, i ≤ 12 → I3 i b = I i b := fun i b hi => (h43 i b (by omega)).trans (he2 i b hi)
        have hF3 : ab_FB F3 := fun a b e1 e2 => (hD3.2.2.2 a b (by omega)).trans (hF1 a b e1 e2)
        have hT3 : TB I3 := hT.of he23
        have hR3 : RB 13 I3 := hR.of he3
        have hwe3 : I3 23 3 = wk + k := hC3.2.1.2.1
        refine aw_aload_n dX1_pass_64 rfl (by decide) ?_
        refine aw_aload_n dX1_pass_65 rfl (by decide) ?_
        refine aw_geti dX1_pass_66 fX1_81 ⟨Nat.le_of_ble_eq_true rfl, Nat.le_of_ble_eq_true rfl⟩ rfl rfl ?_
        refine aw_callV (as := [ab_i (I3 13 3)]) (rest := []) dX1_pass_69 (ct_X1_growOlder_23 G I3 F3 hF3 L3 (wk + k) n3 (2 * (wk + k) + 1) hC3 hT3.1 (I3 13 3) hR3.2.2.2.1 (by omega) (by omega)) ⟨Nat.le_of_ble_eq_true rfl, Nat.le_of_ble_eq_true rfl⟩ rfl kc1 rfl kX1_growOlder iX1_growOlder eX1_growOlder lX1_86 rfl (Nat.le_of_ble_eq_true rfl) (by decide) (by decide) (by decide) (by decide) ?_
        rintro _ _ ⟨rfl, I4, rfl, hC4, hD4⟩
        have hwe4 : I4 23 3 = (wk + k) := hC4.2.1.2.1
        refine aw_aload_n dX1_pass_72 rfl (by decide) ?_
        refine aw_dup dX1_pass_73 rfl ?_
        refine aw_getiv (v := (wk + k)) dX1_pass_74 fX1_21 ⟨Nat.le_of_ble_eq_true rfl, Nat.le_of_ble_eq_true rfl⟩ rfl rfl hwe4 ?_
        refine aw_iconst dX1_pass_77 ?_
        refine aw_iadd dX1_pass_78 ?_
        refine aw_puti dX1_pass_79 fX1_21 ⟨Nat.le_of_ble_eq_true rfl, Nat.le_of_ble_eq_true rfl⟩ rfl rfl ?_
        refine aw_iinc (ls' := [some (ab_r 23), some (ab_i (n : Int)), some (ab_r 13), some (ab_i ((k : Int) + 1)), none, none]) dX1_pass_82 (by decide) rfl rfl ?_
        refine aw_goto (tgt := 2) dX1_pass_85 rfl ?_
        have hru : I3 13 3 = (ruX I 13).2.2.2.1 := he3 13 3 (by omega)
        have hnd : n4 (I3 8) = (tnX I).1 := by show n4 (I3 8) = n4 (I 8); rw [show I3 8 = I 8 from funext fun b => he23 8 b (by omega)]
        rw [hru] at hC4
        rw [hnd] at hD4
        have hC5 : CS 23 (ab_u I4 23 3 (wk + k + 1)) F3 (L3.map (gr (ruX I 13).2.2.2.1)) (wk + ((k + 1 : Nat) : Int)) n3 (2 * (wk + ((k + 1 : Nat) : Int))) := CS_week hC4 (by omega) (by omega)
        have hD5 := ((hD1.trans hD3).trans hD4).trans (CD_week (c := 23) (I := I4) (F := F3) (v := wk + k + 1))
        rw [hw3] at hws
        dsimp only at hws
        have ih9 := ih (k + 1) _ _ _ _ _ _ (by omega) hC5 hD5 hws.1 (by omega) (by omega) ?_
        · exact ih9
        · rw [hfin]
          simp only [wkN, hw3]
          rw [show wk + (k : Int) + 1 = wk + ((k + 1 : Nat) : Int) by omega]
          refine Prod.ext rfl (Prod.ext rfl (Prod.ext ?_ ?_))
          · funext w s; simp only []; omega
          · simp only []; omega
      have s36 : ∀ (I2 : Nat → Nat → Int) (F2 : Nat → Nat → Nat), CS 23 I2 F2 oo.1 (wk + k) oo.2.2.1 (2 * (wk + k) + 1) → CD 23 I1 F1 I2 F2 oo.2.1 (if oo.2.2.2 = true then 0 else 1) → aW G YX1_pass (ab_rm 3 0 0) Z 0 0 (104, I2, F2) 36 [some (ab_r 23), some (ab_i (n : Int)), some (ab_r 13), some (ab_i (k : Int)), none, none] [] := by
        intro I2 F2 hC2 hD2
        have h42 := hD2.2.2.1
        have he22 : ∀ i b, i ≤ 12 → I2 i b = I i b := fun i b hi => (h42 i b (by omega)).trans (he2 i b hi)
        have hF2 : ab_FB F2 := fun a b e1 e2 => (hD2.2.2.2 a b (by omega)).trans (hF1 a b e1 e2)
        have hT2 : TB I2 := hT.of he22
        have hri2 := hT2.2.2.2.2.1
        have hwe2 : I2 23 3 = wk + k := hC2.2.1.2.1
        refine aw_aload_n dX1_pass_36 rfl (by decide) ?_
        refine aw_getrv (r := 2) dX1_pass_37 fX1_35 ⟨Nat.le_of_ble_eq_true rfl, Nat.le_of_ble_eq_true rfl⟩ rfl rfl (hF2.at 23 0 2 rfl rfl rfl) ?_
        refine aw_getrv (r := 11) dX1_pass_40 fX1_74 ⟨Nat.le_of_ble_eq_true rfl, Nat.le_of_ble_eq_true rfl⟩ rfl rfl (hF2.at 2 3 11 rfl rfl rfl) ?_
        refine aw_aload_n dX1_pass_43 rfl (by decide) ?_
        refine aw_getiv (v := (wk + k)) dX1_pass_44 fX1_21 ⟨Nat.le_of_ble_eq_true rfl, Nat.le_of_ble_eq_true rfl⟩ rfl rfl hwe2 ?_
        refine aw_callV (as := [ab_i (wk + k)]) (rest := []) dX1_pass_47 (ct_X6_inWeek_11 G I2 F2 hF2 (wk + k) hri2.1 hri2.2 (by omega) (by omega)) ⟨Nat.le_of_ble_eq_true rfl, Nat.le_of_ble_eq_true rfl⟩ rfl kc6 rfl kX6_inWeek iX6_inWeek eX6_inWeek lX1_64 rfl (Nat.le_of_ble_eq_true rfl) (by decide) (by decide) (by decide) (by decide) ?_
        rintro _ _ ⟨rfl, rfl⟩
        rw [show (if I2 11 1 = 0 then (-1 : Int) else I2 12 ((wk + k) % I2 11 1).toNat) = kdX I 11 12 (wk + k) from kdX_congr he22 (by omega) (by omega) _]
        refine aw_istore (ls' := [some (ab_r 23), some (ab_i (n : Int)), some (ab_r 13), some (ab_i (k : Int)), none, some (ab_i (kdX I 11 12 (wk + k)))]) dX1_pass_50 (by decide) rfl ?_
        refine aw_iload dX1_pass_52 rfl ?_
        refine aw_iconst dX1_pass_54 ?_
        refine aw_icmp_eq (tgt := 64) dX1_pass_55 rfl (by first | assumption | (unfold ab_In at *; omega)) (by first | assumption | (unfold ab_In at *; omega)) (fun c_55 => ?_) (fun c_55 => ?_)
        · refine aw_le (ls' := [some (ab_r 23), some (ab_i (n : Int)), some (ab_r 13), some (ab_i (k : Int)), none, none]) (ab_le_c (ab_le_c (ab_le_c (ab_le_c (ab_le_n (ab_le_n ab_le_nil)))))) (s64 I2 F2 oo.1 oo.2.2.1 oo.2.1 (if oo.2.2.2 = true then 0 else 1) hC2 hD2 (by omega) ?_)
          unfold wkS; rw [hoe, c_55]; simp
        · obtain ⟨sv, hsv⟩ : ∃ sv : Nat, (sv : Int) = kdX I 11 12 (wk + k) := ⟨(kdX I 11 12 (wk + k)).toNat, by omega⟩
          rw [← hsv]
          refine aw_aload_n dX1_pass_58 rfl (by decide) ?_
          refine aw_iload dX1_pass_59 rfl ?_
          refine aw_callV (as := [ab_i (sv : Int)]) (rest := []) dX1_pass_61 (ct_X1_arrive_23 G I2 F2 hF2 oo.1 (wk + k) oo.2.2.1 (2 * (wk + k) + 1) hC2 sv (by omega) (by omega) (by omega)) ⟨Nat.le_of_ble_eq_true rfl, Nat.le_of_ble_eq_true rfl⟩ rfl kc1 rfl kX1_arrive iX1_arrive eX1_arrive lX1_77 rfl (Nat.le_of_ble_eq_true rfl) (by decide) (by decide) (by decide) (by decide) ?_
          rintro _ _ ⟨rfl, I3, rfl, hC3, hD3⟩
          refine aw_le (ls' := [some (ab_r 23), some (ab_i (n : Int)), some (ab_r 13), some (ab_i (k : Int)), none, none]) (ab_le_c (ab_le_c (ab_le_c (ab_le_c (ab_le_n (ab_le_n ab_le_nil)))))) (s64 I3 F2 (arL oo.1 oo.2.2.1 sv) (arN oo.1 oo.2.2.1) (fun w s => oo.2.1 w s + arT oo.1 sv w s) (if oo.2.2.2 = true then 0 else 1) hC3 (by have := hD2.trans hD3; rw [Int.add_zero] at this; exact this) (by have := (ar_nq (s := sv) hos.1).2.2; omega) ?_)
          unfold wkS; rw [hoe, ← hsv]
          have hm : ¬ (sv : Int) = -1 := by omega
          simp [hm]
      refine aw_iload_n dX1_pass_2 rfl ?_
      refine aw_iload_n dX1_pass_3 rfl ?_
      refine aw_icmp_ge (tgt := 88) dX1_pass_4 rfl (by first | assumption | (unfold ab_In at *; omega)) (by first | assumption | (unfold ab_In at *; omega)) (fun c_4 => ?_) (fun c_4 => ?_)
      · exfalso; omega
      · refine aw_aload_n dX1_pass_7 rfl (by decide) ?_
        refine aw_getrv (r := 2) dX1_pass_8 fX1_35 ⟨Nat.le_of_ble_eq_true rfl, Nat.le_of_ble_eq_true rfl⟩ rfl rfl (hF1.at 23 0 2 rfl rfl rfl) ?_
        refine aw_getrv (r := 9) dX1_pass_11 fX1_58 ⟨Nat.le_of_ble_eq_true rfl, Nat.le_of_ble_eq_true rfl⟩ rfl rfl (hF1.at 2 2 9 rfl rfl rfl) ?_
        refine aw_aload_n dX1_pass_14 rfl (by decide) ?_
        refine aw_getiv (v := (wk + k)) dX1_pass_15 fX1_21 ⟨Nat.le_of_ble_eq_true rfl, Nat.le_of_ble_eq_true rfl⟩ rfl rfl hwe ?_
        refine aw_callV (as := [ab_i (wk + k)]) (rest := []) dX1_pass_18 (ct_X6_inWeek_9 G I1 F1 hF1 (wk + k) hri.1 hri.2 (by omega) (by omega)) ⟨Nat.le_of_ble_eq_true rfl, Nat.le_of_ble_eq_true rfl⟩ rfl kc6 rfl kX6_inWeek iX6_inWeek eX6_inWeek lX1_64 rfl (Nat.le_of_ble_eq_true rfl) (by decide) (by decide) (by decide) (by decide) ?_
        rintro _ _ ⟨rfl, rfl⟩
        rw [show (if I1 9 1 = 0 then (-1 : Int) else I1 10 ((wk + k) % I1 9 1).toNat) = kdX I 9 10 (wk + k) from kdX_congr he2 (by omega) (by omega) _]
        refine aw_istore (ls' := [some (ab_r 23), some (ab_i (n : Int)), some (ab_r 13), some (ab_i (k : Int)), some (ab_i (kdX I 9 10 (wk + k))), none]) dX1_pass_21 (by decide) rfl ?_
        refine aw_iload dX1_pass_23 rfl ?_
        refine aw_iconst dX1_pass_25 ?_
        refine aw_icmp_eq (tgt := 36) dX1_pass_26 rfl (by first | assumption | (unfold ab_In at *; omega)) (by first | assumption | (unfold ab_In at *; omega)) (fun c_26 => ?_) (fun c_26 => ?_)
        · have hoo : oo = (Lk, fun _ _ => 0, nk, true) := by rw [← hoe]; unfold ofS; rw [if_pos c_26]
          refine aw_le (ls' := [some (ab_r 23), some (ab_i (n : Int)), some (ab_r 13), some (ab_i (k : Int)), none, none]) (ab_le_c (ab_le_c (ab_le_c (ab_le_c (ab_le_n (ab_le_n ab_le_nil)))))) (s36 I1 F1 ?_ ?_)
          · rw [hoo]; exact hC1.up (by omega)
          · rw [hoo]; exact CD.rf
        · obtain ⟨kv, hkv⟩ : ∃ kv : Nat, (kv : Int) = kdX I 9 10 (wk + k) := ⟨(kdX I 9 10 (wk + k)).toNat, by omega⟩
          rw [← hkv]
          refine aw_aload_n dX1_pass_29 rfl (by decide) ?_
          refine aw_iload dX1_pass_30 rfl ?_
          refine aw_aload_n dX1_pass_32 rfl (by decide) ?_
          refine aw_callV (as := [ab_i (kv : Int), ab_r 13]) (rest := []) dX1_pass_33 (ct_X1_offer_23_13 G I1 F1 hF1 (2 * (wk + k)) hC1.2.2.2.2.2.2 (by omega) (by rw [hC1.2.1.2.2]; omega) hT1 hR1 Lk.length kv (by omega) hC1.2.1.1 (fun i hi => by rw [hC1.2.1.2.2]; exact hC1.2.2.2.2.2.1 _ (List.mem_of_getElem? (hC1.2.2.2.2.1 i hi))) hLk hC1.2.2.1 (sd_inj _ hC1.2.2.2.1 Lk.length hLk)) ⟨Nat.le_of_ble_eq_true rfl, Nat.le_of_ble_eq_true rfl⟩ rfl kc1 rfl kX1_offer iX1_offer eX1_offer lX1_70 rfl (Nat.le_of_ble_eq_true rfl) (by decide) (by decide) (by decide) (by decide) ?_
          rintro _ _ ⟨rfl, I2, F2, rfl, hOE⟩
          have h9 := hOE.cs
          have hL1 : Lk = (List.range Lk.length).map (fun i => tup I1 (F1 24 i)) := hC1.tup
          have hru : ruX I1 13 = (ruX I 13) := ruX_congr he
          have htn : tnX I1 = (tnX I) := tnX_congr he2
          have hsr := sd_srt (ord := I1 13 0) (nd := n4 (I1 8)) (t := tup I1) (f := F1 24) (N := Lk.length) (by rw [← hL1]; exact hq1.nm)
          rw [← hL1] at hsr
          have e1 : (fun i => tup I1 (rw_ F1 24 (sd (fun a b => ah (I1 13 0) (n4 (I1 8)) (tup I1 a) (tup I1 b)) (F1 24) Lk.length) 24 i)) = (fun i => tup I1 (sd (fun a b => ah (I1 13 0) (n4 (I1 8)) (tup I1 a) (tup I1 b)) (F1 24) Lk.length i)) := funext fun i => by rw [rw_s]
          rw [e1, hsr, hru, htn, show I1 13 0 = (ruX I 13).1 from congrArg Prod.fst hru, show n4 (I1 8) = (tnX I).1 from congrArg Prod.fst htn, show I1 23 4 = nk from hC1.2.1.2.2] at h9
          have hoo : (srt (ruX I 13).1 (tnX I).1 Lk).foldl (of_step (ruX I 13) (tnX I) kv) ([], fun _ _ => 0, nk, false) = oo := by rw [← hoe]; unfold ofS; rw [if_neg (by omega), ← hkv]; rfl
          rw [hoo, hwe] at h9
          refine aw_le (ls' := [some (ab_r 23), some (ab_i (n : Int)), some (ab_r 13), some (ab_i (k : Int)), none, none]) (ab_le_c (ab_le_c (ab_le_c (ab_le_c (ab_le_n (ab_le_n ab_le_nil)))))) (s36 I2 F2 h9.1 ?_)
          exact ⟨h9.2.1, h9.2.2.1, h9.2.2.2.1, fun a b hab => (h9.2.2.2.2 a b hab).trans (rw_n hab)⟩
  refine aw_iconst dX1_pass_0 ?_
  refine aw_istore_n (ls' := [some (ab_r 23), some (ab_i (n : Int)), some (ab_r 13), some (ab_i 0), none, none]) dX1_pass_1 (by decide) rfl ?_
  refine loop n 0 I F L nx (fun _ _ => 0) 0 (by omega) (by simpa using hC) CD.rf hq hnx.1 hnx.2 ?_
  rw [← hfe]
  simp
set_option maxHeartbeats 4000000 in
set_option maxRecDepth 100000 in
theorem ct_X1_pass_44_13 (G : ab_G) (I : Nat → Nat → Int) (F : Nat → Nat → Nat) (hF : ab_FB F) (L : List P5) (wk nx : Int) (n : Nat) (hC : CS 44 I F L wk nx (2 * wk)) (hq : Nq L nx) (hwk : 0 ≤ wk ∧ wk + n ≤ 2900) (hnx : 0 ≤ nx ∧ nx + 13 * n ≤ 90000) (hT : TB I) (hR : RB 13 I) : Ct G 3 0 0 YX1_pass [ab_r 44, ab_i (n : Int), ab_r 13] (104, I, F) (fun q h => q = none ∧ ∃ I2 F2, h = (104, I2, F2) ∧ CS 44 I2 F2 (wkN (ruX I 13) (tnX I) (kdX I 9 10) (kdX I 11 12) n wk L nx).1 (wk + n) (wkN (ruX I 13) (tnX I) (kdX I 9 10) (kdX I 11 12) n wk L nx).2.1 (2 * (wk + n)) ∧ CD 44 I F I2 F2 (wkN (ruX I 13) (tnX I) (kdX I 9 10) (kdX I 11 12) n wk L nx).2.2.1 (wkN (ruX I 13) (tnX I) (kdX I 9 10) (kdX I 11 12) n wk L nx).2.2.2 ∧ Nq (wkN (ruX I 13) (tnX I) (kdX I 9 10) (kdX I 11 12) n wk L nx).1 (wkN (ruX I 13) (tnX I) (kdX I 9 10) (kdX I 11 12) n wk L nx).2.1) := by
  refine Ct.ofW kX1_pass (ls := [some (ab_r 44), some (ab_i (n : Int)), some (ab_r 13), none, none, none]) (Nat.le_of_ble_eq_true rfl) rfl ?_
  generalize hfe : (wkN (ruX I 13) (tnX I) (kdX I 9 10) (kdX I 11 12) n wk L nx) = fin
  generalize hZ : ab_Z G (fun q h => q = none ∧ ∃ I2 F2, h = (104, I2, F2) ∧ CS 44 I2 F2 fin.1 (wk + n) fin.2.1 (2 * (wk + n)) ∧ CD 44 I F I2 F2 fin.2.2.1 fin.2.2.2 ∧ Nq fin.1 fin.2.1) 0 0 = Z
  have loop : ∀ (d k : Nat) (I1 : Nat → Nat → Int) (F1 : Nat → Nat → Nat) (Lk : List P5) (nk : Int) (Tk : Nat → Nat → Int) (ek : Int), k + d = n → CS 44 I1 F1 Lk (wk + k) nk (2 * (wk + k)) → CD 44 I F I1 F1 Tk ek → Nq Lk nk → 0 ≤ nk → nk + 13 * d ≤ 90000 → fin = ((wkN (ruX I 13) (tnX I) (kdX I 9 10) (kdX I 11 12) d (wk + k) Lk nk).1, (wkN (ruX I 13) (tnX I) (kdX I 9 10) (kdX I 11 12) d (wk + k) Lk nk).2.1, fun w s => Tk w s + (wkN (ruX I 13) (tnX I) (kdX I 9 10) (kdX I 11 12) d (wk + k) Lk nk).2.2.1 w s, ek + (wkN (ruX I 13) (tnX I) (kdX I 9 10) (kdX I 11 12) d (wk + k) Lk nk).2.2.2) → aW G YX1_pass (ab_rm 3 0 0) Z 0 0 (104, I1, F1) 2 [some (ab_r 44), some (ab_i (n : Int)), some (ab_r 13), some (ab_i (k : Int)), none, none] [] := by
    intro d
    induction d with
    | zero =>
      intro k I1 F1 Lk nk Tk ek hk hC1 hD1 hq1 hn1 hn2 hfin
      have hkn : k = n := by omega
      subst hkn
      refine aw_iload_n dX1_pass_2 rfl ?_
      refine aw_iload_n dX1_pass_3 rfl ?_
      refine aw_icmp_ge (tgt := 88) dX1_pass_4 rfl (by first | assumption | (unfold ab_In at *; omega)) (by first | assumption | (unfold ab_In at *; omega)) (fun c_4 => ?_) (fun c_4 => ?_)
      · rw [← hZ]
        refine aw_return dX1_pass_88 rfl ?_
        refine ⟨rfl, _, _, rfl, ?_⟩
        rw [hfin]
        refine ⟨hC1, ?_, hq1⟩
        have hD9 := hD1
        simp only [wkN, Int.add_zero]
        exact hD1
      · exfalso; omega
    | succ d ih =>
      intro k I1 F1 Lk nk Tk ek hk hC1 hD1 hq1 hn1 hn2 hfin
      have h4 := hD1.2.2.1
      have hFr := hD1.2.2.2
      have hLk := hC1.1
      have hwe : I1 44 3 = wk + k := hC1.2.1.2.1
      have he : ∀ i b, i ≤ 13 + 3 → I1 i b = I i b := fun i b hi => h4 i b (by omega)
      have he2 : ∀ i b, i ≤ 12 → I1 i b = I i b := fun i b hi => h4 i b (by omega)
      have hF1 : ab_FB F1 := fun a b e1 e2 => (hFr a b (by omega)).trans (hF a b e1 e2)
      have hT1 : TB I1 := hT.of he2
      have hR1 : RB 13 I1 := hR.of he
      have hkd := kd_bd hT (wk := wk + k) (by omega)
      have hri := hT1.2.2.1
      have hrj := hT1.2.2.2.2.1
      have hws := wkS_nq (ru := (ruX I 13)) (tn := (tnX I)) (kd := kdX I 9 10 (wk + k)) (js := kdX I 11 12 (wk + k)) hq1
      have hos := ofS_nq (ru := (ruX I 13)) (tn := (tnX I)) (kd := kdX I 9 10 (wk + k)) hq1
      generalize hoe : ofS (ruX I 13) (tnX I) (kdX I 9 10 (wk + k)) Lk nk = oo at hos
      have s64 : ∀ (I3 : Nat → Nat → Int) (F3 : Nat → Nat → Nat) (L3 : List P5) (n3 : Int) (T3 : Nat → Nat → Int) (e3 : Int), CS 44 I3 F3 L3 (wk + k) n3 (2 * (wk + k) + 1) → CD 44 I1 F1 I3 F3 T3 e3 → n3 ≤ 100000 → wkS (ruX I 13) (tnX I) (kdX I 9 10 (wk + k)) (kdX I 11 12 (wk + k)) Lk nk = (L3.map (gr (ruX I 13).2.2.2.1), n3, fun w s => T3 w s + grT (tnX I).1 L3 w s, e3) → aW G YX1_pass (ab_rm 3 0 0) Z 0 0 (104, I3, F3) 64 [some (ab_r 44), some (ab_i (n : Int)), some (ab_r 13), some (ab_i (k : Int)), none, none] [] := by
        intro I3 F3 L3 n3 T3 e3 hC3 hD3 hn3 hw3
        have h43 := hD3.2.2.1
        have he3 : ∀ i b, i ≤ 13 + 3 → I3 i b = I i b := fun i b hi => (h43 i b (by omega)).trans (he i b hi)
        have he23 : ∀ i b, i ≤ 12 → I3 i b = I i b := fun i b hi => (h43 i b (by omega)).trans (he2 i b hi)
        have hF3 : ab_FB F3 := fun a b e1 e2 => (hD3.2.2.2 a b (by omega)).trans (hF1 a b e1 e2)
        have hT3 : TB I3 := hT.of he23
        have hR3 : RB 13 I3 := hR.of he3
        have hwe3 : I3 44 3 = wk + k := hC3.2.1.2.1
        refine aw_aload_n dX1_pass_64 rfl (by decide) ?_
        refine aw_aload_n dX1_pass_65 rfl (by decide) ?_
        refine aw_geti dX1_pass_66 fX1_81 ⟨Nat.le_of_ble_eq_true rfl, Nat.le_of_ble_eq_true rfl⟩ rfl rfl ?_
        refine aw_callV (as := [ab_i (I3 13 3)]) (rest := []) dX1_pass_69 (ct_X1_growOlder_44 G I3 F3 hF3 L3 (wk + k) n3 (2 * (wk + k) + 1) hC3 hT3.1 (I3 13 3) hR3.2.2.2.1 (by omega) (by omega)) ⟨Nat.le_of_ble_eq_true rfl, Nat.le_of_ble_eq_true rfl⟩ rfl kc1 rfl kX1_growOlder iX1_growOlder eX1_growOlder lX1_86 rfl (Nat.le_of_ble_eq_true rfl) (by decide) (by decide) (by decide) (by decide) ?_
        rintro _ _ ⟨rfl, I4, rfl, hC4, hD4⟩
        have hwe4 : I4 44 3 = (wk + k) := hC4.2.1.2.1
        refine aw_aload_n dX1_pass_72 rfl (by decide) ?_
        refine aw_dup dX1_pass_73 rfl ?_
        refine aw_getiv (v := (wk + k)) dX1_pass_74 fX1_21 ⟨Nat.le_of_ble_eq_true rfl, Nat.le_of_ble_eq_true rfl⟩ rfl rfl hwe4 ?_
        refine aw_iconst dX1_pass_77 ?_
        refine aw_iadd dX1_pass_78 ?_
        refine aw_puti dX1_pass_79 fX1_21 ⟨Nat.le_of_ble_eq_true rfl, Nat.le_of_ble_eq_true rfl⟩ rfl rfl ?_
        refine aw_iinc (ls' := [some (ab_r 44), some (ab_i (n : Int)), some (ab_r 13), some (ab_i ((k : Int) + 1)), none, none]) dX1_pass_82 (by decide) rfl rfl ?_
        refine aw_goto (tgt := 2) dX1_pass_85 rfl ?_
        have hru : I3 13 3 = (ruX I 13).2.2.2.1 := he3 13 3 (by omega)
        have hnd : n4 (I3 8) = (tnX I).1 := by show n4 (I3 8) = n4 (I 8); rw [show I3 8 = I 8 from funext fun b => he23 8 b (by omega)]
        rw [hru] at hC4
        rw [hnd] at hD4
        have hC5 : CS 44 (ab_u I4 44 3 (wk + k + 1)) F3 (L3.map (gr (ruX I 13).2.2.2.1)) (wk + ((k + 1 : Nat) : Int)) n3 (2 * (wk + ((k + 1 : Nat) : Int))) := CS_week hC4 (by omega) (by omega)
        have hD5 := ((hD1.trans hD3).trans hD4).trans (CD_week (c := 44) (I := I4) (F := F3) (v := wk + k + 1))
        rw [hw3] at hws
        dsimp only at hws
        have ih9 := ih (k + 1) _ _ _ _ _ _ (by omega) hC5 hD5 hws.1 (by omega) (by omega) ?_
        · exact ih9
        · rw [hfin]
          simp only [wkN, hw3]
          rw [show wk + (k : Int) + 1 = wk + ((k + 1 : Nat) : Int) by omega]
          refine Prod.ext rfl (Prod.ext rfl (Prod.ext ?_ ?_))
          · funext w s; simp only []; omega
          · simp only []; omega
      have s36 : ∀ (I2 : Nat → Nat → Int) (F2 : Nat → Nat → Nat), CS 44 I2 F2 oo.1 (wk + k) oo.2.2.1 (2 * (wk + k) + 1) → CD 44 I1 F1 I2 F2 oo.2.1 (if oo.2.2.2 = true then 0 else 1) → aW G YX1_pass (ab_rm 3 0 0) Z 0 0 (104, I2, F2) 36 [some (ab_r 44), some (ab_i (n : Int)), some (ab_r 13), some (ab_i (k : Int)), none, none] [] := by
        intro I2 F2 hC2 hD2
        have h42 := hD2.2.2.1
        have he22 : ∀ i b, i ≤ 12 → I2 i b = I i b := fun i b hi => (h42 i b (by omega)).trans (he2 i b hi)
        have hF2 : ab_FB F2 := fun a b e1 e2 => (hD2.2.2.2 a b (by omega)).trans (hF1 a b e1 e2)
        have hT2 : TB I2 := hT.of he22
        have hri2 := hT2.2.2.2.2.1
        have hwe2 : I2 44 3 = wk + k := hC2.2.1.2.1
        refine aw_aload_n dX1_pass_36 rfl (by decide) ?_
        refine aw_getrv (r := 2) dX1_pass_37 fX1_35 ⟨Nat.le_of_ble_eq_true rfl, Nat.le_of_ble_eq_true rfl⟩ rfl rfl (hF2.at 44 0 2 rfl rfl rfl) ?_
        refine aw_getrv (r := 11) dX1_pass_40 fX1_74 ⟨Nat.le_of_ble_eq_true rfl, Nat.le_of_ble_eq_true rfl⟩ rfl rfl (hF2.at 2 3 11 rfl rfl rfl) ?_
        refine aw_aload_n dX1_pass_43 rfl (by decide) ?_
        refine aw_getiv (v := (wk + k)) dX1_pass_44 fX1_21 ⟨Nat.le_of_ble_eq_true rfl, Nat.le_of_ble_eq_true rfl⟩ rfl rfl hwe2 ?_
        refine aw_callV (as := [ab_i (wk + k)]) (rest := []) dX1_pass_47 (ct_X6_inWeek_11 G I2 F2 hF2 (wk + k) hri2.1 hri2.2 (by omega) (by omega)) ⟨Nat.le_of_ble_eq_true rfl, Nat.le_of_ble_eq_true rfl⟩ rfl kc6 rfl kX6_inWeek iX6_inWeek eX6_inWeek lX1_64 rfl (Nat.le_of_ble_eq_true rfl) (by decide) (by decide) (by decide) (by decide) ?_
        rintro _ _ ⟨rfl, rfl⟩
        rw [show (if I2 11 1 = 0 then (-1 : Int) else I2 12 ((wk + k) % I2 11 1).toNat) = kdX I 11 12 (wk + k) from kdX_congr he22 (by omega) (by omega) _]
        refine aw_istore (ls' := [some (ab_r 44), some (ab_i (n : Int)), some (ab_r 13), some (ab_i (k : Int)), none, some (ab_i (kdX I 11 12 (wk + k)))]) dX1_pass_50 (by decide) rfl ?_
        refine aw_iload dX1_pass_52 rfl ?_
        refine aw_iconst dX1_pass_54 ?_
        refine aw_icmp_eq (tgt := 64) dX1_pass_55 rfl (by first | assumption | (unfold ab_In at *; omega)) (by first | assumption | (unfold ab_In at *; omega)) (fun c_55 => ?_) (fun c_55 => ?_)
        · refine aw_le (ls' := [some (ab_r 44), some (ab_i (n : Int)), some (ab_r 13), some (ab_i (k : Int)), none, none]) (ab_le_c (ab_le_c (ab_le_c (ab_le_c (ab_le_n (ab_le_n ab_le_nil)))))) (s64 I2 F2 oo.1 oo.2.2.1 oo.2.1 (if oo.2.2.2 = true then 0 else 1) hC2 hD2 (by omega) ?_)
          unfold wkS; rw [hoe, c_55]; simp
        · obtain ⟨sv, hsv⟩ : ∃ sv : Nat, (sv : Int) = kdX I 11 12 (wk + k) := ⟨(kdX I 11 12 (wk + k)).toNat, by omega⟩
          rw [← hsv]
          refine aw_aload_n dX1_pass_58 rfl (by decide) ?_
          refine aw_iload dX1_pass_59 rfl ?_
          refine aw_callV (as := [ab_i (sv : Int)]) (rest := []) dX1_pass_61 (ct_X1_arrive_44 G I2 F2 hF2 oo.1 (wk + k) oo.2.2.1 (2 * (wk + k) + 1) hC2 sv (by omega) (by omega) (by omega)) ⟨Nat.le_of_ble_eq_true rfl, Nat.le_of_ble_eq_true rfl⟩ rfl kc1 rfl kX1_arrive iX1_arrive eX1_arrive lX1_77 rfl (Nat.le_of_ble_eq_true rfl) (by decide) (by decide) (by decide) (by decide) ?_
          rintro _ _ ⟨rfl, I3, rfl, hC3, hD3⟩
          refine aw_le (ls' := [some (ab_r 44), some (ab_i (n : Int)), some (ab_r 13), some (ab_i (k : Int)), none, none]) (ab_le_c (ab_le_c (ab_le_c (ab_le_c (ab_le_n (ab_le_n ab_le_nil)))))) (s64 I3 F2 (arL oo.1 oo.2.2.1 sv) (arN oo.1 oo.2.2.1) (fun w s => oo.2.1 w s + arT oo.1 sv w s) (if oo.2.2.2 = true then 0 else 1) hC3 (by have := hD2.trans hD3; rw [Int.add_zero] at this; exact this) (by have := (ar_nq (s := sv) hos.1).2.2; omega) ?_)
          unfold wkS; rw [hoe, ← hsv]
          have hm : ¬ (sv : Int) = -1 := by omega
          simp [hm]
      refine aw_iload_n dX1_pass_2 rfl ?_
      refine aw_iload_n dX1_pass_3 rfl ?_
      refine aw_icmp_ge (tgt := 88) dX1_pass_4 rfl (by first | assumption | (unfold ab_In at *; omega)) (by first | assumption | (unfold ab_In at *; omega)) (fun c_4 => ?_) (fun c_4 => ?_)
      · exfalso; omega
      · refine aw_aload_n dX1_pass_7 rfl (by decide) ?_
        refine aw_getrv (r := 2) dX1_pass_8 fX1_35 ⟨Nat.le_of_ble_eq_true rfl, Nat.le_of_ble_eq_true rfl⟩ rfl rfl (hF1.at 44 0 2 rfl rfl rfl) ?_
        refine aw_getrv (r := 9) dX1_pass_11 fX1_58 ⟨Nat.le_of_ble_eq_true rfl, Nat.le_of_ble_eq_true rfl⟩ rfl rfl (hF1.at 2 2 9 rfl rfl rfl) ?_
        refine aw_aload_n dX1_pass_14 rfl (by decide) ?_
        refine aw_getiv (v := (wk + k)) dX1_pass_15 fX1_21 ⟨Nat.le_of_ble_eq_true rfl, Nat.le_of_ble_eq_true rfl⟩ rfl rfl hwe ?_
        refine aw_callV (as := [ab_i (wk + k)]) (rest := []) dX1_pass_18 (ct_X6_inWeek_9 G I1 F1 hF1 (wk + k) hri.1 hri.2 (by omega) (by omega)) ⟨Nat.le_of_ble_eq_true rfl, Nat.le_of_ble_eq_true rfl⟩ rfl kc6 rfl kX6_inWeek iX6_inWeek eX6_inWeek lX1_64 rfl (Nat.le_of_ble_eq_true rfl) (by decide) (by decide) (by decide) (by decide) ?_
        rintro _ _ ⟨rfl, rfl⟩
        rw [show (if I1 9 1 = 0 then (-1 : Int) else I1 10 ((wk + k) % I1 9 1).toNat) = kdX I 9 10 (wk + k) from kdX_congr he2 (by omega) (by omega) _]
        refine aw_istore (ls' := [some (ab_r 44), some (ab_i (n : Int)), some (ab_r 13), some (ab_i (k : Int)), some (ab_i (kdX I 9 10 (wk + k))), none]) dX1_pass_21 (by decide) rfl ?_
        refine aw_iload dX1_pass_23 rfl ?_
        refine aw_iconst dX1_pass_25 ?_
        refine aw_icmp_eq (tgt := 36) dX1_pass_26 rfl (by first | assumption | (unfold ab_In at *; omega)) (by first | assumption | (unfold ab_In at *; omega)) (fun c_26 => ?_) (fun c_26 => ?_)
        · have hoo : oo = (Lk, fun _ _ => 0, nk, true) := by rw [← hoe]; unfold ofS; rw [if_pos c_26]
          refine aw_le (ls' := [some (ab_r 44), some (ab_i (n : Int)), some (ab_r 13), some (ab_i (k : Int)), none, none]) (ab_le_c (ab_le_c (ab_le_c (ab_le_c (ab_le_n (ab_le_n ab_le_nil)))))) (s36 I1 F1 ?_ ?_)
          · rw [hoo]; exact hC1.up (by omega)
          · rw [hoo]; exact CD.rf
        · obtain ⟨kv, hkv⟩ : ∃ kv : Nat, (kv : Int) = kdX I 9 10 (wk + k) := ⟨(kdX I 9 10 (wk + k)).toNat, by omega⟩
          rw [← hkv]
          refine aw_aload_n dX1_pass_29 rfl (by decide) ?_
          refine aw_iload dX1_pass_30 rfl ?_
          refine aw_aload_n dX1_pass_32 rfl (by decide) ?_
          refine aw_callV (as := [ab_i (kv : Int), ab_r 13]) (rest := []) dX1_pass_33 (ct_X1_offer_44_13 G I1 F1 hF1 (2 * (wk + k)) hC1.2.2.2.2.2.2 (by omega) (by rw [hC1.2.1.2.2]; omega) hT1 hR1 Lk.length kv (by omega) hC1.2.1.1 (fun i hi => by rw [hC1.2.1.2.2]; exact hC1.2.2.2.2.2.1 _ (List.mem_of_getElem? (hC1.2.2.2.2.1 i hi))) hLk hC1.2.2.1 (sd_inj _ hC1.2.2.2.1 Lk.length hLk)) ⟨Nat.le_of_ble_eq_true rfl, Nat.le_of_ble_eq_true rfl⟩ rfl kc1 rfl kX1_offer iX1_offer eX1_offer lX1_70 rfl (Nat.le_of_ble_eq_true rfl) (by decide) (by decide) (by decide) (by decide) ?_
          rintro _ _ ⟨rfl, I2, F2, rfl, hOE⟩
          have h9 := hOE.cs
          have hL1 : Lk = (List.range Lk.length).map (fun i => tup I1 (F1 45 i)) := hC1.tup
          have hru : ruX I1 13 = (ruX I 13) := ruX_congr he
          have htn : tnX I1 = (tnX I) := tnX_congr he2
          have hsr := sd_srt (ord := I1 13 0) (nd := n4 (I1 8)) (t := tup I1) (f := F1 45) (N := Lk.length) (by rw [← hL1]; exact hq1.nm)
          rw [← hL1] at hsr
          have e1 : (fun i => tup I1 (rw_ F1 45 (sd (fun a b => ah (I1 13 0) (n4 (I1 8)) (tup I1 a) (tup I1 b)) (F1 45) Lk.length) 45 i)) = (fun i => tup I1 (sd (fun a b => ah (I1 13 0) (n4 (I1 8)) (tup I1 a) (tup I1 b)) (F1 45) Lk.length i)) := funext fun i => by rw [rw_s]
          rw [e1, hsr, hru, htn, show I1 13 0 = (ruX I 13).1 from congrArg Prod.fst hru, show n4 (I1 8) = (tnX I).1 from congrArg Prod.fst htn, show I1 44 4 = nk from hC1.2.1.2.2] at h9
          have hoo : (srt (ruX I 13).1 (tnX I).1 Lk).foldl (of_step (ruX I 13) (tnX I) kv) ([], fun _ _ => 0, nk, false) = oo := by rw [← hoe]; unfold ofS; rw [if_neg (by omega), ← hkv]; rfl
          rw [hoo, hwe] at h9
          refine aw_le (ls' := [some (ab_r 44), some (ab_i (n : Int)), some (ab_r 13), some (ab_i (k : Int)), none, none]) (ab_le_c (ab_le_c (ab_le_c (ab_le_c (ab_le_n (ab_le_n ab_le_nil)))))) (s36 I2 F2 h9.1 ?_)
          exact ⟨h9.2.1, h9.2.2.1, h9.2.2.2.1, fun a b hab => (h9.2.2.2.2 a b hab).trans (rw_n hab)⟩
  refine aw_iconst dX1_pass_0 ?_
  refine aw_istore_n (ls' := [some (ab_r 44), some (ab_i (n : Int)), some (ab_r 13), some (ab_i 0), none, none]) dX1_pass_1 (by decide) rfl ?_
  refine loop n 0 I F L nx (fun _ _ => 0) 0 (by omega) (by simpa using hC) CD.rf hq hnx.1 hnx.2 ?_
  rw [← hfe]
  simp
set_option maxHeartbeats 4000000 in
set_option maxRecDepth 100000 in
theorem ct_X1_pass_44_17 (G : ab_G) (I : Nat → Nat → Int) (F : Nat → Nat → Nat) (hF : ab_FB F) (L : List P5) (wk nx : Int) (n : Nat) (hC : CS 44 I F L wk nx (2 * wk)) (hq : Nq L nx) (hwk : 0 ≤ wk ∧ wk + n ≤ 2900) (hnx : 0 ≤ nx ∧ nx + 13 * n ≤ 90000) (hT : TB I) (hR : RB 17 I) : Ct G 3 0 0 YX1_pass [ab_r 44, ab_i (n : Int), ab_r 17] (104, I, F) (fun q h => q = none ∧ ∃ I2 F2, h = (104, I2, F2) ∧ CS 44 I2 F2 (wkN (ruX I 17) (tnX I) (kdX I 9 10) (kdX I 11 12) n wk L nx).1 (wk + n) (wkN (ruX I 17) (tnX I) (kdX I 9 10) (kdX I 11 12) n wk L nx).2.1 (2 * (wk + n)) ∧ CD 44 I F I2 F2 (wkN (ruX I 17) (tnX I) (kdX I 9 10) (kdX I 11 12) n wk L nx).2.2.1 (wkN (ruX I 17) (tnX I) (kdX I 9 10) (kdX I 11 12) n wk L nx).2.2.2 ∧ Nq (wkN (ruX I 17) (tnX I) (kdX I 9 10) (kdX I 11 12) n wk L nx).1 (wkN (ruX I 17) (tnX I) (kdX I 9 10) (kdX I 11 12) n wk L nx).2.1) := by
  refine Ct.ofW kX1_pass (ls := [some (ab_r 44), some (ab_i (n : Int)), some (ab_r 17), none, none, none]) (Nat.le_of_ble_eq_true rfl) rfl ?_
  generalize hfe : (wkN (ruX I 17) (tnX I) (kdX I 9 10) (kdX I 11 12) n wk L nx) = fin
  generalize hZ : ab_Z G (fun q h => q = none ∧ ∃ I2 F2, h = (104, I2, F2) ∧ CS 44 I2 F2 fin.1 (wk + n) fin.2.1 (2 * (wk + n)) ∧ CD 44 I F I2 F2 fin.2.2.1 fin.2.2.2 ∧ Nq fin.1 fin.2.1) 0 0 = Z
  have loop : ∀ (d k : Nat) (I1 : Nat → Nat → Int) (F1 : Nat → Nat → Nat) (Lk : List P5) (nk : Int) (Tk : Nat → Nat → Int) (ek : Int), k + d = n → CS 44 I1 F1 Lk (wk + k) nk (2 * (wk + k)) → CD 44 I F I1 F1 Tk ek → Nq Lk nk → 0 ≤ nk → nk + 13 * d ≤ 90000 → fin = ((wkN (ruX I 17) (tnX I) (kdX I 9 10) (kdX I 11 12) d (wk + k) Lk nk).1, (wkN (ruX I 17) (tnX I) (kdX I 9 10) (kdX I 11 12) d (wk + k) Lk nk).2.1, fun w s => Tk w s + (wkN (ruX I 17) (tnX I) (kdX I 9 10) (kdX I 11 12) d (wk + k) Lk nk).2.2.1 w s, ek + (wkN (ruX I 17) (tnX I) (kdX I 9 10) (kdX I 11 12) d (wk + k) Lk nk).2.2.2) → aW G YX1_pass (ab_rm 3 0 0) Z 0 0 (104, I1, F1) 2 [some (ab_r 44), some (ab_i (n : Int)), some (ab_r 17), some (ab_i (k : Int)), none, none] [] := by
    intro d
    induction d with
    | zero =>
      intro k I1 F1 Lk nk Tk ek hk hC1 hD1 hq1 hn1 hn2 hfin
      have hkn : k = n := by omega
      subst hkn
      refine aw_iload_n dX1_pass_2 rfl ?_
      refine aw_iload_n dX1_pass_3 rfl ?_
      refine aw_icmp_ge (tgt := 88) dX1_pass_4 rfl (by first | assumption | (unfold ab_In at *; omega)) (by first | assumption | (unfold ab_In at *; omega)) (fun c_4 => ?_) (fun c_4 => ?_)
      · rw [← hZ]
        refine aw_return dX1_pass_88 rfl ?_
        refine ⟨rfl, _, _, rfl, ?_⟩
        rw [hfin]
        refine ⟨hC1, ?_, hq1⟩
        have hD9 := hD1
        simp only [wkN, Int.add_zero]
        exact hD1
      · exfalso; omega
    | succ d ih =>
      intro k I1 F1 Lk nk Tk ek hk hC1 hD1 hq1 hn1 hn2 hfin
      have h4 := hD1.2.2.1
      have hFr := hD1.2.2.2
      have hLk := hC1.1
      have hwe : I1 44 3 = wk + k := hC1.2.1.2.1
      have he : ∀ i b, i ≤ 17 + 3 → I1 i b = I i b := fun i b hi => h4 i b (by omega)
      have he2 : ∀ i b, i ≤ 12 → I1 i b = I i b := fun i b hi => h4 i b (by omega)
      have hF1 : ab_FB F1 := fun a b e1 e2 => (hFr a b (by omega)).trans (hF a b e1 e2)
      have hT1 : TB I1 := hT.of he2
      have hR1 : RB 17 I1 := hR.of he
      have hkd := kd_bd hT (wk := wk + k) (by omega)
      have hri := hT1.2.2.1
      have hrj := hT1.2.2.2.2.1
      have hws := wkS_nq (ru := (ruX I 17)) (tn := (tnX I)) (kd := kdX I 9 10 (wk + k)) (js := kdX I 11 12 (wk + k)) hq1
      have hos := ofS_nq (ru := (ruX I 17)) (tn := (tnX I)) (kd := kdX I 9 10 (wk + k)) hq1
      generalize hoe : ofS (ruX I 17) (tnX I) (kdX I 9 10 (wk + k)) Lk nk = oo at hos
      have s64 : ∀ (I3 : Nat → Nat → Int) (F3 : Nat → Nat → Nat) (L3 : List P5) (n3 : Int) (T3 : Nat → Nat → Int) (e3 : Int), CS 44 I3 F3 L3 (wk + k) n3 (2 * (wk + k) + 1) → CD 44 I1 F1 I3 F3 T3 e3 → n3 ≤ 100000 → wkS (ruX I 17) (tnX I) (kdX I 9 10 (wk + k)) (kdX I 11 12 (wk + k)) Lk nk = (L3.map (gr (ruX I 17).2.2.2.1), n3, fun w s => T3 w s + grT (tnX I).1 L3 w s, e3) → aW G YX1_pass (ab_rm 3 0 0) Z 0 0 (104, I3, F3) 64 [some (ab_r 44), some (ab_i (n : Int)), some (ab_r 17), some (ab_i (k : Int)), none, none] [] := by
        intro I3 F3 L3 n3 T3 e3 hC3 hD3 hn3 hw3
        have h43 := hD3.2.2.1
        have he3 : ∀ i b, i ≤ 17 + 3 → I3 i b = I i b := fun i b hi => (h43 i b (by omega)).trans (he i b hi)
        have he23 : ∀ i b, i ≤ 12 → I3 i b = I i b := fun i b hi => (h43 i b (by omega)).trans (he2 i b hi)
        have hF3 : ab_FB F3 := fun a b e1 e2 => (hD3.2.2.2 a b (by omega)).trans (hF1 a b e1 e2)
        have hT3 : TB I3 := hT.of he23
        have hR3 : RB 17 I3 := hR.of he3
        have hwe3 : I3 44 3 = wk + k := hC3.2.1.2.1
        refine aw_aload_n dX1_pass_64 rfl (by decide) ?_
        refine aw_aload_n dX1_pass_65 rfl (by decide) ?_
        refine aw_geti dX1_pass_66 fX1_81 ⟨Nat.le_of_ble_eq_true rfl, Nat.le_of_ble_eq_true rfl⟩ rfl rfl ?_
        refine aw_callV (as := [ab_i (I3 17 3)]) (rest := []) dX1_pass_69 (ct_X1_growOlder_44 G I3 F3 hF3 L3 (wk + k) n3 (2 * (wk + k) + 1) hC3 hT3.1 (I3 17 3) hR3.2.2.2.1 (by omega) (by omega)) ⟨Nat.le_of_ble_eq_true rfl, Nat.le_of_ble_eq_true rfl⟩ rfl kc1 rfl kX1_growOlder iX1_growOlder eX1_growOlder lX1_86 rfl (Nat.le_of_ble_eq_true rfl) (by decide) (by decide) (by decide) (by decide) ?_
        rintro _ _ ⟨rfl, I4, rfl, hC4, hD4⟩
        have hwe4 : I4 44 3 = (wk + k) := hC4.2.1.2.1
        refine aw_aload_n dX1_pass_72 rfl (by decide) ?_
        refine aw_dup dX1_pass_73 rfl ?_
        refine aw_getiv (v := (wk + k)) dX1_pass_74 fX1_21 ⟨Nat.le_of_ble_eq_true rfl, Nat.le_of_ble_eq_true rfl⟩ rfl rfl hwe4 ?_
        refine aw_iconst dX1_pass_77 ?_
        refine aw_iadd dX1_pass_78 ?_
        refine aw_puti dX1_pass_79 fX1_21 ⟨Nat.le_of_ble_eq_true rfl, Nat.le_of_ble_eq_true rfl⟩ rfl rfl ?_
        refine aw_iinc (ls' := [some (ab_r 44), some (ab_i (n : Int)), some (ab_r 17), some (ab_i ((k : Int) + 1)), none, none]) dX1_pass_82 (by decide) rfl rfl ?_
        refine aw_goto (tgt := 2) dX1_pass_85 rfl ?_
        have hru : I3 17 3 = (ruX I 17).2.2.2.1 := he3 17 3 (by omega)
        have hnd : n4 (I3 8) = (tnX I).1 := by show n4 (I3 8) = n4 (I 8); rw [show I3 8 = I 8 from funext fun b => he23 8 b (by omega)]
        rw [hru] at hC4
        rw [hnd] at hD4
        have hC5 : CS 44 (ab_u I4 44 3 (wk + k + 1)) F3 (L3.map (gr (ruX I 17).2.2.2.1)) (wk + ((k + 1 : Nat) : Int)) n3 (2 * (wk + ((k + 1 : Nat) : Int))) := CS_week hC4 (by omega) (by omega)
        have hD5 := ((hD1.trans hD3).trans hD4).trans (CD_week (c := 44) (I := I4) (F := F3) (v := wk + k + 1))
        rw [hw3] at hws
        dsimp only at hws
        have ih9 := ih (k + 1) _ _ _ _ _ _ (by omega) hC5 hD5 hws.1 (by omega) (by omega) ?_
        · exact ih9
        · rw [hfin]
          simp only [wkN, hw3]
          rw [show wk + (k : Int) + 1 = wk + ((k + 1 : Nat) : Int) by omega]
          refine Prod.ext rfl (Prod.ext rfl (Prod.ext ?_ ?_))
          · funext w s; simp only []; omega
          · simp only []; omega
      have s36 : ∀ (I2 : Nat → Nat → Int) (F2 : Nat → Nat → Nat), CS 44 I2 F2 oo.1 (wk + k) oo.2.2.1 (2 * (wk + k) + 1) → CD 44 I1 F1 I2 F2 oo.2.1 (if oo.2.2.2 = true then 0 else 1) → aW G YX1_pass (ab_rm 3 0 0) Z 0 0 (104, I2, F2) 36 [some (ab_r 44), some (ab_i (n : Int)), some (ab_r 17), some (ab_i (k : Int)), none, none] [] := by
        intro I2 F2 hC2 hD2
        have h42 := hD2.2.2.1
        have he22 : ∀ i b, i ≤ 12 → I2 i b = I i b := fun i b hi => (h42 i b (by omega)).trans (he2 i b hi)
        have hF2 : ab_FB F2 := fun a b e1 e2 => (hD2.2.2.2 a b (by omega)).trans (hF1 a b e1 e2)
        have hT2 : TB I2 := hT.of he22
        have hri2 := hT2.2.2.2.2.1
        have hwe2 : I2 44 3 = wk + k := hC2.2.1.2.1
        refine aw_aload_n dX1_pass_36 rfl (by decide) ?_
        refine aw_getrv (r := 2) dX1_pass_37 fX1_35 ⟨Nat.le_of_ble_eq_true rfl, Nat.le_of_ble_eq_true rfl⟩ rfl rfl (hF2.at 44 0 2 rfl rfl rfl) ?_
        refine aw_getrv (r := 11) dX1_pass_40 fX1_74 ⟨Nat.le_of_ble_eq_true rfl, Nat.le_of_ble_eq_true rfl⟩ rfl rfl (hF2.at 2 3 11 rfl rfl rfl) ?_
        refine aw_aload_n dX1_pass_43 rfl (by decide) ?_
        refine aw_getiv (v := (wk + k)) dX1_pass_44 fX1_21 ⟨Nat.le_of_ble_eq_true rfl, Nat.le_of_ble_eq_true rfl⟩ rfl rfl hwe2 ?_
        refine aw_callV (as := [ab_i (wk + k)]) (rest := []) dX1_pass_47 (ct_X6_inWeek_11 G I2 F2 hF2 (wk + k) hri2.1 hri2.2 (by omega) (by omega)) ⟨Nat.le_of_ble_eq_true rfl, Nat.le_of_ble_eq_true rfl⟩ rfl kc6 rfl kX6_inWeek iX6_inWeek eX6_inWeek lX1_64 rfl (Nat.le_of_ble_eq_true rfl) (by decide) (by decide) (by decide) (by decide) ?_
        rintro _ _ ⟨rfl, rfl⟩
        rw [show (if I2 11 1 = 0 then (-1 : Int) else I2 12 ((wk + k) % I2 11 1).toNat) = kdX I 11 12 (wk + k) from kdX_congr he22 (by omega) (by omega) _]
        refine aw_istore (ls' := [some (ab_r 44), some (ab_i (n : Int)), some (ab_r 17), some (ab_i (k : Int)), none, some (ab_i (kdX I 11 12 (wk + k)))]) dX1_pass_50 (by decide) rfl ?_
        refine aw_iload dX1_pass_52 rfl ?_
        refine aw_iconst dX1_pass_54 ?_
        refine aw_icmp_eq (tgt := 64) dX1_pass_55 rfl (by first | assumption | (unfold ab_In at *; omega)) (by first | assumption | (unfold ab_In at *; omega)) (fun c_55 => ?_) (fun c_55 => ?_)
        · refine aw_le (ls' := [some (ab_r 44), some (ab_i (n : Int)), some (ab_r 17), some (ab_i (k : Int)), none, none]) (ab_le_c (ab_le_c (ab_le_c (ab_le_c (ab_le_n (ab_le_n ab_le_nil)))))) (s64 I2 F2 oo.1 oo.2.2.1 oo.2.1 (if oo.2.2.2 = true then 0 else 1) hC2 hD2 (by omega) ?_)
          unfold wkS; rw [hoe, c_55]; simp
        · obtain ⟨sv, hsv⟩ : ∃ sv : Nat, (sv : Int) = kdX I 11 12 (wk + k) := ⟨(kdX I 11 12 (wk + k)).toNat, by omega⟩
          rw [← hsv]
          refine aw_aload_n dX1_pass_58 rfl (by decide) ?_
          refine aw_iload dX1_pass_59 rfl ?_
          refine aw_callV (as := [ab_i (sv : Int)]) (rest := []) dX1_pass_61 (ct_X1_arrive_44 G I2 F2 hF2 oo.1 (wk + k) oo.2.2.1 (2 * (wk + k) + 1) hC2 sv (by omega) (by omega) (by omega)) ⟨Nat.le_of_ble_eq_true rfl, Nat.le_of_ble_eq_true rfl⟩ rfl kc1 rfl kX1_arrive iX1_arrive eX1_arrive lX1_77 rfl (Nat.le_of_ble_eq_true rfl) (by decide) (by decide) (by decide) (by decide) ?_
          rintro _ _ ⟨rfl, I3, rfl, hC3, hD3⟩
          refine aw_le (ls' := [some (ab_r 44), some (ab_i (n : Int)), some (ab_r 17), some (ab_i (k : Int)), none, none]) (ab_le_c (ab_le_c (ab_le_c (ab_le_c (ab_le_n (ab_le_n ab_le_nil)))))) (s64 I3 F2 (arL oo.1 oo.2.2.1 sv) (arN oo.1 oo.2.2.1) (fun w s => oo.2.1 w s + arT oo.1 sv w s) (if oo.2.2.2 = true then 0 else 1) hC3 (by have := hD2.trans hD3; rw [Int.add_zero] at this; exact this) (by have := (ar_nq (s := sv) hos.1).2.2; omega) ?_)
          unfold wkS; rw [hoe, ← hsv]
          have hm : ¬ (sv : Int) = -1 := by omega
          simp [hm]
      refine aw_iload_n dX1_pass_2 rfl ?_
      refine aw_iload_n dX1_pass_3 rfl ?_
      refine aw_icmp_ge (tgt := 88) dX1_pass_4 rfl (by first | assumption | (unfold ab_In at *; omega)) (by first | assumption | (unfold ab_In at *; omega)) (fun c_4 => ?_) (fun c_4 => ?_)
      · exfalso; omega
      · refine aw_aload_n dX1_pass_7 rfl (by decide) ?_
        refine aw_getrv (r := 2) dX1_pass_8 fX1_35 ⟨Nat.le_of_ble_eq_true rfl, Nat.le_of_ble_eq_true rfl⟩ rfl rfl (hF1.at 44 0 2 rfl rfl rfl) ?_
        refine aw_getrv (r := 9) dX1_pass_11 fX1_58 ⟨Nat.le_of_ble_eq_true rfl, Nat.le_of_ble_eq_true rfl⟩ rfl rfl (hF1.at 2 2 9 rfl rfl rfl) ?_
        refine aw_aload_n dX1_pass_14 rfl (by decide) ?_
        refine aw_getiv (v := (wk + k)) dX1_pass_15 fX1_21 ⟨Nat.le_of_ble_eq_true rfl, Nat.le_of_ble_eq_true rfl⟩ rfl rfl hwe ?_
        refine aw_callV (as := [ab_i (wk + k)]) (rest := []) dX1_pass_18 (ct_X6_inWeek_9 G I1 F1 hF1 (wk + k) hri.1 hri.2 (by omega) (by omega)) ⟨Nat.le_of_ble_eq_true rfl, Nat.le_of_ble_eq_true rfl⟩ rfl kc6 rfl kX6_inWeek iX6_inWeek eX6_inWeek lX1_64 rfl (Nat.le_of_ble_eq_true rfl) (by decide) (by decide) (by decide) (by decide) ?_
        rintro _ _ ⟨rfl, rfl⟩
        rw [show (if I1 9 1 = 0 then (-1 : Int) else I1 10 ((wk + k) % I1 9 1).toNat) = kdX I 9 10 (wk + k) from kdX_congr he2 (by omega) (by omega) _]
        refine aw_istore (ls' := [some (ab_r 44), some (ab_i (n : Int)), some (ab_r 17), some (ab_i (k : Int)), some (ab_i (kdX I 9 10 (wk + k))), none]) dX1_pass_21 (by decide) rfl ?_
        refine aw_iload dX1_pass_23 rfl ?_
        refine aw_iconst dX1_pass_25 ?_
        refine aw_icmp_eq (tgt := 36) dX1_pass_26 rfl (by first | assumption | (unfold ab_In at *; omega)) (by first | assumption | (unfold ab_In at *; omega)) (fun c_26 => ?_) (fun c_26 => ?_)
        · have hoo : oo = (Lk, fun _ _ => 0, nk, true) := by rw [← hoe]; unfold ofS; rw [if_pos c_26]
          refine aw_le (ls' := [some (ab_r 44), some (ab_i (n : Int)), some (ab_r 17), some (ab_i (k : Int)), none, none]) (ab_le_c (ab_le_c (ab_le_c (ab_le_c (ab_le_n (ab_le_n ab_le_nil)))))) (s36 I1 F1 ?_ ?_)
          · rw [hoo]; exact hC1.up (by omega)
          · rw [hoo]; exact CD.rf
        · obtain ⟨kv, hkv⟩ : ∃ kv : Nat, (kv : Int) = kdX I 9 10 (wk + k) := ⟨(kdX I 9 10 (wk + k)).toNat, by omega⟩
          rw [← hkv]
          refine aw_aload_n dX1_pass_29 rfl (by decide) ?_
          refine aw_iload dX1_pass_30 rfl ?_
          refine aw_aload_n dX1_pass_32 rfl (by decide) ?_
          refine aw_callV (as := [ab_i (kv : Int), ab_r 17]) (rest := []) dX1_pass_33 (ct_X1_offer_44_17 G I1 F1 hF1 (2 * (wk + k)) hC1.2.2.2.2.2.2 (by omega) (by rw [hC1.2.1.2.2]; omega) hT1 hR1 Lk.length kv (by omega) hC1.2.1.1 (fun i hi => by rw [hC1.2.1.2.2]; exact hC1.2.2.2.2.2.1 _ (List.mem_of_getElem? (hC1.2.2.2.2.1 i hi))) hLk hC1.2.2.1 (sd_inj _ hC1.2.2.2.1 Lk.length hLk)) ⟨Nat.le_of_ble_eq_true rfl, Nat.le_of_ble_eq_true rfl⟩ rfl kc1 rfl kX1_offer iX1_offer eX1_offer lX1_70 rfl (Nat.le_of_ble_eq_true rfl) (by decide) (by decide) (by decide) (by decide) ?_
          rintro _ _ ⟨rfl, I2, F2, rfl, hOE⟩
          have h9 := hOE.cs
          have hL1 : Lk = (List.range Lk.length).map (fun i => tup I1 (F1 45 i)) := hC1.tup
          have hru : ruX I1 17 = (ruX I 17) := ruX_congr he
          have htn : tnX I1 = (tnX I) := tnX_congr he2
          have hsr := sd_srt (ord := I1 17 0) (nd := n4 (I1 8)) (t := tup I1) (f := F1 45) (N := Lk.length) (by rw [← hL1]; exact hq1.nm)
          rw [← hL1] at hsr
          have e1 : (fun i => tup I1 (rw_ F1 45 (sd (fun a b => ah (I1 17 0) (n4 (I1 8)) (tup I1 a) (tup I1 b)) (F1 45) Lk.length) 45 i)) = (fun i => tup I1 (sd (fun a b => ah (I1 17 0) (n4 (I1 8)) (tup I1 a) (tup I1 b)) (F1 45) Lk.length i)) := funext fun i => by rw [rw_s]
          rw [e1, hsr, hru, htn, show I1 17 0 = (ruX I 17).1 from congrArg Prod.fst hru, show n4 (I1 8) = (tnX I).1 from congrArg Prod.fst htn, show I1 44 4 = nk from hC1.2.1.2.2] at h9
          have hoo : (srt (ruX I 17).1 (tnX I).1 Lk).foldl (of_step (ruX I 17) (tnX I) kv) ([], fun _ _ => 0, nk, false) = oo := by rw [← hoe]; unfold ofS; rw [if_neg (by omega), ← hkv]; rfl
          rw [hoo, hwe] at h9
          refine aw_le (ls' := [some (ab_r 44), some (ab_i (n : Int)), some (ab_r 17), some (ab_i (k : Int)), none, none]) (ab_le_c (ab_le_c (ab_le_c (ab_le_c (ab_le_n (ab_le_n ab_le_nil)))))) (s36 I2 F2 h9.1 ?_)
          exact ⟨h9.2.1, h9.2.2.1, h9.2.2.2.1, fun a b hab => (h9.2.2.2.2 a b hab).trans (rw_n hab)⟩
  refine aw_iconst dX1_pass_0 ?_
  refine aw_istore_n (ls' := [some (ab_r 44), some (ab_i (n : Int)), some (ab_r 17), some (ab_i 0), none, none]) dX1_pass_1 (by decide) rfl ?_
  refine loop n 0 I F L nx (fun _ _ => 0) 0 (by omega) (by simpa using hC) CD.rf hq hnx.1 hnx.2 ?_
  rw [← hfe]
  simp
