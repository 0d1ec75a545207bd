theorem fill4 {I : Nat → Nat → Int} {a : Nat} {v : Int} : ∀ s, s < 4 → ab_u (ab_u (ab_u (ab_u I a 0 v) a 1 v) a 2 v) a 3 v a s = v := by
  intro s hs
  unfold ab_u
  (repeat' split) <;> first | rfl | (exfalso; omega)
/-- while the trial's persons are made like those on the list -/
def BLk (I0 : Nat → Nat → Int) (F : Nat → Nat → Nat) (N j : Nat) (wk nx : Int) (I : Nat → Nat → Int) : Prop :=
  (I 44 2 = N ∧ I 44 3 = wk ∧ I 44 4 = nx ∧ I 44 5 = 0) ∧ (∀ i, i < j → tup I (F 45 i) = tup I0 (F 24 i)) ∧ (∀ p, 53 ≤ p → p ≤ 64 → PB 6000 100000 (tup I p)) ∧ (∀ i b, (i < 44 ∨ 64 < i) → I i b = I0 i b)
theorem BL_0 {I : Nat → Nat → Int} {F : Nat → Nat → Nat} {N : Nat} {wk nx : Int} (h : ∀ p, 53 ≤ p → p ≤ 64 → PB 6000 100000 (tup I p)) : BLk I F N 0 wk nx (ab_u (ab_u (ab_u (ab_u I 44 2 (N : Int)) 44 3 wk) 44 4 nx) 44 5 0) := by
  refine ⟨⟨?_, ?_, ?_, ?_⟩, fun i hi => by omega, fun p h1 h2 => ?_, fun i b hi => ?_⟩
  · rw [ab_u_j (by omega), ab_u_j (by omega), ab_u_j (by omega), ab_u_s]
  · rw [ab_u_j (by omega), ab_u_j (by omega), ab_u_s]
  · rw [ab_u_j (by omega), ab_u_s]
  · rw [ab_u_s]
  · rw [tup_u (by omega), tup_u (by omega), tup_u (by omega), tup_u (by omega)]; exact h p h1 h2
  · rw [ab_u_i (by omega), ab_u_i (by omega), ab_u_i (by omega), ab_u_i (by omega)]
theorem tup_congr {I J : Nat → Nat → Int} {p : Nat} (h : ∀ b, I p b = J p b) : tup I p = tup J p := by unfold tup; rw [h, h, h, h, h]
theorem BL_step {I0 I : Nat → Nat → Int} {F : Nat → Nat → Nat} {N j : Nat} {wk nx : Int} (h : BLk I0 F N j wk nx I) (hj : j < N) (hN : N ≤ 12) (h3 : ∀ i, i < 12 → 53 ≤ F 45 i ∧ F 45 i ≤ 64) (h4 : ∀ a b, a < 12 → b < 12 → F 45 a = F 45 b → a = b) (hq : 32 ≤ F 24 j ∧ F 24 j ≤ 43) (hb : PB 6000 100000 (tup I0 (F 24 j))) :
    BLk I0 F N (j + 1) wk nx (pt I (F 45 j) (tup I (F 24 j))) := by
  obtain ⟨⟨b1, b2, b3, b4⟩, b5, b6, b7⟩ := h
  have hp := h3 j (by omega)
  have e : tup I (F 24 j) = tup I0 (F 24 j) := tup_congr (fun b => b7 _ b (by omega))
  refine ⟨⟨by rw [pt_ne (by omega)]; exact b1, by rw [pt_ne (by omega)]; exact b2, by rw [pt_ne (by omega)]; exact b3, by rw [pt_ne (by omega)]; exact b4⟩, fun i hi => ?_, fun p h1 h2 => ?_, fun i b hi => ?_⟩
  · by_cases hij : i = j
    · subst hij; rw [tup_pt, e]
    · rw [tup_ne (fun q => hij (h4 i j (by omega) (by omega) q))]; exact b5 i (by omega)
  · by_cases hpp : p = F 45 j
    · rw [hpp, tup_pt, e]; exact hb
    · rw [tup_ne hpp]; exact b6 p h1 h2
  · rw [pt_ne (by omega)]; exact b7 i b hi
theorem BL_end {I0 I J1 J2 J3 J4 J5 J6 : Nat → Nat → Int} {F : Nat → Nat → Nat} {L : List P5} {wk nx W : Int} (h : BLk I0 F L.length L.length wk nx I) (hC : CS 23 I0 F L wk nx W) (hW : W ≤ 6000) (hnx : nx ≤ 100000)
    (f1 : ∀ i b, i ≠ 47 → J1 i b = I i b) (z1 : ∀ s, s < 4 → J1 47 s = 0) (f2 : ∀ i b, i ≠ 48 → J2 i b = J1 i b) (z2 : ∀ s, s < 4 → J2 48 s = 0) (f3 : ∀ i b, i ≠ 49 → J3 i b = J2 i b) (z3 : ∀ s, s < 4 → J3 49 s = 0)
    (f4 : ∀ i b, i ≠ 50 → J4 i b = J3 i b) (z4 : ∀ s, s < 4 → J4 50 s = 0) (f5 : ∀ i b, i ≠ 51 → J5 i b = J4 i b) (z5 : ∀ s, s < 4 → J5 51 s = 0) (f6 : ∀ i b, i ≠ 52 → J6 i b = J5 i b) (z6 : ∀ s, s < 4 → J6 52 s = 0) (h3 : ∀ i, i < 12 → 53 ≤ F 45 i ∧ F 45 i ≤ 64) (h4 : ∀ a b, a < 12 → b < 12 → F 45 a = F 45 b → a = b) :
    CS 44 J6 F L wk nx W ∧ (∀ w s, w < 6 → s < 4 → J6 (47 + w) s = 0) ∧ J6 44 5 = 0 ∧ (∀ i b, (i < 44 ∨ 64 < i) → J6 i b = I0 i b) := by
  obtain ⟨⟨b1, b2, b3, b4⟩, b5, b6, b7⟩ := h
  obtain ⟨c1, ⟨c2, c3, c4⟩, c5, c6, c7, c8, c9⟩ := hC
  have hall : ∀ i b, (i < 47 ∨ 52 < i) → J6 i b = I i b := fun i b hi => by
    rw [f6 i b (by omega), f5 i b (by omega), f4 i b (by omega), f3 i b (by omega), f2 i b (by omega), f1 i b (by omega)]
  refine ⟨⟨c1, ⟨by rw [hall _ _ (by omega)]; exact b1, by rw [hall _ _ (by omega)]; exact b2, by rw [hall _ _ (by omega)]; exact b3⟩, h3, h4, fun i hi => ?_, c8, fun p h1 h2 => ?_⟩, fun w s hw hs => ?_, by rw [hall _ _ (by omega)]; exact b4, fun i b hi => by rw [hall _ _ (by omega)]; exact b7 i b hi⟩
  · have := h3 i (by omega)
    rw [tup_congr (fun b => hall (F 45 i) b (by omega)), b5 i hi]; exact c7 i hi
  · rw [tup_congr (fun b => hall p b (by omega))]; exact b6 p h1 h2
  · match w, hw with
    | 0, _ => rw [f6 47 s (by omega), f5 47 s (by omega), f4 47 s (by omega), f3 47 s (by omega), f2 47 s (by omega)]; exact z1 s hs
    | 1, _ => rw [f6 48 s (by omega), f5 48 s (by omega), f4 48 s (by omega), f3 48 s (by omega)]; exact z2 s hs
    | 2, _ => rw [f6 49 s (by omega), f5 49 s (by omega), f4 49 s (by omega)]; exact z3 s hs
    | 3, _ => rw [f6 50 s (by omega), f5 50 s (by omega)]; exact z4 s hs
    | 4, _ => rw [f6 51 s (by omega)]; exact z5 s hs
    | 5, _ => exact z6 s hs
/-- behind a trial: nothing but the trial's own cells has changed -/
def TY (I : Nat → Nat → Int) (F : Nat → Nat → Nat) (I2 : Nat → Nat → Int) (F2 : Nat → Nat → Nat) : Prop :=
  (∀ i b, (i < 44 ∨ 64 < i) → I2 i b = I i b) ∧ (∀ i b, i ≠ 45 → F2 i b = F i b) ∧ (∀ i, i < 12 → 53 ≤ F2 45 i ∧ F2 45 i ≤ 64) ∧ (∀ a b, a < 12 → b < 12 → F2 45 a = F2 45 b → a = b) ∧ (∀ p, 53 ≤ p → p ≤ 64 → PB 6000 100000 (tup I2 p))
set_option maxHeartbeats 4000000 in
set_option maxRecDepth 100000 in
theorem ct_fill (G : ab_G) (n a : Nat) (I : Nat → Nat → Int) (F : Nat → Nat → Nat) (v : Int) (ha : 1 ≤ a ∧ a ≤ n) (hs : ab_sh a = (20, 4)) : Ct G 0 0 0 YJ7_fill_53178 [ab_r a, ab_i v] (n, I, F) (fun r h => r = none ∧ ∃ I2, h = (n, I2, F) ∧ (∀ i b, i ≠ a → I2 i b = I i b) ∧ ∀ s, s < 4 → I2 a s = v) := by
  refine Ct.ofW kJ7_fill_53178 (ls := [some (ab_r a), some (ab_i v), none, none]) (Nat.le_of_ble_eq_true rfl) rfl ?_
  refine aw_iconst dJ7_fill_53178_0 ?_
  refine aw_istore_n (ls' := [some (ab_r a), some (ab_i v), some (ab_i 0), none]) dJ7_fill_53178_1 (by decide) rfl ?_
  refine aw_aload_n dJ7_fill_53178_2 rfl (by omega) ?_
  refine aw_alen dJ7_fill_53178_3 ha hs rfl ?_
  refine aw_istore_n (ls' := [some (ab_r a), some (ab_i v), some (ab_i 0), some (ab_i 4)]) dJ7_fill_53178_4 (by decide) rfl ?_
  refine aw_iload_n dJ7_fill_53178_5 rfl ?_
  refine aw_iload_n dJ7_fill_53178_6 rfl ?_
  refine aw_icmp_ge (tgt := 20) dJ7_fill_53178_7 rfl ⟨by decide, by decide⟩ ⟨by decide, by decide⟩ (fun c9 => absurd c9 (by decide)) (fun _ => ?_)
  refine aw_aload_n dJ7_fill_53178_10 rfl (by omega) ?_
  refine aw_iload_n dJ7_fill_53178_11 rfl ?_
  refine aw_iload_n dJ7_fill_53178_12 rfl ?_
  refine aw_iastv (q := 0) dJ7_fill_53178_13 ha hs (by omega) (by omega) (by decide) rfl ?_
  refine aw_iinc (ls' := [some (ab_r a), some (ab_i v), some (ab_i 1), some (ab_i 4)]) dJ7_fill_53178_14 (by decide) rfl rfl ?_
  refine aw_goto (tgt := 5) dJ7_fill_53178_17 rfl ?_
  refine aw_iload_n dJ7_fill_53178_5 rfl ?_
  refine aw_iload_n dJ7_fill_53178_6 rfl ?_
  refine aw_icmp_ge (tgt := 20) dJ7_fill_53178_7 rfl ⟨by decide, by decide⟩ ⟨by decide, by decide⟩ (fun c9 => absurd c9 (by decide)) (fun _ => ?_)
  refine aw_aload_n dJ7_fill_53178_10 rfl (by omega) ?_
  refine aw_iload_n dJ7_fill_53178_11 rfl ?_
  refine aw_iload_n dJ7_fill_53178_12 rfl ?_
  refine aw_iastv (q := 1) dJ7_fill_53178_13 ha hs (by omega) (by omega) (by decide) rfl ?_
  refine aw_iinc (ls' := [some (ab_r a), some (ab_i v), some (ab_i 2), some (ab_i 4)]) dJ7_fill_53178_14 (by decide) rfl rfl ?_
  refine aw_goto (tgt := 5) dJ7_fill_53178_17 rfl ?_
  refine aw_iload_n dJ7_fill_53178_5 rfl ?_
  refine aw_iload_n dJ7_fill_53178_6 rfl ?_
  refine aw_icmp_ge (tgt := 20) dJ7_fill_53178_7 rfl ⟨by decide, by decide⟩ ⟨by decide, by decide⟩ (fun c9 => absurd c9 (by decide)) (fun _ => ?_)
  refine aw_aload_n dJ7_fill_53178_10 rfl (by omega) ?_
  refine aw_iload_n dJ7_fill_53178_11 rfl ?_
  refine aw_iload_n dJ7_fill_53178_12 rfl ?_
  refine aw_iastv (q := 2) dJ7_fill_53178_13 ha hs (by omega) (by omega) (by decide) rfl ?_
  refine aw_iinc (ls' := [some (ab_r a), some (ab_i v), some (ab_i 3), some (ab_i 4)]) dJ7_fill_53178_14 (by decide) rfl rfl ?_
  refine aw_goto (tgt := 5) dJ7_fill_53178_17 rfl ?_
  refine aw_iload_n dJ7_fill_53178_5 rfl ?_
  refine aw_iload_n dJ7_fill_53178_6 rfl ?_
  refine aw_icmp_ge (tgt := 20) dJ7_fill_53178_7 rfl ⟨by decide, by decide⟩ ⟨by decide, by decide⟩ (fun c9 => absurd c9 (by decide)) (fun _ => ?_)
  refine aw_aload_n dJ7_fill_53178_10 rfl (by omega) ?_
  refine aw_iload_n dJ7_fill_53178_11 rfl ?_
  refine aw_iload_n dJ7_fill_53178_12 rfl ?_
  refine aw_iastv (q := 3) dJ7_fill_53178_13 ha hs (by omega) (by omega) (by decide) rfl ?_
  refine aw_iinc (ls' := [some (ab_r a), some (ab_i v), some (ab_i 4), some (ab_i 4)]) dJ7_fill_53178_14 (by decide) rfl rfl ?_
  refine aw_goto (tgt := 5) dJ7_fill_53178_17 rfl ?_
  refine aw_iload_n dJ7_fill_53178_5 rfl ?_
  refine aw_iload_n dJ7_fill_53178_6 rfl ?_
  refine aw_icmp_ge (tgt := 20) dJ7_fill_53178_7 rfl ⟨by decide, by decide⟩ ⟨by decide, by decide⟩ (fun _ => ?_) (fun c9 => absurd (by decide) c9)
  refine aw_return dJ7_fill_53178_20 rfl ?_
  refine ⟨rfl, _, rfl, fun i b hi => by rw [ab_u_i hi, ab_u_i hi, ab_u_i hi, ab_u_i hi], fun s hs9 => ?_⟩
  exact fill4 s hs9
set_option maxHeartbeats 4000000 in
set_option maxRecDepth 100000 in
theorem ct_X1_beginLike (G : ab_G) (I : Nat → Nat → Int) (F : Nat → Nat → Nat) (hF : ab_FB F) (L : List P5) (wk nx W : Int) (hC : CS 23 I F L wk nx W) (hW : W ≤ 6000) (hnx : nx ≤ 100000) (h3 : ∀ i, i < 12 → 53 ≤ F 45 i ∧ F 45 i ≤ 64) (h4 : ∀ a b, a < 12 → b < 12 → F 45 a = F 45 b → a = b) (h5 : ∀ p, 53 ≤ p → p ≤ 64 → PB 6000 100000 (tup I p)) : Ct G 1 0 0 YX1_beginLike [ab_r 44, ab_r 23] (104, I, F) (fun r h => r = none ∧ ∃ I2, h = (104, I2, F) ∧ CS 44 I2 F L wk nx W ∧ (∀ w s, w < 6 → s < 4 → I2 (47 + w) s = 0) ∧ I2 44 5 = 0 ∧ (∀ i b, (i < 44 ∨ 64 < i) → I2 i b = I i b)) := by
  refine Ct.ofW kX1_beginLike (ls := [some (ab_r 44), some (ab_r 23), none]) (Nat.le_of_ble_eq_true rfl) rfl ?_
  generalize hZ : ab_Z G (fun r h => r = none ∧ ∃ I2, h = (104, I2, F) ∧ CS 44 I2 F L wk nx W ∧ (∀ w s, w < 6 → s < 4 → I2 (47 + w) s = 0) ∧ I2 44 5 = 0 ∧ (∀ i b, (i < 44 ∨ 64 < i) → I2 i b = I i b)) 0 0 = Z
  obtain ⟨h1, ⟨c2, c3, c4⟩, c5, c6, c7, c8, c9⟩ := id hC
  have s60 : ∀ (I1 : Nat → Nat → Int), BLk I F L.length L.length wk nx I1 → aW G YX1_beginLike (ab_rm 1 0 0) Z 0 0 (104, I1, F) 60 [some (ab_r 44), some (ab_r 23), none] [] := by
    intro I1 hB
    refine aw_iconst dX1_beginLike_60 ?_
    refine aw_istore_n (ls' := [some (ab_r 44), some (ab_r 23), some (ab_i 0)]) dX1_beginLike_61 (by decide) rfl ?_
    refine aw_iload_n dX1_beginLike_62 rfl ?_
    refine aw_bipush dX1_beginLike_63 rfl ?_
    refine aw_icmp_ge (tgt := 84) dX1_beginLike_65 rfl ⟨by decide, by decide⟩ ⟨by decide, by decide⟩ (fun c9 => absurd c9 (by decide)) (fun _ => ?_)
    refine aw_aload_n dX1_beginLike_68 rfl (by decide) ?_
    refine aw_getrv (r := 46) dX1_beginLike_69 fX1_32 ⟨Nat.le_of_ble_eq_true rfl, Nat.le_of_ble_eq_true rfl⟩ rfl rfl (hF.at 44 6 46 rfl rfl rfl) ?_
    refine aw_iload_n dX1_beginLike_72 rfl ?_
    refine aw_aaldv (r := 47) dX1_beginLike_73 ⟨Nat.le_of_ble_eq_true rfl, Nat.le_of_ble_eq_true rfl⟩ rfl (by decide) (by omega) (by omega) (by decide) (hF.at 46 0 47 rfl rfl rfl) ?_
    refine aw_iconst dX1_beginLike_74 ?_
    refine aw_callS (as := [ab_r 47, ab_i 0]) (rest := []) dX1_beginLike_75 (ct_fill G 104 47 I1 F 0 ⟨Nat.le_of_ble_eq_true rfl, Nat.le_of_ble_eq_true rfl⟩ rfl) kJ7_fill_53178 sJ7_fill_53178 lX1_44 rfl (Nat.le_of_ble_eq_true rfl) (by decide) (by decide) (by decide) (by decide) ?_
    rintro _ _ ⟨rfl, J1, rfl, jf1, jz1⟩
    refine aw_iinc (ls' := [some (ab_r 44), some (ab_r 23), some (ab_i 1)]) dX1_beginLike_78 (by decide) rfl rfl ?_
    refine aw_goto (tgt := 62) dX1_beginLike_81 rfl ?_
    refine aw_iload_n dX1_beginLike_62 rfl ?_
    refine aw_bipush dX1_beginLike_63 rfl ?_
    refine aw_icmp_ge (tgt := 84) dX1_beginLike_65 rfl ⟨by decide, by decide⟩ ⟨by decide, by decide⟩ (fun c9 => absurd c9 (by decide)) (fun _ => ?_)
    refine aw_aload_n dX1_beginLike_68 rfl (by decide) ?_
    refine aw_getrv (r := 46) dX1_beginLike_69 fX1_32 ⟨Nat.le_of_ble_eq_true rfl, Nat.le_of_ble_eq_true rfl⟩ rfl rfl (hF.at 44 6 46 rfl rfl rfl) ?_
    refine aw_iload_n dX1_beginLike_72 rfl ?_
    refine aw_aaldv (r := 48) dX1_beginLike_73 ⟨Nat.le_of_ble_eq_true rfl, Nat.le_of_ble_eq_true rfl⟩ rfl (by decide) (by omega) (by omega) (by decide) (hF.at 46 1 48 rfl rfl rfl) ?_
    refine aw_iconst dX1_beginLike_74 ?_
    refine aw_callS (as := [ab_r 48, ab_i 0]) (rest := []) dX1_beginLike_75 (ct_fill G 104 48 J1 F 0 ⟨Nat.le_of_ble_eq_true rfl, Nat.le_of_ble_eq_true rfl⟩ rfl) kJ7_fill_53178 sJ7_fill_53178 lX1_44 rfl (Nat.le_of_ble_eq_true rfl) (by decide) (by decide) (by decide) (by decide) ?_
    rintro _ _ ⟨rfl, J2, rfl, jf2, jz2⟩
    refine aw_iinc (ls' := [some (ab_r 44), some (ab_r 23), some (ab_i 2)]) dX1_beginLike_78 (by decide) rfl rfl ?_
    refine aw_goto (tgt := 62) dX1_beginLike_81 rfl ?_
    refine aw_iload_n dX1_beginLike_62 rfl ?_
    refine aw_bipush dX1_beginLike_63 rfl ?_
    refine aw_icmp_ge (tgt := 84) dX1_beginLike_65 rfl ⟨by decide, by decide⟩ ⟨by decide, by decide⟩ (fun c9 => absurd c9 (by decide)) (fun _ => ?_)
    refine aw_aload_n dX1_beginLike_68 rfl (by decide) ?_
    refine aw_getrv (r := 46) dX1_beginLike_69 fX1_32 ⟨Nat.le_of_ble_eq_true rfl, Nat.le_of_ble_eq_true rfl⟩ rfl rfl (hF.at 44 6 46 rfl rfl rfl) ?_
    refine aw_iload_n dX1_beginLike_72 rfl ?_
    refine aw_aaldv (r := 49) dX1_beginLike_73 ⟨Nat.le_of_ble_eq_true rfl, Nat.le_of_ble_eq_true rfl⟩ rfl (by decide) (by omega) (by omega) (by decide) (hF.at 46 2 49 rfl rfl rfl) ?_
    refine aw_iconst dX1_beginLike_74 ?_
    refine aw_callS (as := [ab_r 49, ab_i 0]) (rest := []) dX1_beginLike_75 (ct_fill G 104 49 J2 F 0 ⟨Nat.le_of_ble_eq_true rfl, Nat.le_of_ble_eq_true rfl⟩ rfl) kJ7_fill_53178 sJ7_fill_53178 lX1_44 rfl (Nat.le_of_ble_eq_true rfl) (by decide) (by decide) (by decide) (by decide) ?_
    rintro _ _ ⟨rfl, J3, rfl, jf3, jz3⟩
    refine aw_iinc (ls' := [some (ab_r 44), some (ab_r 23), some (ab_i 3)]) dX1_beginLike_78 (by decide) rfl rfl ?_
    refine aw_goto (tgt := 62) dX1_beginLike_81 rfl ?_
    refine aw_iload_n dX1_beginLike_62 rfl ?_
    refine aw_bipush dX1_beginLike_63 rfl ?_
    refine aw_icmp_ge (tgt := 84) dX1_beginLike_65 rfl ⟨by decide, by decide⟩ ⟨by decide, by decide⟩ (fun c9 => absurd c9 (by decide)) (fun _ => ?_)
    refine aw_aload_n dX1_beginLike_68 rfl (by decide) ?_
    refine aw_getrv (r := 46) dX1_beginLike_69 fX1_32 ⟨Nat.le_of_ble_eq_true rfl, Nat.le_of_ble_eq_true rfl⟩ rfl rfl (hF.at 44 6 46 rfl rfl rfl) ?_
    refine aw_iload_n dX1_beginLike_72 rfl ?_
    refine aw_aaldv (r := 50) dX1_beginLike_73 ⟨Nat.le_of_ble_eq_true rfl, Nat.le_of_ble_eq_true rfl⟩ rfl (by decide) (by omega) (by omega) (by decide) (hF.at 46 3 50 rfl rfl rfl) ?_
    refine aw_iconst dX1_beginLike_74 ?_
    refine aw_callS (as := [ab_r 50, ab_i 0]) (rest := []) dX1_beginLike_75 (ct_fill G 104 50 J3 F 0 ⟨Nat.le_of_ble_eq_true rfl, Nat.le_of_ble_eq_true rfl⟩ rfl) kJ7_fill_53178 sJ7_fill_53178 lX1_44 rfl (Nat.le_of_ble_eq_true rfl) (by decide) (by decide) (by decide) (by decide) ?_
    rintro _ _ ⟨rfl, J4, rfl, jf4, jz4⟩
    refine aw_iinc (ls' := [some (ab_r 44), some (ab_r 23), some (ab_i 4)]) dX1_beginLike_78 (by decide) rfl rfl ?_
    refine aw_goto (tgt := 62) dX1_beginLike_81 rfl ?_
    refine aw_iload_n dX1_beginLike_62 rfl ?_
    refine aw_bipush dX1_beginLike_63 rfl ?_
    refine aw_icmp_ge (tgt := 84) dX1_beginLike_65 rfl ⟨by decide, by decide⟩ ⟨by decide, by decide⟩ (fun c9 => absurd c9 (by decide)) (fun _ => ?_)
    refine aw_aload_n dX1_beginLike_68 rfl (by decide) ?_
    refine aw_getrv (r := 46) dX1_beginLike_69 fX1_32 ⟨Nat.le_of_ble_eq_true rfl, Nat.le_of_ble_eq_true rfl⟩ rfl rfl (hF.at 44 6 46 rfl rfl rfl) ?_
    refine aw_iload_n dX1_beginLike_72 rfl ?_
    refine aw_aaldv (r := 51) dX1_beginLike_73 ⟨Nat.le_of_ble_eq_true rfl, Nat.le_of_ble_eq_true rfl⟩ rfl (by decide) (by omega) (by omega) (by decide) (hF.at 46 4 51 rfl rfl rfl) ?_
    refine aw_iconst dX1_beginLike_74 ?_
    refine aw_callS (as := [ab_r 51, ab_i 0]) (rest := []) dX1_beginLike_75 (ct_fill G 104 51 J4 F 0 ⟨Nat.le_of_ble_eq_true rfl, Nat.le_of_ble_eq_true rfl⟩ rfl) kJ7_fill_53178 sJ7_fill_53178 lX1_44 rfl (Nat.le_of_ble_eq_true rfl) (by decide) (by decide) (by decide) (by decide) ?_
    rintro _ _ ⟨rfl, J5, rfl, jf5, jz5⟩
    refine aw_iinc (ls' := [some (ab_r 44), some (ab_r 23), some (ab_i 5)]) dX1_beginLike_78 (by decide) rfl rfl ?_
    refine aw_goto (tgt := 62) dX1_beginLike_81 rfl ?_
    refine aw_iload_n dX1_beginLike_62 rfl ?_
    refine aw_bipush dX1_beginLike_63 rfl ?_
    refine aw_icmp_ge (tgt := 84) dX1_beginLike_65 rfl ⟨by decide, by decide⟩ ⟨by decide, by decide⟩ (fun c9 => absurd c9 (by decide)) (fun _ => ?_)
    refine aw_aload_n dX1_beginLike_68 rfl (by decide) ?_
    refine aw_getrv (r := 46) dX1_beginLike_69 fX1_32 ⟨Nat.le_of_ble_eq_true rfl, Nat.le_of_ble_eq_true rfl⟩ rfl rfl (hF.at 44 6 46 rfl rfl rfl) ?_
    refine aw_iload_n dX1_beginLike_72 rfl ?_
    refine aw_aaldv (r := 52) dX1_beginLike_73 ⟨Nat.le_of_ble_eq_true rfl, Nat.le_of_ble_eq_true rfl⟩ rfl (by decide) (by omega) (by omega) (by decide) (hF.at 46 5 52 rfl rfl rfl) ?_
    refine aw_iconst dX1_beginLike_74 ?_
    refine aw_callS (as := [ab_r 52, ab_i 0]) (rest := []) dX1_beginLike_75 (ct_fill G 104 52 J5 F 0 ⟨Nat.le_of_ble_eq_true rfl, Nat.le_of_ble_eq_true rfl⟩ rfl) kJ7_fill_53178 sJ7_fill_53178 lX1_44 rfl (Nat.le_of_ble_eq_true rfl) (by decide) (by decide) (by decide) (by decide) ?_
    rintro _ _ ⟨rfl, J6, rfl, jf6, jz6⟩
    refine aw_iinc (ls' := [some (ab_r 44), some (ab_r 23), some (ab_i 6)]) dX1_beginLike_78 (by decide) rfl rfl ?_
    refine aw_goto (tgt := 62) dX1_beginLike_81 rfl ?_
    refine aw_iload_n dX1_beginLike_62 rfl ?_
    refine aw_bipush dX1_beginLike_63 rfl ?_
    refine aw_icmp_ge (tgt := 84) dX1_beginLike_65 rfl ⟨by decide, by decide⟩ ⟨by decide, by decide⟩ (fun _ => ?_) (fun c9 => absurd (by decide) c9)
    rw [← hZ]
    refine aw_return dX1_beginLike_84 rfl ?_
    refine ⟨rfl, J6, rfl, ?_⟩
    exact BL_end hB hC hW hnx jf1 jz1 jf2 jz2 jf3 jz3 jf4 jz4 jf5 jz5 jf6 jz6 h3 h4
  have loop : ∀ (d j : Nat) (I1 : Nat → Nat → Int), j + d = L.length → BLk I F L.length j wk nx I1 → aW G YX1_beginLike (ab_rm 1 0 0) Z 0 0 (104, I1, F) 31 [some (ab_r 44), some (ab_r 23), some (ab_i (j : Int))] [] := by
    intro d
    induction d with
    | zero =>
      intro j I1 hj hB
      have hjL : j = L.length := by omega
      subst hjL
      have h442 : I1 44 2 = (L.length : Int) := hB.1.1
      refine aw_iload_n dX1_beginLike_31 rfl ?_
      refine aw_aload_n dX1_beginLike_32 rfl (by decide) ?_
      refine aw_getiv (v := (L.length : Int)) dX1_beginLike_33 fX1_17 ⟨Nat.le_of_ble_eq_true rfl, Nat.le_of_ble_eq_true rfl⟩ rfl rfl h442 ?_
      refine aw_icmp_ge (tgt := 60) dX1_beginLike_36 rfl (by first | assumption | (unfold ab_In at *; omega)) (by first | assumption | (unfold ab_In at *; omega)) (fun c_36 => ?_) (fun c_36 => ?_)
      · exact aw_le (ls' := [some (ab_r 44), some (ab_r 23), none]) (ab_le_c (ab_le_c (ab_le_n ab_le_nil))) (s60 I1 hB)
      · exfalso; omega
    | succ d ih =>
      intro j I1 hj hB
      have hjL : j < L.length := by omega
      have h442 : I1 44 2 = (L.length : Int) := hB.1.1
      have hp := h3 j (by omega)
      have hq : 32 ≤ F 24 j ∧ F 24 j ≤ 43 := c5 j (by omega)
      have h9 := BL_step hB hjL h1 h3 h4 hq (by have := c8 _ (List.mem_of_getElem? (c7 j hjL)); exact this.mono hW hnx)
      generalize hpe : F 45 j = p at *
      generalize hqe : F 24 j = q at *
      refine aw_iload_n dX1_beginLike_31 rfl ?_
      refine aw_aload_n dX1_beginLike_32 rfl (by decide) ?_
      refine aw_getiv (v := (L.length : Int)) dX1_beginLike_33 fX1_17 ⟨Nat.le_of_ble_eq_true rfl, Nat.le_of_ble_eq_true rfl⟩ rfl rfl h442 ?_
      refine aw_icmp_ge (tgt := 60) dX1_beginLike_36 rfl (by first | assumption | (unfold ab_In at *; omega)) (by first | assumption | (unfold ab_In at *; omega)) (fun c_36 => ?_) (fun c_36 => ?_)
      · exfalso; omega
      · refine aw_aload_n dX1_beginLike_39 rfl (by decide) ?_
        refine aw_getrv (r := 45) dX1_beginLike_40 fX1_11 ⟨Nat.le_of_ble_eq_true rfl, Nat.le_of_ble_eq_true rfl⟩ rfl rfl (hF.at 44 1 45 rfl rfl rfl) ?_
        refine aw_iload_n dX1_beginLike_43 rfl ?_
        refine aw_aaldv (r := p) dX1_beginLike_44 ⟨Nat.le_of_ble_eq_true rfl, Nat.le_of_ble_eq_true rfl⟩ rfl (by decide) (by omega) (by omega) (by decide) hpe ?_
        refine aw_aload_n dX1_beginLike_45 rfl (by decide) ?_
        refine aw_getrv (r := 24) dX1_beginLike_46 fX1_11 ⟨Nat.le_of_ble_eq_true rfl, Nat.le_of_ble_eq_true rfl⟩ rfl rfl (hF.at 23 1 24 rfl rfl rfl) ?_
        refine aw_iload_n dX1_beginLike_49 rfl ?_
        refine aw_aaldv (r := q) dX1_beginLike_50 ⟨Nat.le_of_ble_eq_true rfl, Nat.le_of_ble_eq_true rfl⟩ rfl (by decide) (by omega) (by omega) (by decide) hqe ?_
        refine aw_callV (as := [ab_r q]) (rest := []) dX1_beginLike_51 (ct_X4_copy G I1 F p q hp hq) ⟨by omega, by omega⟩ (sh_p44 hp) kc4 rfl kX4_copy iX4_copy eX4_copy lX1_40 rfl (Nat.le_of_ble_eq_true rfl) (by decide) (by decide) (by decide) (by decide) ?_
        rintro _ _ ⟨rfl, rfl⟩
        refine aw_iinc (ls' := [some (ab_r 44), some (ab_r 23), some (ab_i ((j : Int) + 1))]) dX1_beginLike_54 (by decide) rfl rfl ?_
        refine aw_goto (tgt := 31) dX1_beginLike_57 rfl ?_
        exact ih (j + 1) _ (by omega) h9
  refine aw_aload_n dX1_beginLike_0 rfl (by decide) ?_
  refine aw_aload_n dX1_beginLike_1 rfl (by decide) ?_
  refine aw_getiv (v := (L.length : Int)) dX1_beginLike_2 fX1_17 ⟨Nat.le_of_ble_eq_true rfl, Nat.le_of_ble_eq_true rfl⟩ rfl rfl c2 ?_
  refine aw_puti dX1_beginLike_5 fX1_17 ⟨Nat.le_of_ble_eq_true rfl, Nat.le_of_ble_eq_true rfl⟩ rfl rfl ?_
  refine aw_aload_n dX1_beginLike_8 rfl (by decide) ?_
  refine aw_aload_n dX1_beginLike_9 rfl (by decide) ?_
  refine aw_getiv (v := wk) dX1_beginLike_10 fX1_21 ⟨Nat.le_of_ble_eq_true rfl, Nat.le_of_ble_eq_true rfl⟩ rfl rfl ((ab_u_i (by decide)).trans c3) ?_
  refine aw_puti dX1_beginLike_13 fX1_21 ⟨Nat.le_of_ble_eq_true rfl, Nat.le_of_ble_eq_true rfl⟩ rfl rfl ?_
  refine aw_aload_n dX1_beginLike_16 rfl (by decide) ?_
  refine aw_aload_n dX1_beginLike_17 rfl (by decide) ?_
  refine aw_getiv (v := nx) dX1_beginLike_18 fX1_24 ⟨Nat.le_of_ble_eq_true rfl, Nat.le_of_ble_eq_true rfl⟩ rfl rfl (((ab_u_i (by decide)).trans (ab_u_i (by decide))).trans c4) ?_
  refine aw_puti dX1_beginLike_21 fX1_24 ⟨Nat.le_of_ble_eq_true rfl, Nat.le_of_ble_eq_true rfl⟩ rfl rfl ?_
  refine aw_aload_n dX1_beginLike_24 rfl (by decide) ?_
  refine aw_iconst dX1_beginLike_25 ?_
  refine aw_puti dX1_beginLike_26 fX1_27 ⟨Nat.le_of_ble_eq_true rfl, Nat.le_of_ble_eq_true rfl⟩ rfl rfl ?_
  refine aw_iconst dX1_beginLike_29 ?_
  refine aw_istore_n (ls' := [some (ab_r 44), some (ab_r 23), some (ab_i 0)]) dX1_beginLike_30 (by decide) rfl ?_
  exact loop L.length 0 _ (by omega) (BL_0 h5)
set_option maxHeartbeats 4000000 in
set_option maxRecDepth 100000 in
theorem ct_X11_tryOut_13 (G : ab_G) (I : Nat → Nat → Int) (F : Nat → Nat → Nat) (hF : ab_FB F) (L : List P5) (wk nx : Int) (n : Nat) (hC : CS 23 I F L wk nx (2 * wk)) (hq : Nq L nx) (hwk : 0 ≤ wk ∧ wk + n ≤ 2900) (hnx : 0 ≤ nx ∧ nx + 13 * n ≤ 90000) (hT : TB I) (hR : RB 13 I) (h3 : ∀ i, i < 12 → 53 ≤ F 45 i ∧ F 45 i ≤ 64) (h4 : ∀ a b, a < 12 → b < 12 → F 45 a = F 45 b → a = b) (h5 : ∀ p, 53 ≤ p → p ≤ 64 → PB 6000 100000 (tup I p)) : Ct G 4 0 0 YX11_tryOut [ab_r 1, ab_i (n : Int), ab_r 13] (104, I, F) (fun q h => q = none ∧ ∃ I2 F2, h = (104, I2, F2) ∧ (∀ w s, w < 6 → s < 4 → I2 (47 + w) s = (wkN (ruX I 13) (tnX I) (kdX I 9 10) (kdX I 11 12) n wk L nx).2.2.1 w s) ∧ I2 44 5 = (wkN (ruX I 13) (tnX I) (kdX I 9 10) (kdX I 11 12) n wk L nx).2.2.2 ∧ TY I F I2 F2) := by
  refine Ct.ofW kX11_tryOut (ls := [some (ab_r 1), some (ab_i (n : Int)), some (ab_r 13)]) (Nat.le_of_ble_eq_true rfl) rfl ?_
  refine aw_aload_n dX11_tryOut_0 rfl (by decide) ?_
  refine aw_getrv (r := 44) dX11_tryOut_1 fX11_42 ⟨Nat.le_of_ble_eq_true rfl, Nat.le_of_ble_eq_true rfl⟩ rfl rfl (hF.at 1 5 44 rfl rfl rfl) ?_
  refine aw_aload_n dX11_tryOut_4 rfl (by decide) ?_
  refine aw_getrv (r := 23) dX11_tryOut_5 fX11_38 ⟨Nat.le_of_ble_eq_true rfl, Nat.le_of_ble_eq_true rfl⟩ rfl rfl (hF.at 1 4 23 rfl rfl rfl) ?_
  refine aw_callV (as := [ab_r 23]) (rest := []) dX11_tryOut_8 (ct_X1_beginLike G I F hF L wk nx (2 * wk) hC (by omega) (by omega) h3 h4 h5) ⟨Nat.le_of_ble_eq_true rfl, Nat.le_of_ble_eq_true rfl⟩ rfl kc1 rfl kX1_beginLike iX1_beginLike eX1_beginLike lX11_279 rfl (Nat.le_of_ble_eq_true rfl) (by decide) (by decide) (by decide) (by decide) ?_
  rintro _ _ ⟨rfl, I1, rfl, hC1, hz1, hz2, hfr⟩
  have hTX : TB I1 := hT.of (fun i b hi => hfr i b (by omega))
  have hRX : RB 13 I1 := hR.of (fun i b hi => hfr i b (by omega))
  refine aw_aload_n dX11_tryOut_11 rfl (by decide) ?_
  refine aw_getrv (r := 44) dX11_tryOut_12 fX11_42 ⟨Nat.le_of_ble_eq_true rfl, Nat.le_of_ble_eq_true rfl⟩ rfl rfl (hF.at 1 5 44 rfl rfl rfl) ?_
  refine aw_iload_n dX11_tryOut_15 rfl ?_
  refine aw_aload_n dX11_tryOut_16 rfl (by decide) ?_
  refine aw_callV (as := [ab_i (n : Int), ab_r 13]) (rest := []) dX11_tryOut_17 (ct_X1_pass_44_13 G I1 F hF L wk nx n hC1 hq hwk hnx hTX hRX) ⟨Nat.le_of_ble_eq_true rfl, Nat.le_of_ble_eq_true rfl⟩ rfl kc1 rfl kX1_pass iX1_pass eX1_pass lX11_132 rfl (Nat.le_of_ble_eq_true rfl) (by decide) (by decide) (by decide) (by decide) ?_
  rintro _ _ ⟨rfl, I2, F2, rfl, hC2, hD2, hq2⟩
  rw [ruX_congr (I := I) (fun i b hi => hfr i b (by omega)), tnX_congr (I := I) (fun i b hi => hfr i b (by omega)), show kdX I1 9 10 = kdX I 9 10 from funext fun w9 => kdX_congr (fun i b hi => hfr i b (by omega)) (by omega) (by omega) w9, show kdX I1 11 12 = kdX I 11 12 from funext fun w9 => kdX_congr (fun i b hi => hfr i b (by omega)) (by omega) (by omega) w9] at hD2
  refine aw_return dX11_tryOut_20 rfl ?_
  refine ⟨rfl, I2, F2, rfl, fun w s hw hs => ?_, ?_, ?_⟩
  · rw [hD2.1 w s hw hs, hz1 w s hw hs]; omega
  · rw [hD2.2.1, hz2]; omega
  · exact ⟨fun i b hi => (hD2.2.2.1 i b hi).trans (hfr i b hi), hD2.2.2.2, hC2.2.2.1, hC2.2.2.2.1, hC2.2.2.2.2.2.2⟩
set_option maxHeartbeats 4000000 in
set_option maxRecDepth 100000 in
theorem ct_X11_tryOut_17 (G : ab_G) (I : Nat → Nat → Int) (F : Nat → Nat → Nat) (hF : ab_FB F) (L : List P5) (wk nx : Int) (n : Nat) (hC : CS 23 I F L wk nx (2 * wk)) (hq : Nq L nx) (hwk : 0 ≤ wk ∧ wk + n ≤ 2900) (hnx : 0 ≤ nx ∧ nx + 13 * n ≤ 90000) (hT : TB I) (hR : RB 17 I) (h3 : ∀ i, i < 12 → 53 ≤ F 45 i ∧ F 45 i ≤ 64) (h4 : ∀ a b, a < 12 → b < 12 → F 45 a = F 45 b → a = b) (h5 : ∀ p, 53 ≤ p → p ≤ 64 → PB 6000 100000 (tup I p)) : Ct G 4 0 0 YX11_tryOut [ab_r 1, ab_i (n : Int), ab_r 17] (104, I, F) (fun q h => q = none ∧ ∃ I2 F2, h = (104, I2, F2) ∧ (∀ w s, w < 6 → s < 4 → I2 (47 + w) s = (wkN (ruX I 17) (tnX I) (kdX I 9 10) (kdX I 11 12) n wk L nx).2.2.1 w s) ∧ I2 44 5 = (wkN (ruX I 17) (tnX I) (kdX I 9 10) (kdX I 11 12) n wk L nx).2.2.2 ∧ TY I F I2 F2) := by
  refine Ct.ofW kX11_tryOut (ls := [some (ab_r 1), some (ab_i (n : Int)), some (ab_r 17)]) (Nat.le_of_ble_eq_true rfl) rfl ?_
  refine aw_aload_n dX11_tryOut_0 rfl (by decide) ?_
  refine aw_getrv (r := 44) dX11_tryOut_1 fX11_42 ⟨Nat.le_of_ble_eq_true rfl, Nat.le_of_ble_eq_true rfl⟩ rfl rfl (hF.at 1 5 44 rfl rfl rfl) ?_
  refine aw_aload_n dX11_tryOut_4 rfl (by decide) ?_
  refine aw_getrv (r := 23) dX11_tryOut_5 fX11_38 ⟨Nat.le_of_ble_eq_true rfl, Nat.le_of_ble_eq_true rfl⟩ rfl rfl (hF.at 1 4 23 rfl rfl rfl) ?_
  refine aw_callV (as := [ab_r 23]) (rest := []) dX11_tryOut_8 (ct_X1_beginLike G I F hF L wk nx (2 * wk) hC (by omega) (by omega) h3 h4 h5) ⟨Nat.le_of_ble_eq_true rfl, Nat.le_of_ble_eq_true rfl⟩ rfl kc1 rfl kX1_beginLike iX1_beginLike eX1_beginLike lX11_279 rfl (Nat.le_of_ble_eq_true rfl) (by decide) (by decide) (by decide) (by decide) ?_
  rintro _ _ ⟨rfl, I1, rfl, hC1, hz1, hz2, hfr⟩
  have hTX : TB I1 := hT.of (fun i b hi => hfr i b (by omega))
  have hRX : RB 17 I1 := hR.of (fun i b hi => hfr i b (by omega))
  refine aw_aload_n dX11_tryOut_11 rfl (by decide) ?_
  refine aw_getrv (r := 44) dX11_tryOut_12 fX11_42 ⟨Nat.le_of_ble_eq_true rfl, Nat.le_of_ble_eq_true rfl⟩ rfl rfl (hF.at 1 5 44 rfl rfl rfl) ?_
  refine aw_iload_n dX11_tryOut_15 rfl ?_
  refine aw_aload_n dX11_tryOut_16 rfl (by decide) ?_
  refine aw_callV (as := [ab_i (n : Int), ab_r 17]) (rest := []) dX11_tryOut_17 (ct_X1_pass_44_17 G I1 F hF L wk nx n hC1 hq hwk hnx hTX hRX) ⟨Nat.le_of_ble_eq_true rfl, Nat.le_of_ble_eq_true rfl⟩ rfl kc1 rfl kX1_pass iX1_pass eX1_pass lX11_132 rfl (Nat.le_of_ble_eq_true rfl) (by decide) (by decide) (by decide) (by decide) ?_
  rintro _ _ ⟨rfl, I2, F2, rfl, hC2, hD2, hq2⟩
  rw [ruX_congr (I := I) (fun i b hi => hfr i b (by omega)), tnX_congr (I := I) (fun i b hi => hfr i b (by omega)), show kdX I1 9 10 = kdX I 9 10 from funext fun w9 => kdX_congr (fun i b hi => hfr i b (by omega)) (by omega) (by omega) w9, show kdX I1 11 12 = kdX I 11 12 from funext fun w9 => kdX_congr (fun i b hi => hfr i b (by omega)) (by omega) (by omega) w9] at hD2
  refine aw_return dX11_tryOut_20 rfl ?_
  refine ⟨rfl, I2, F2, rfl, fun w s hw hs => ?_, ?_, ?_⟩
  · rw [hD2.1 w s hw hs, hz1 w s hw hs]; omega
  · rw [hD2.2.1, hz2]; omega
  · exact ⟨fun i b hi => (hD2.2.2.1 i b hi).trans (hfr i b hi), hD2.2.2.2, hC2.2.2.1, hC2.2.2.2.1, hC2.2.2.2.2.2.2⟩
