theorem of_step_congr {ru ru' : Ru} {tn : Tn} {k : Nat} (h1 : ru.2.1 = ru'.2.1) (h2 : ru.2.2.1 = ru'.2.2.1) (hk : ∀ t, tk1 ru tn k t = tk1 ru' tn k t) : of_step ru tn k = of_step ru' tn k := by
  funext o t; unfold of_step; rw [hk t, h1, h2]
theorem wkS_congr {ru ru' : Ru} {tn : Tn} {kd js : Int} {L : List P5} {nx : Int} (h0 : ru.1 = ru'.1) (h1 : ru.2.1 = ru'.2.1) (h2 : ru.2.2.1 = ru'.2.2.1) (h3 : ru.2.2.2.1 = ru'.2.2.2.1) (hkd : kd ≤ 3) (hk : ∀ k, k < 4 → ∀ t, tk1 ru tn k t = tk1 ru' tn k t) : wkS ru tn kd js L nx = wkS ru' tn kd js L nx := by
  have e : ofS ru tn kd L nx = ofS ru' tn kd L nx := by
    unfold ofS
    rw [h0, of_step_congr h1 h2 (hk kd.toNat (by omega))]
  unfold wkS
  rw [e, h3]
theorem wkN_congr {ru ru' : Ru} {tn : Tn} {kd js : Int → Int} (h0 : ru.1 = ru'.1) (h1 : ru.2.1 = ru'.2.1) (h2 : ru.2.2.1 = ru'.2.2.1) (h3 : ru.2.2.2.1 = ru'.2.2.2.1) (hkd : ∀ w, kd w ≤ 3) (hk : ∀ k, k < 4 → ∀ t, tk1 ru tn k t = tk1 ru' tn k t) : ∀ (n : Nat) (wk : Int) (L : List P5) (nx : Int), wkN ru tn kd js n wk L nx = wkN ru' tn kd js n wk L nx
  | 0, _, _, _ => rfl
  | n + 1, wk, L, nx => by
    simp only [wkN]
    rw [wkS_congr h0 h1 h2 h3 (hkd wk) hk, wkN_congr h0 h1 h2 h3 hkd hk n]
theorem tk1_Q {ru : Ru} {tn : Tn} {q k : Nat} {t : P5} : tk1 (ruQ ru tn q) tn k t = if t.1.toNat < 4 then (if ktW (tn.2 t.1.toNat) (bq q t.1.toNat) k = true then 1 else 0) else 1 := by
  unfold tk1 ruQ
  dsimp only
  by_cases hs : t.1.toNat < 4
  · rw [n4_lt hs, n4_lt hs, n4_lt hs, if_pos hs]
    unfold rl_takes ktW
    by_cases hb : bq q t.1.toNat = 0
    · simp [hb]
    · simp [hb]
  · rw [if_neg hs]
    unfold n4 rl_takes
    rw [if_neg hs, if_neg hs, if_neg hs]
    simp
theorem gnQ_like {ru : Ru} {tn : Tn} {kd js : Int → Int} (hkd : ∀ w, kd w ≤ 3) {n : Nat} {wk : Int} {L : List P5} {nx : Int} {p q : Nat} (h : ∀ s k, s < 4 → k < 4 → ktW (tn.2 s) (bq p s) k = ktW (tn.2 s) (bq q s) k) (s : Nat) : gnQ ru tn kd js n wk L nx p s = gnQ ru tn kd js n wk L nx q s := by
  unfold gnQ
  rw [wkN_congr (ru := ruQ ru tn p) (ru' := ruQ ru tn q) rfl rfl rfl rfl hkd (fun k hk t => ?_)]
  rw [tk1_Q, tk1_Q]
  by_cases hs : t.1.toNat < 4
  · rw [if_pos hs, if_pos hs, h _ k hs hk]
  · rw [if_neg hs, if_neg hs]
theorem like_kt {I I1 : Nat → Nat → Int} {p q : Nat} (hP : ∀ s b, s < 4 → b < 5 → PL I I1 s b) (hp : ∀ s, s < 4 → bq p s = (I1 (68 + s) (bq q s)).toNat) : ∀ s k, s < 4 → k < 4 → ktW ((tnX I).2 s) (bq p s) k = ktW ((tnX I).2 s) (bq q s) k := by
  intro s k hs hk
  have h1 := hP s (bq q s) hs (bq_lt q s)
  have h2 := kmW_kt h1.2.2 hk
  rw [← hp s hs] at h2
  have e : ∀ b, b < 5 → ktW ((tnX I).2 s) b k = ktW (I (4 + s)) b k := fun b hb => by
    unfold ktW
    rw [tnX_w hs hk]
    by_cases h0 : b = 0
    · simp [h0]
    · rw [tnX_w hs (by omega)]
  rw [e _ (bq_lt p s), e _ (bq_lt q s)]
  exact h2
theorem kdX_le {I : Nat → Nat → Int} (hT : TB I) (w : Int) : kdX I 9 10 w ≤ 3 := by
  unfold kdX
  split
  · omega
  · rename_i h
    have h1 := hT.2.2.1
    have h2 := Int.emod_lt_of_pos w (show 0 < I 9 1 by omega)
    have h3 := Int.emod_nonneg w (show I 9 1 ≠ 0 by omega)
    exact (hT.2.2.2.1 _ (by omega)).2
theorem gnQ_bd {ru : Ru} {tn : Tn} {kd js : Int → Int} (ht : tnB tn) {n : Nat} {wk : Int} {L : List P5} {nx : Int} (h : L.length ≤ 12) (hn : n ≤ 40) (q s : Nat) : -10000 ≤ gnQ ru tn kd js n wk L nx q s ∧ gnQ ru tn kd js n wk L nx q s ≤ 10000 := by
  unfold gnQ
  have := wkN_T (ru := ruQ ru tn q) (kd := kd) (js := js) ht n (wk := wk) (nx := nx) s h
  omega
def oq (q s b : Nat) : Nat := q - bq q s * 5 ^ s + b * 5 ^ s
theorem bq_le {q s : Nat} (hs : s < 4) : bq q s * 5 ^ s ≤ q := by
  unfold bq
  match s, hs with
  | 0, _ => simp; omega
  | 1, _ => simp; omega
  | 2, _ => simp; omega
  | 3, _ => simp; omega
theorem oq_lt {q s b : Nat} (hq : q < 625) (hs : s < 4) (hb : b < 5) : oq q s b < 625 := by
  unfold oq bq
  match s, hs with
  | 0, _ => simp; omega
  | 1, _ => simp; omega
  | 2, _ => simp; omega
  | 3, _ => simp; omega
theorem arQ_iff {g : Nat → Nat → Int} {q : Nat} : arQ g q = true ↔ ∀ s b, s < 4 → b < 5 → g (oq q s b) s ≤ g q s := by
  unfold arQ oq
  simp only [List.all_eq_true, List.mem_range, decide_eq_true_eq]
  exact ⟨fun h s b hs hb => h s hs b hb, fun h s hs b hb => h s b hs hb⟩
/-- those at rest among the first q -/
def rsP (g : Nat → Nat → Int) (q : Nat) : List Nat := (List.range q).filter (arQ g)
theorem rsP_s (g : Nat → Nat → Int) (q : Nat) : rsP g (q + 1) = if arQ g q = true then rsP g q ++ [q] else rsP g q := by
  unfold rsP
  rw [List.range_succ, List.filter_append]
  by_cases h : arQ g q = true
  · rw [if_pos h]; simp [h]
  · rw [if_neg h]; simp [h]
theorem rsP_len (g : Nat → Nat → Int) (q : Nat) : (rsP g q).length ≤ q := by
  unfold rsP
  have := List.length_filter_le (arQ g) (List.range q)
  simpa using this
theorem ruX_Q {I J : Nat → Nat → Int} {q : Nat} (h0 : J 17 0 = I 13 0 ∧ J 17 1 = I 13 1 ∧ J 17 2 = I 13 2 ∧ J 17 3 = I 13 3) (hw : ∀ s, s < 4 → J 18 s = (if bq q s = 0 then 0 else 1) ∧ J 19 s = (if bq q s = 0 then 0 else I (4 + s) (bq q s - 1)) ∧ J 20 s = 0) : ruX J 17 = ruQ (ruX I 13) (tnX I) q := by
  have e1 : n4 (J (17 + 1)) = n4 (fun s => if bq q s = 0 then 0 else 1) := n4_congr (fun s hs => (hw s hs).1)
  have e2 : n4 (J (17 + 2)) = n4 (fun s => if bq q s = 0 then 0 else (tnX I).2 s (bq q s - 1)) := n4_congr (fun s hs => by
    rw [show J (17 + 2) s = _ from (hw s hs).2.1]
    by_cases hb : bq q s = 0
    · simp [hb]
    · rw [if_neg hb, if_neg hb, tnX_w hs (by have := bq_lt q s; omega)])
  have e3 : n4 (J (17 + 3)) = n4 (fun _ => 0) := n4_congr (fun s hs => (hw s hs).2.2)
  unfold ruQ
  rw [← e1, ← e2, ← e3]
  unfold ruX
  rw [h0.1, h0.2.1, h0.2.2.1, h0.2.2.2]
theorem RB_Q {I J : Nat → Nat → Int} {q : Nat} (hR : RB 13 I) (hT : TB I) (h0 : J 17 0 = I 13 0 ∧ J 17 1 = I 13 1 ∧ J 17 2 = I 13 2 ∧ J 17 3 = I 13 3) (hw : ∀ s, s < 4 → J 18 s = (if bq q s = 0 then 0 else 1) ∧ J 19 s = (if bq q s = 0 then 0 else I (4 + s) (bq q s - 1)) ∧ J 20 s = 0) : RB 17 J := by
  unfold RB at *
  rw [h0.1, h0.2.1, h0.2.2.1, h0.2.2.2]
  refine ⟨hR.1, hR.2.1, hR.2.2.1, hR.2.2.2.1, fun s hs => ?_⟩
  rw [show J (17 + 1) s = _ from (hw s hs).1, show J (17 + 2) s = _ from (hw s hs).2.1, show J (17 + 3) s = _ from (hw s hs).2.2]
  by_cases hb : bq q s = 0
  · simp [hb]
  · rw [if_neg hb, if_neg hb]
    have := hT.2.1 s (bq q s - 1) hs (by have := bq_lt q s; omega)
    omega
set_option maxHeartbeats 4000000 in
set_option maxRecDepth 100000 in
theorem ct_X5_setWays (G : ab_G) (I : Nat → Nat → Int) (F : Nat → Nat → Nat) (hF : ab_FB F) (q : Nat) (hq : q < 625) : Ct G 1 0 0 YX5_setWays [ab_r 65, ab_r 17, ab_i (q : Int)] (104, I, F) (fun r h => r = none ∧ ∃ I2, h = (104, I2, F) ∧ (∀ s, s < 4 → I2 18 s = (if bq q s = 0 then 0 else 1) ∧ I2 19 s = (if bq q s = 0 then 0 else I (4 + s) (bq q s - 1)) ∧ I2 20 s = 0) ∧ (∀ i b, (i < 18 ∨ 20 < i) → I2 i b = I i b)) := by
  refine Ct.ofW kX5_setWays (ls := [some (ab_r 65), some (ab_r 17), some (ab_i (q : Int)), none, none]) (Nat.le_of_ble_eq_true rfl) rfl ?_
  generalize hZ : ab_Z G (fun r h => r = none ∧ ∃ I2, h = (104, I2, F) ∧ (∀ s, s < 4 → I2 18 s = (if bq q s = 0 then 0 else 1) ∧ I2 19 s = (if bq q s = 0 then 0 else I (4 + s) (bq q s - 1)) ∧ I2 20 s = 0) ∧ (∀ i b, (i < 18 ∨ 20 < i) → I2 i b = I i b)) 0 0 = Z
  have loop : ∀ (d s : Nat) (I1 : Nat → Nat → Int), s + d = 4 → (∀ s9, s9 < s → I1 18 s9 = (if bq q s9 = 0 then 0 else 1) ∧ I1 19 s9 = (if bq q s9 = 0 then 0 else I (4 + s9) (bq q s9 - 1)) ∧ I1 20 s9 = 0) → (∀ i b, (i < 18 ∨ 20 < i) → I1 i b = I i b) → aW G YX5_setWays (ab_rm 1 0 0) Z 0 0 (104, I1, F) 2 [some (ab_r 65), some (ab_r 17), some (ab_i (q : Int)), some (ab_i (s : Int)), none] [] := by
    intro d
    induction d with
    | zero =>
      intro s I1 hs9 hP hfr
      have hs4 : s = 4 := by omega
      subst hs4
      refine aw_iload_n dX5_setWays_2 rfl ?_
      refine aw_iconst dX5_setWays_3 ?_
      refine aw_icmp_ge (tgt := 57) dX5_setWays_4 rfl (by first | assumption | (unfold ab_In at *; omega)) (by first | assumption | (unfold ab_In at *; omega)) (fun c_4 => ?_) (fun c_4 => ?_)
      · rw [← hZ]
        refine aw_return dX5_setWays_57 rfl ?_
        exact ⟨rfl, I1, rfl, hP, hfr⟩
      · exfalso; omega
    | succ d ih =>
      intro s I1 hs9 hP hfr
      have hs : s < 4 := by omega
      have hbl := bq_lt q s
      refine aw_iload_n dX5_setWays_2 rfl ?_
      refine aw_iconst dX5_setWays_3 ?_
      refine aw_icmp_ge (tgt := 57) dX5_setWays_4 rfl (by first | assumption | (unfold ab_In at *; omega)) (by first | assumption | (unfold ab_In at *; omega)) (fun c_4 => ?_) (fun c_4 => ?_)
      · exfalso; omega
      · refine aw_iload_n dX5_setWays_7 rfl ?_
        refine aw_iload_n dX5_setWays_8 rfl ?_
        refine aw_callS (as := [ab_i (q : Int), ab_i (s : Int)]) (rest := []) dX5_setWays_9 (ct_X5_barOf G (104, I1, F) q s hq hs) kX5_barOf sX5_barOf lX5_71 rfl (Nat.le_of_ble_eq_true rfl) (by decide) (by decide) (by decide) (by decide) ?_
        rintro _ _ ⟨rfl, rfl⟩
        refine aw_istore (ls' := [some (ab_r 65), some (ab_r 17), some (ab_i (q : Int)), some (ab_i (s : Int)), some (ab_i (bq q s : Int))]) dX5_setWays_12 (by decide) rfl ?_
        refine aw_iload dX5_setWays_14 rfl ?_
        refine aw_if_ne (tgt := 30) dX5_setWays_16 rfl (by first | assumption | (unfold ab_In at *; omega)) (fun c_16 => ?_) (fun c_16 => ?_)
        · refine aw_aload_n dX5_setWays_30 rfl (by decide) ?_
          refine aw_iload_n dX5_setWays_31 rfl ?_
          refine aw_iconst dX5_setWays_32 ?_
          refine aw_aload_n dX5_setWays_33 rfl (by decide) ?_
          refine aw_getrv (r := 2) dX5_setWays_34 fX5_30 ⟨Nat.le_of_ble_eq_true rfl, Nat.le_of_ble_eq_true rfl⟩ rfl rfl (hF.at 65 0 2 rfl rfl rfl) ?_
          refine aw_getrv (r := 3) dX5_setWays_37 fX5_66 ⟨Nat.le_of_ble_eq_true rfl, Nat.le_of_ble_eq_true rfl⟩ rfl rfl (hF.at 2 0 3 rfl rfl rfl) ?_
          refine aw_iload_n dX5_setWays_40 rfl ?_
          refine aw_aaldv (r := 4 + s) dX5_setWays_41 ⟨Nat.le_of_ble_eq_true rfl, Nat.le_of_ble_eq_true rfl⟩ rfl (by decide) (by omega) (by omega) (by decide) (hF.w hs) ?_
          refine aw_iload dX5_setWays_42 rfl ?_
          refine aw_iconst dX5_setWays_44 ?_
          refine aw_isub dX5_setWays_45 ?_
          refine aw_to (z := ((bq q s - 1 : Nat) : Int)) (by omega) ?_
          refine aw_ialdq (q := ((bq q s - 1 : Nat) : Int).toNat) (v := I1 (4 + s) ((bq q s - 1 : Nat) : Int).toNat) dX5_setWays_46 ⟨by omega, by omega⟩ (sh_w hs) (by omega) (by omega) (by decide) rfl rfl ?_
          refine aw_iconst dX5_setWays_47 ?_
          refine aw_callV (as := [ab_i (s : Int), ab_i 1, ab_i (I1 (4 + s) ((bq q s - 1 : Nat) : Int).toNat), ab_i 0]) (rest := []) dX5_setWays_48 (ct_X7_setWay_17 G I1 F hF s 1 (I1 (4 + s) ((bq q s - 1 : Nat) : Int).toNat) 0 hs) ⟨Nat.le_of_ble_eq_true rfl, Nat.le_of_ble_eq_true rfl⟩ rfl kc7 rfl kX7_setWay iX7_setWay eX7_setWay lX5_77 rfl (Nat.le_of_ble_eq_true rfl) (by decide) (by decide) (by decide) (by decide) ?_
          rintro _ _ ⟨rfl, rfl⟩
          refine aw_iinc (ls' := [some (ab_r 65), some (ab_r 17), some (ab_i (q : Int)), some (ab_i ((s : Int) + 1)), some (ab_i (bq q s : Int))]) dX5_setWays_51 (by decide) rfl rfl ?_
          refine aw_goto (tgt := 2) dX5_setWays_54 rfl ?_
          have h9 := ih (s + 1) (ab_u (ab_u (ab_u I1 18 s 1) 19 s (I1 (4 + s) ((bq q s - 1 : Nat) : Int).toNat)) 20 s 0) (by omega) (fun s9 q9 => if e9 : s9 = s then (by rw [e9, ab_u_i (by decide), ab_u_i (by decide), ab_u_s, ab_u_i (by decide), ab_u_s, ab_u_s, if_neg (by omega), if_neg (by omega)]; exact ⟨rfl, hfr (4 + s) _ (by omega), rfl⟩) else (by rw [ab_u_o (by omega), ab_u_o (by omega), ab_u_o (by omega), ab_u_o (by omega), ab_u_o (by omega), ab_u_o (by omega), ab_u_o (by omega), ab_u_o (by omega), ab_u_o (by omega)]; exact hP s9 (by omega))) (fun i b hi => by rw [ab_u_i (by omega), ab_u_i (by omega), ab_u_i (by omega)]; exact hfr i b hi)
          exact aw_le (ab_le_c (ab_le_c (ab_le_c (ab_le_c (ab_le_n ab_le_nil))))) h9
        · refine aw_aload_n dX5_setWays_19 rfl (by decide) ?_
          refine aw_iload_n dX5_setWays_20 rfl ?_
          refine aw_iconst dX5_setWays_21 ?_
          refine aw_iconst dX5_setWays_22 ?_
          refine aw_iconst dX5_setWays_23 ?_
          refine aw_callV (as := [ab_i (s : Int), ab_i 0, ab_i 0, ab_i 0]) (rest := []) dX5_setWays_24 (ct_X7_setWay_17 G I1 F hF s 0 0 0 hs) ⟨Nat.le_of_ble_eq_true rfl, Nat.le_of_ble_eq_true rfl⟩ rfl kc7 rfl kX7_setWay iX7_setWay eX7_setWay lX5_77 rfl (Nat.le_of_ble_eq_true rfl) (by decide) (by decide) (by decide) (by decide) ?_
          rintro _ _ ⟨rfl, rfl⟩
          refine aw_goto (tgt := 51) dX5_setWays_27 rfl ?_
          refine aw_iinc (ls' := [some (ab_r 65), some (ab_r 17), some (ab_i (q : Int)), some (ab_i ((s : Int) + 1)), some (ab_i (bq q s : Int))]) dX5_setWays_51 (by decide) rfl rfl ?_
          refine aw_goto (tgt := 2) dX5_setWays_54 rfl ?_
          have h9 := ih (s + 1) (ab_u (ab_u (ab_u I1 18 s 0) 19 s 0) 20 s 0) (by omega) (fun s9 q9 => if e9 : s9 = s then (by rw [e9, ab_u_i (by decide), ab_u_i (by decide), ab_u_s, ab_u_i (by decide), ab_u_s, ab_u_s, if_pos (by omega), if_pos (by omega)]; exact ⟨rfl, rfl, rfl⟩) else (by rw [ab_u_o (by omega), ab_u_o (by omega), ab_u_o (by omega), ab_u_o (by omega), ab_u_o (by omega), ab_u_o (by omega), ab_u_o (by omega), ab_u_o (by omega), ab_u_o (by omega)]; exact hP s9 (by omega))) (fun i b hi => by rw [ab_u_i (by omega), ab_u_i (by omega), ab_u_i (by omega)]; exact hfr i b hi)
          exact aw_le (ab_le_c (ab_le_c (ab_le_c (ab_le_c (ab_le_n ab_le_nil))))) h9
  refine aw_iconst dX5_setWays_0 ?_
  refine aw_istore_n (ls' := [some (ab_r 65), some (ab_r 17), some (ab_i (q : Int)), some (ab_i 0), none]) dX5_setWays_1 (by decide) rfl ?_
  exact loop 4 0 I (by omega) (fun s9 q9 => by omega) (fun _ _ _ => rfl)
set_option maxHeartbeats 4000000 in
set_option maxRecDepth 100000 in
theorem ct_X5_isAtRest (G : ab_G) (I : Nat → Nat → Int) (F : Nat → Nat → Nat) (hF : ab_FB F) (g : Nat → Nat → Int) (hg : ∀ q s, q < 625 → s < 4 → I 66 (q * 4 + s) = g q s) (hgb : ∀ q s, -10000 ≤ g q s ∧ g q s ≤ 10000) (q : Nat) (hq : q < 625) : Ct G 1 0 0 YX5_isAtRest [ab_r 65, ab_i (q : Int)] (104, I, F) (fun r h => r = some (ab_i (if arQ g q = true then 1 else 0)) ∧ h = (104, I, F)) := by
  refine Ct.ofW kX5_isAtRest (ls := [some (ab_r 65), some (ab_i (q : Int)), none, none, none, none]) (Nat.le_of_ble_eq_true rfl) rfl ?_
  generalize hZ : ab_Z G (fun r h => r = some (ab_i (if arQ g q = true then 1 else 0)) ∧ h = (104, I, F)) 0 0 = Z
  have outer : ∀ (d s : Nat), s + d = 4 → (∀ s9 b, s9 < s → b < 5 → g (oq q s9 b) s9 ≤ g q s9) → aW G YX5_isAtRest (ab_rm 1 0 0) Z 0 0 (104, I, F) 2 [some (ab_r 65), some (ab_i (q : Int)), some (ab_i (s : Int)), none, none, none] [] := by
    intro d
    induction d with
    | zero =>
      intro s hs9 hP
      have hs4 : s = 4 := by omega
      subst hs4
      refine aw_iload_n dX5_isAtRest_2 rfl ?_
      refine aw_iconst dX5_isAtRest_3 ?_
      refine aw_icmp_ge (tgt := 80) dX5_isAtRest_4 rfl (by first | assumption | (unfold ab_In at *; omega)) (by first | assumption | (unfold ab_In at *; omega)) (fun c_4 => ?_) (fun c_4 => ?_)
      · refine aw_iconst dX5_isAtRest_80 ?_
        rw [← hZ]
        refine aw_breturn dX5_isAtRest_81 rfl (by omega) ?_
        exact ⟨by rw [if_pos (arQ_iff.mpr (fun s b hs hb => hP s b hs hb))], rfl⟩
      · exfalso; omega
    | succ d ih =>
      intro s hs9 hP
      have hs : s < 4 := by omega
      have h5 := pw5 hs
      have hbl := bq_le (q := q) hs
      have inner : ∀ (e b : Nat), b + e = 5 → (∀ b9, b9 < b → g (oq q s b9) s ≤ g q s) → aW G YX5_isAtRest (ab_rm 1 0 0) Z 0 0 (104, I, F) 24 [some (ab_r 65), some (ab_i (q : Int)), some (ab_i (s : Int)), some (ab_i ((q - bq q s * 5 ^ s : Nat) : Int)), some (ab_i (b : Int)), none] [] := by
        intro e
        induction e with
        | zero =>
          intro b hb9 hP2
          have hb5 : b = 5 := by omega
          subst hb5
          refine aw_iload dX5_isAtRest_24 rfl ?_
          refine aw_iconst dX5_isAtRest_26 ?_
          refine aw_icmp_ge (tgt := 74) dX5_isAtRest_27 rfl (by first | assumption | (unfold ab_In at *; omega)) (by first | assumption | (unfold ab_In at *; omega)) (fun c_27 => ?_) (fun c_27 => ?_)
          · refine aw_iinc (ls' := [some (ab_r 65), some (ab_i (q : Int)), some (ab_i ((s : Int) + 1)), some (ab_i ((q - bq q s * 5 ^ s : Nat) : Int)), some (ab_i ((5 : Nat) : Int)), none]) dX5_isAtRest_74 (by decide) rfl rfl ?_
            refine aw_goto (tgt := 2) dX5_isAtRest_77 rfl ?_
            have h9 := ih (s + 1) (by omega) (fun s9 b9 q1 q2 => if e9 : s9 = s then e9 ▸ hP2 b9 q2 else hP s9 b9 (by omega) q2)
            exact aw_le (ab_le_c (ab_le_c (ab_le_c (ab_le_n (ab_le_n (ab_le_n ab_le_nil)))))) h9
          · exfalso; omega
        | succ e ihe =>
          intro b hb9 hP2
          have hol := oq_lt hq hs (show b < 5 by omega)
          have g1 := hgb (oq q s b) s
          have g2 := hgb q s
          have i1 := hg (oq q s b) s hol hs
          have i2 := hg q s hq hs
          obtain ⟨x, hx⟩ : ∃ x, oq q s b = x := ⟨_, rfl⟩
          rw [hx] at hol g1 i1
          refine aw_iload dX5_isAtRest_24 rfl ?_
          refine aw_iconst dX5_isAtRest_26 ?_
          refine aw_icmp_ge (tgt := 74) dX5_isAtRest_27 rfl (by first | assumption | (unfold ab_In at *; omega)) (by first | assumption | (unfold ab_In at *; omega)) (fun c_27 => ?_) (fun c_27 => ?_)
          · exfalso; omega
          · refine aw_iload_n dX5_isAtRest_30 rfl ?_
            refine aw_iload dX5_isAtRest_31 rfl ?_
            refine aw_getsN dX5_isAtRest_33 ab_zfig gNX5_74 ?_
            refine aw_iload_n dX5_isAtRest_36 rfl ?_
            refine aw_ifig dX5_isAtRest_37 (by omega) (by omega) ?_
            refine aw_to (z := ((5 ^ s : Nat) : Int)) (fig_eq hs) ?_
            refine aw_imul dX5_isAtRest_38 ?_
            refine aw_iadd dX5_isAtRest_39 ?_
            refine aw_to (z := (x : Int)) (by rw [← hx]; unfold oq; rw [Int.natCast_add, Int.natCast_mul]) ?_
            refine aw_istore (ls' := [some (ab_r 65), some (ab_i (q : Int)), some (ab_i (s : Int)), some (ab_i ((q - bq q s * 5 ^ s : Nat) : Int)), some (ab_i (b : Int)), some (ab_i (x : Int))]) dX5_isAtRest_40 (by decide) rfl ?_
            refine aw_aload_n dX5_isAtRest_42 rfl (by decide) ?_
            refine aw_getrv (r := 66) dX5_isAtRest_43 fX5_9 ⟨Nat.le_of_ble_eq_true rfl, Nat.le_of_ble_eq_true rfl⟩ rfl rfl (hF.at 65 1 66 rfl rfl rfl) ?_
            refine aw_iload dX5_isAtRest_46 rfl ?_
            refine aw_iconst dX5_isAtRest_48 ?_
            refine aw_imul dX5_isAtRest_49 ?_
            refine aw_iload_n dX5_isAtRest_50 rfl ?_
            refine aw_iadd dX5_isAtRest_51 ?_
            refine aw_ialdq (q := (x * 4 + s)) (v := (g x s)) dX5_isAtRest_52 ⟨Nat.le_of_ble_eq_true rfl, Nat.le_of_ble_eq_true rfl⟩ rfl (by omega) (by omega) (by decide) (by omega) i1 ?_
            refine aw_aload_n dX5_isAtRest_53 rfl (by decide) ?_
            refine aw_getrv (r := 66) dX5_isAtRest_54 fX5_9 ⟨Nat.le_of_ble_eq_true rfl, Nat.le_of_ble_eq_true rfl⟩ rfl rfl (hF.at 65 1 66 rfl rfl rfl) ?_
            refine aw_iload_n dX5_isAtRest_57 rfl ?_
            refine aw_iconst dX5_isAtRest_58 ?_
            refine aw_imul dX5_isAtRest_59 ?_
            refine aw_iload_n dX5_isAtRest_60 rfl ?_
            refine aw_iadd dX5_isAtRest_61 ?_
            refine aw_ialdq (q := (q * 4 + s)) (v := (g q s)) dX5_isAtRest_62 ⟨Nat.le_of_ble_eq_true rfl, Nat.le_of_ble_eq_true rfl⟩ rfl (by omega) (by omega) (by decide) (by omega) i2 ?_
            refine aw_icmp_le (tgt := 68) dX5_isAtRest_63 rfl (by first | assumption | (unfold ab_In at *; omega)) (by first | assumption | (unfold ab_In at *; omega)) (fun c_63 => ?_) (fun c_63 => ?_)
            · refine aw_iinc (ls' := [some (ab_r 65), some (ab_i (q : Int)), some (ab_i (s : Int)), some (ab_i ((q - bq q s * 5 ^ s : Nat) : Int)), some (ab_i ((b : Int) + 1)), some (ab_i (x : Int))]) dX5_isAtRest_68 (by decide) rfl rfl ?_
              refine aw_goto (tgt := 24) dX5_isAtRest_71 rfl ?_
              have h9 := ihe (b + 1) (by omega) (fun b9 q9 => if e9 : b9 = b then (by rw [e9, hx]; omega) else hP2 b9 (by omega))
              exact aw_le (ab_le_c (ab_le_c (ab_le_c (ab_le_c (ab_le_c (ab_le_n ab_le_nil)))))) h9
            · refine aw_iconst dX5_isAtRest_66 ?_
              rw [← hZ]
              refine aw_breturn dX5_isAtRest_67 rfl (by omega) ?_
              exact ⟨by rw [if_neg (fun h9 => by have := arQ_iff.mp h9 s b hs (by omega); rw [hx] at this; omega)], rfl⟩
      refine aw_iload_n dX5_isAtRest_2 rfl ?_
      refine aw_iconst dX5_isAtRest_3 ?_
      refine aw_icmp_ge (tgt := 80) dX5_isAtRest_4 rfl (by first | assumption | (unfold ab_In at *; omega)) (by first | assumption | (unfold ab_In at *; omega)) (fun c_4 => ?_) (fun c_4 => ?_)
      · exfalso; omega
      · refine aw_iload_n dX5_isAtRest_7 rfl ?_
        refine aw_iload_n dX5_isAtRest_8 rfl ?_
        refine aw_iload_n dX5_isAtRest_9 rfl ?_
        refine aw_callS (as := [ab_i (q : Int), ab_i (s : Int)]) (rest := [ab_i (q : Int)]) dX5_isAtRest_10 (ct_X5_barOf G (104, I, F) q s hq hs) kX5_barOf sX5_barOf lX5_71 rfl (Nat.le_of_ble_eq_true rfl) (by decide) (by decide) (by decide) (by decide) ?_
        rintro _ _ ⟨rfl, rfl⟩
        refine aw_getsN dX5_isAtRest_13 ab_zfig gNX5_74 ?_
        refine aw_iload_n dX5_isAtRest_16 rfl ?_
        refine aw_ifig dX5_isAtRest_17 (by omega) (by omega) ?_
        refine aw_to (z := ((5 ^ s : Nat) : Int)) (fig_eq hs) ?_
        refine aw_imul dX5_isAtRest_18 ?_
        refine aw_isub dX5_isAtRest_19 ?_
        refine aw_to (z := ((q - bq q s * 5 ^ s : Nat) : Int)) (by rw [Int.ofNat_sub hbl, Int.natCast_mul]) ?_
        refine aw_istore_n (ls' := [some (ab_r 65), some (ab_i (q : Int)), some (ab_i (s : Int)), some (ab_i ((q - bq q s * 5 ^ s : Nat) : Int)), none, none]) dX5_isAtRest_20 (by decide) rfl ?_
        refine aw_iconst dX5_isAtRest_21 ?_
        refine aw_istore (ls' := [some (ab_r 65), some (ab_i (q : Int)), some (ab_i (s : Int)), some (ab_i ((q - bq q s * 5 ^ s : Nat) : Int)), some (ab_i 0), none]) dX5_isAtRest_22 (by decide) rfl ?_
        exact inner 5 0 (by omega) (fun b9 q9 => by omega)
  refine aw_iconst dX5_isAtRest_0 ?_
  refine aw_istore_n (ls' := [some (ab_r 65), some (ab_i (q : Int)), some (ab_i 0), none, none, none]) dX5_isAtRest_1 (by decide) rfl ?_
  exact outer 4 0 (by omega) (fun s9 b q9 => by omega)
