theorem fg_lb {I I1 : Nat → Nat → Int} (h96 : ∀ b, b < 16 → I1 96 b = I 95 b) (h95 : ∀ b, b < 4 ∨ 16 ≤ b → I1 95 b = I 95 b) (hfr : ∀ i b, i ≠ 90 → i ≠ 91 → i ≠ 92 → i ≠ 95 → i ≠ 96 → i ≠ 97 → (i = 89 → b < 88) → I1 i b = I i b) : ∀ i b, i ≠ 90 → i ≠ 91 → i ≠ 92 → i ≠ 96 → i ≠ 97 → (i = 89 → b < 88) → cp I1 95 96 16 i b = I i b := by
  intro i b q1 q2 q3 q4 q5 q6
  by_cases e : i = 95
  · subst e
    by_cases hb : b < 16
    · rw [cp_in hb]; exact h96 b hb
    · rw [cp_out hb]; exact h95 b (by omega)
  · rw [cp_ne e]; exact hfr i b q1 q2 q3 e q4 q5 q6
theorem fg_put {g : Nat → Nat → Int} {I2 : Nat → Nat → Int} {q : Nat} (h : ∀ q8 s8, q8 < q → s8 < 4 → I2 97 (4 * q8 + s8) = g q8 s8) : ∀ q9 s9, q9 < q + 1 → s9 < 4 → ab_u (ab_u (ab_u (ab_u I2 97 (4 * q) (g q 0)) 97 (4 * q + 1) (g q 1)) 97 (4 * q + 2) (g q 2)) 97 (4 * q + 3) (g q 3) 97 (4 * q9 + s9) = g q9 s9 := by
  intro q9 s9 e1 e2
  by_cases e : q9 = q
  · subst e
    match s9, e2 with
    | 0, _ => rw [ab_u_j (by omega), ab_u_j (by omega), ab_u_j (by omega), Nat.add_zero, ab_u_s]
    | 1, _ => rw [ab_u_j (by omega), ab_u_j (by omega), ab_u_s]
    | 2, _ => rw [ab_u_j (by omega), ab_u_s]
    | 3, _ => rw [ab_u_s]
  · rw [ab_u_j (by omega), ab_u_j (by omega), ab_u_j (by omega), ab_u_j (by omega)]
    exact h q9 s9 (by omega) e2
set_option maxHeartbeats 4000000 in
set_option maxRecDepth 100000 in
theorem ct_X12_findGains (G : ab_G) (I : Nat → Nat → Int) (F : Nat → Nat → Nat) (hF : ab_FB F) (L : List P5) (wk nx : Int) (n : Nat) (hC : RS I L wk nx (2 * wk)) (hq : Nq L nx) (hwk : 0 ≤ wk ∧ wk + n ≤ 2900) (hnx : 0 ≤ nx ∧ nx + 13 * n ≤ 90000) (hT : TBM I) (hR : RBM I) (hn : 1 ≤ n ∧ n ≤ 40) : Ct G 5 0 0 YX12_findGains [ab_r 84, ab_i (n : Int)] (104, I, F) (fun r h => r = none ∧ ∃ I3, h = (104, I3, F) ∧ (∀ q s, q < 625 → s < 4 → I3 97 (4 * q + s) = (gnM I n wk L nx) q s) ∧ (∀ i b, i ≠ 90 → i ≠ 91 → i ≠ 92 → i ≠ 96 → i ≠ 97 → (i = 89 → b < 88) → I3 i b = I i b)) := by
  refine Ct.ofW kX12_findGains (ls := [some (ab_r 84), some (ab_i (n : Int)), none, none, none, none]) (Nat.le_of_ble_eq_true rfl) rfl ?_
  have hge : ∀ q s, (gnM I n wk L nx) q s = (wkN (ruQ (ruM I) (tnM I) q) (tnM I) (kdM I 2 87) (kdM I 4 88) n wk L nx).2.2.1 2 s - (wkN (ruQ (ruM I) (tnM I) q) (tnM I) (kdM I 2 87) (kdM I 4 88) n wk L nx).2.2.1 5 s := fun _ _ => rfl
  generalize hgx : (gnM I n wk L nx) = g at *
  generalize hZ : ab_Z G (fun r h => r = none ∧ ∃ I3, h = (104, I3, F) ∧ (∀ q s, q < 625 → s < 4 → I3 97 (4 * q + s) = g q s) ∧ (∀ i b, i ≠ 90 → i ≠ 91 → i ≠ 92 → i ≠ 96 → i ≠ 97 → (i = 89 → b < 88) → I3 i b = I i b)) 0 0 = Z
  have loop : ∀ (d q : Nat) (I1 : Nat → Nat → Int), q + d = 625 → (∀ q9 s9, q9 < q → s9 < 4 → I1 97 (4 * q9 + s9) = g q9 s9) → (∀ b, b < 16 → I1 96 b = I 95 b) → (∀ b, b < 4 ∨ 16 ≤ b → I1 95 b = I 95 b) → (∀ i b, i ≠ 90 → i ≠ 91 → i ≠ 92 → i ≠ 95 → i ≠ 96 → i ≠ 97 → (i = 89 → b < 88) → I1 i b = I i b) → aW G YX12_findGains (ab_rm 5 0 0) Z 0 0 (104, I1, F) 6 [some (ab_r 84), some (ab_i (n : Int)), some (ab_i (q : Int)), none, none, none] [] := by
    intro d
    induction d with
    | zero =>
      intro q I1 hq9 hg h96 h95 hfr
      have hqn : q = 625 := by omega
      subst hqn
      refine aw_iload_n dX12_findGains_6 rfl ?_
      refine aw_sipush dX12_findGains_7 rfl ?_
      refine aw_icmp_ge (tgt := 154) dX12_findGains_10 rfl (by first | assumption | (unfold ab_In at *; omega)) (by first | assumption | (unfold ab_In at *; omega)) (fun c_10 => ?_) (fun c_10 => ?_)
      · refine aw_aload_n dX12_findGains_154 rfl (by decide) ?_
        refine aw_callV (as := []) (rest := []) dX12_findGains_155 (ct_X12_layBackRules G I1 F hF) ⟨Nat.le_of_ble_eq_true rfl, Nat.le_of_ble_eq_true rfl⟩ rfl kc12 rfl kX12_layBackRules iX12_layBackRules eX12_layBackRules lX12_217 rfl (Nat.le_of_ble_eq_true rfl) (by decide) (by decide) (by decide) (by decide) ?_
        rintro _ _ ⟨rfl, rfl⟩
        rw [← hZ]
        refine aw_return dX12_findGains_158 rfl ?_
        refine ⟨rfl, _, rfl, fun q9 s9 e1 e2 => ?_, fun i b q1 q2 q3 q4 q5 q6 => ?_⟩
        · rw [cp_ne (by decide)]; exact hg q9 s9 e1 e2
        · exact fg_lb h96 h95 hfr i b q1 q2 q3 q4 q5 q6
      · exfalso; omega
    | succ d ih =>
      intro q I1 hq9 hg h96 h95 hfr
      have hq625 : q < 625 := by omega
      have s107 : ∀ (J : Nat → Nat → Int), (∀ s9, s9 < 4 → J 95 (4 + 3 * s9) = (if bq q s9 = 0 then 0 else 1) ∧ J 95 (5 + 3 * s9) = (if bq q s9 = 0 then 0 else I 85 (4 * s9 + (bq q s9 - 1))) ∧ J 95 (6 + 3 * s9) = 0) → (∀ b, b < 4 ∨ 16 ≤ b → J 95 b = I 95 b) → (∀ i b, i ≠ 95 → J i b = I1 i b) → aW G YX12_findGains (ab_rm 5 0 0) Z 0 0 (104, J, F) 107 [some (ab_r 84), some (ab_i (n : Int)), some (ab_i (q : Int)), none, none, none] [] := by
        intro J hw h95J hJ
        have hfJ : (∀ i b, i ≠ 90 → i ≠ 91 → i ≠ 92 → i ≠ 95 → i ≠ 96 → i ≠ 97 → (i = 89 → b < 88) → J i b = I i b) := fun i b q1 q2 q3 q4 q5 q6 q7 => (hJ i b q4).trans (hfr i b q1 q2 q3 q4 q5 q6 q7)
        have hJM : ∀ i, i ≤ 88 → J i = I i := fun i q1 => funext fun b => hfJ i b (by omega) (by omega) (by omega) (by omega) (by omega) (by omega) (by omega)
        have hTJ : TBM J := by unfold TBM at *; rw [hJM 84 (by decide), hJM 85 (by decide), hJM 86 (by decide), hJM 87 (by decide), hJM 88 (by decide)]; exact hT
        have hCJ : RS J L wk nx (2 * wk) := hC.ofc (fun b hb => hfJ 89 b (by decide) (by decide) (by decide) (by decide) (by decide) (by decide) (fun _ => hb))
        have hRJ : RBM J := RBM_Q (q := q) hR hT (fun b hb => h95J b (Or.inl hb)) hw
        have hwm : wkM J n wk L nx = wkN (ruQ (ruM I) (tnM I) q) (tnM I) (kdM I 2 87) (kdM I 4 88) n wk L nx := by unfold wkM; rw [ruM_Q (q := q) (fun b hb => h95J b (Or.inl hb)) hw]; unfold tnM kdM; rw [hJM 84 (by decide), hJM 85 (by decide), hJM 86 (by decide), hJM 87 (by decide), hJM 88 (by decide)]
        refine aw_aload_n dX12_findGains_107 rfl (by decide) ?_
        refine aw_iload_n dX12_findGains_108 rfl ?_
        refine aw_callV (as := [ab_i (n : Int)]) (rest := []) dX12_findGains_109 (ct_X12_goOn G J F hF L wk nx n hCJ hq hwk hnx hTJ hRJ) ⟨Nat.le_of_ble_eq_true rfl, Nat.le_of_ble_eq_true rfl⟩ rfl kc12 rfl kX12_goOn iX12_goOn eX12_goOn lX12_200 rfl (Nat.le_of_ble_eq_true rfl) (by decide) (by decide) (by decide) (by decide) ?_
        rintro _ _ ⟨rfl, I2, L2, rfl, hC2, hp2, hD2⟩
        rw [hwm] at hD2
        have hgq : ∀ (H : Nat → Nat → Int), (∀ i b, i ≠ 97 → H i b = I2 i b) → ∀ s, s < 4 → H 89 (68 + s) - H 90 (68 + s) - H 89 (80 + s) + H 90 (80 + s) = g q s := fun H hH s hs => by rw [hH 89 _ (by decide), hH 89 _ (by decide), hH 90 _ (by decide), hH 90 _ (by decide), gain_eq hD2 hs, hge]
        refine aw_iconst dX12_findGains_112 ?_
        refine aw_istore (ls' := [some (ab_r 84), some (ab_i (n : Int)), some (ab_i (q : Int)), none, some (ab_i 0), none]) dX12_findGains_113 (by decide) rfl ?_
        refine aw_iload dX12_findGains_115 rfl ?_
        refine aw_iconst dX12_findGains_117 ?_
        refine aw_icmp_ge (tgt := 144) dX12_findGains_118 rfl ⟨by decide, by decide⟩ ⟨by decide, by decide⟩ (fun c9 => absurd c9 (by decide)) (fun _ => ?_)
        refine aw_aload_n dX12_findGains_121 rfl (by decide) ?_
        refine aw_getrv (r := 97) dX12_findGains_122 fX12_47 ⟨Nat.le_of_ble_eq_true rfl, Nat.le_of_ble_eq_true rfl⟩ rfl rfl (hF.at 84 22 97 rfl rfl rfl) ?_
        refine aw_iconst dX12_findGains_125 ?_
        refine aw_iload_n dX12_findGains_126 rfl ?_
        refine aw_imul dX12_findGains_127 ?_
        refine aw_iload dX12_findGains_128 rfl ?_
        refine aw_iadd dX12_findGains_130 ?_
        refine aw_aload_n dX12_findGains_131 rfl (by decide) ?_
        refine aw_iload dX12_findGains_132 rfl ?_
        refine aw_callV (as := [ab_i 0]) (rest := [ab_i ((4 * (q : Int)) + 0), ab_r 97]) dX12_findGains_134 (ct_X12_gainOf G I2 F hF 0 (by decide)) ⟨Nat.le_of_ble_eq_true rfl, Nat.le_of_ble_eq_true rfl⟩ rfl kc12 rfl kX12_gainOf iX12_gainOf eX12_gainOf lX12_211 rfl (Nat.le_of_ble_eq_true rfl) (by decide) (by decide) (by decide) (by decide) ?_
        rintro r9 _ ⟨e9, rfl⟩
        rw [hgq I2 (fun i b hi => rfl) 0 (by decide)] at e9
        subst e9
        refine aw_iastv (q := (4 * q)) dX12_findGains_137 ⟨Nat.le_of_ble_eq_true rfl, Nat.le_of_ble_eq_true rfl⟩ rfl (by omega) (by omega) (by decide) (by omega) ?_
        refine aw_iinc (ls' := [some (ab_r 84), some (ab_i (n : Int)), some (ab_i (q : Int)), none, some (ab_i 1), none]) dX12_findGains_138 (by decide) rfl rfl ?_
        refine aw_goto (tgt := 115) dX12_findGains_141 rfl ?_
        refine aw_iload dX12_findGains_115 rfl ?_
        refine aw_iconst dX12_findGains_117 ?_
        refine aw_icmp_ge (tgt := 144) dX12_findGains_118 rfl ⟨by decide, by decide⟩ ⟨by decide, by decide⟩ (fun c9 => absurd c9 (by decide)) (fun _ => ?_)
        refine aw_aload_n dX12_findGains_121 rfl (by decide) ?_
        refine aw_getrv (r := 97) dX12_findGains_122 fX12_47 ⟨Nat.le_of_ble_eq_true rfl, Nat.le_of_ble_eq_true rfl⟩ rfl rfl (hF.at 84 22 97 rfl rfl rfl) ?_
        refine aw_iconst dX12_findGains_125 ?_
        refine aw_iload_n dX12_findGains_126 rfl ?_
        refine aw_imul dX12_findGains_127 ?_
        refine aw_iload dX12_findGains_128 rfl ?_
        refine aw_iadd dX12_findGains_130 ?_
        refine aw_aload_n dX12_findGains_131 rfl (by decide) ?_
        refine aw_iload dX12_findGains_132 rfl ?_
        refine aw_callV (as := [ab_i 1]) (rest := [ab_i ((4 * (q : Int)) + 1), ab_r 97]) dX12_findGains_134 (ct_X12_gainOf G (ab_u I2 97 (4 * q) (g q 0)) F hF 1 (by decide)) ⟨Nat.le_of_ble_eq_true rfl, Nat.le_of_ble_eq_true rfl⟩ rfl kc12 rfl kX12_gainOf iX12_gainOf eX12_gainOf lX12_211 rfl (Nat.le_of_ble_eq_true rfl) (by decide) (by decide) (by decide) (by decide) ?_
        rintro r9 _ ⟨e9, rfl⟩
        rw [hgq (ab_u I2 97 (4 * q) (g q 0)) (fun i b hi => by rw [ab_u_i hi]) 1 (by decide)] at e9
        subst e9
        refine aw_iastv (q := (4 * q + 1)) dX12_findGains_137 ⟨Nat.le_of_ble_eq_true rfl, Nat.le_of_ble_eq_true rfl⟩ rfl (by omega) (by omega) (by decide) (by omega) ?_
        refine aw_iinc (ls' := [some (ab_r 84), some (ab_i (n : Int)), some (ab_i (q : Int)), none, some (ab_i 2), none]) dX12_findGains_138 (by decide) rfl rfl ?_
        refine aw_goto (tgt := 115) dX12_findGains_141 rfl ?_
        refine aw_iload dX12_findGains_115 rfl ?_
        refine aw_iconst dX12_findGains_117 ?_
        refine aw_icmp_ge (tgt := 144) dX12_findGains_118 rfl ⟨by decide, by decide⟩ ⟨by decide, by decide⟩ (fun c9 => absurd c9 (by decide)) (fun _ => ?_)
        refine aw_aload_n dX12_findGains_121 rfl (by decide) ?_
        refine aw_getrv (r := 97) dX12_findGains_122 fX12_47 ⟨Nat.le_of_ble_eq_true rfl, Nat.le_of_ble_eq_true rfl⟩ rfl rfl (hF.at 84 22 97 rfl rfl rfl) ?_
        refine aw_iconst dX12_findGains_125 ?_
        refine aw_iload_n dX12_findGains_126 rfl ?_
        refine aw_imul dX12_findGains_127 ?_
        refine aw_iload dX12_findGains_128 rfl ?_
        refine aw_iadd dX12_findGains_130 ?_
        refine aw_aload_n dX12_findGains_131 rfl (by decide) ?_
        refine aw_iload dX12_findGains_132 rfl ?_
        refine aw_callV (as := [ab_i 2]) (rest := [ab_i ((4 * (q : Int)) + 2), ab_r 97]) dX12_findGains_134 (ct_X12_gainOf G (ab_u (ab_u I2 97 (4 * q) (g q 0)) 97 (4 * q + 1) (g q 1)) F hF 2 (by decide)) ⟨Nat.le_of_ble_eq_true rfl, Nat.le_of_ble_eq_true rfl⟩ rfl kc12 rfl kX12_gainOf iX12_gainOf eX12_gainOf lX12_211 rfl (Nat.le_of_ble_eq_true rfl) (by decide) (by decide) (by decide) (by decide) ?_
        rintro r9 _ ⟨e9, rfl⟩
        rw [hgq (ab_u (ab_u I2 97 (4 * q) (g q 0)) 97 (4 * q + 1) (g q 1)) (fun i b hi => by rw [ab_u_i hi, ab_u_i hi]) 2 (by decide)] at e9
        subst e9
        refine aw_iastv (q := (4 * q + 2)) dX12_findGains_137 ⟨Nat.le_of_ble_eq_true rfl, Nat.le_of_ble_eq_true rfl⟩ rfl (by omega) (by omega) (by decide) (by omega) ?_
        refine aw_iinc (ls' := [some (ab_r 84), some (ab_i (n : Int)), some (ab_i (q : Int)), none, some (ab_i 3), none]) dX12_findGains_138 (by decide) rfl rfl ?_
        refine aw_goto (tgt := 115) dX12_findGains_141 rfl ?_
        refine aw_iload dX12_findGains_115 rfl ?_
        refine aw_iconst dX12_findGains_117 ?_
        refine aw_icmp_ge (tgt := 144) dX12_findGains_118 rfl ⟨by decide, by decide⟩ ⟨by decide, by decide⟩ (fun c9 => absurd c9 (by decide)) (fun _ => ?_)
        refine aw_aload_n dX12_findGains_121 rfl (by decide) ?_
        refine aw_getrv (r := 97) dX12_findGains_122 fX12_47 ⟨Nat.le_of_ble_eq_true rfl, Nat.le_of_ble_eq_true rfl⟩ rfl rfl (hF.at 84 22 97 rfl rfl rfl) ?_
        refine aw_iconst dX12_findGains_125 ?_
        refine aw_iload_n dX12_findGains_126 rfl ?_
        refine aw_imul dX12_findGains_127 ?_
        refine aw_iload dX12_findGains_128 rfl ?_
        refine aw_iadd dX12_findGains_130 ?_
        refine aw_aload_n dX12_findGains_131 rfl (by decide) ?_
        refine aw_iload dX12_findGains_132 rfl ?_
        refine aw_callV (as := [ab_i 3]) (rest := [ab_i ((4 * (q : Int)) + 3), ab_r 97]) dX12_findGains_134 (ct_X12_gainOf G (ab_u (ab_u (ab_u I2 97 (4 * q) (g q 0)) 97 (4 * q + 1) (g q 1)) 97 (4 * q + 2) (g q 2)) F hF 3 (by decide)) ⟨Nat.le_of_ble_eq_true rfl, Nat.le_of_ble_eq_true rfl⟩ rfl kc12 rfl kX12_gainOf iX12_gainOf eX12_gainOf lX12_211 rfl (Nat.le_of_ble_eq_true rfl) (by decide) (by decide) (by decide) (by decide) ?_
        rintro r9 _ ⟨e9, rfl⟩
        rw [hgq (ab_u (ab_u (ab_u I2 97 (4 * q) (g q 0)) 97 (4 * q + 1) (g q 1)) 97 (4 * q + 2) (g q 2)) (fun i b hi => by rw [ab_u_i hi, ab_u_i hi, ab_u_i hi]) 3 (by decide)] at e9
        subst e9
        refine aw_iastv (q := (4 * q + 3)) dX12_findGains_137 ⟨Nat.le_of_ble_eq_true rfl, Nat.le_of_ble_eq_true rfl⟩ rfl (by omega) (by omega) (by decide) (by omega) ?_
        refine aw_iinc (ls' := [some (ab_r 84), some (ab_i (n : Int)), some (ab_i (q : Int)), none, some (ab_i 4), none]) dX12_findGains_138 (by decide) rfl rfl ?_
        refine aw_goto (tgt := 115) dX12_findGains_141 rfl ?_
        refine aw_iload dX12_findGains_115 rfl ?_
        refine aw_iconst dX12_findGains_117 ?_
        refine aw_icmp_ge (tgt := 144) dX12_findGains_118 rfl ⟨by decide, by decide⟩ ⟨by decide, by decide⟩ (fun _ => ?_) (fun c9 => absurd (by decide) c9)
        refine aw_aload_n dX12_findGains_144 rfl (by decide) ?_
        refine aw_callV (as := []) (rest := []) dX12_findGains_145 (ct_X12_layBack G (ab_u (ab_u (ab_u (ab_u I2 97 (4 * q) (g q 0)) 97 (4 * q + 1) (g q 1)) 97 (4 * q + 2) (g q 2)) 97 (4 * q + 3) (g q 3)) F hF) ⟨Nat.le_of_ble_eq_true rfl, Nat.le_of_ble_eq_true rfl⟩ rfl kc12 rfl kX12_layBack iX12_layBack eX12_layBack lX12_207 rfl (Nat.le_of_ble_eq_true rfl) (by decide) (by decide) (by decide) (by decide) ?_
        rintro _ _ ⟨rfl, rfl⟩
        refine aw_iinc (ls' := [some (ab_r 84), some (ab_i (n : Int)), some (ab_i ((q : Int) + 1)), none, some (ab_i 4), none]) dX12_findGains_148 (by decide) rfl rfl ?_
        refine aw_goto (tgt := 6) dX12_findGains_151 rfl ?_
        have h9 := ih (q + 1) (cp (ab_u (ab_u (ab_u (ab_u I2 97 (4 * q) (g q 0)) 97 (4 * q + 1) (g q 1)) 97 (4 * q + 2) (g q 2)) 97 (4 * q + 3) (g q 3)) 89 90 88) (by omega) ?_ ?_ ?_ ?_
        · exact aw_le (ab_le_c (ab_le_c (ab_le_c (ab_le_n (ab_le_n (ab_le_n ab_le_nil)))))) h9
        · intro q9 s9 e1 e2
          rw [cp_ne (by decide)]
          exact fg_put (fun q8 s8 f1 f2 => by rw [hD2.2.2 97 _ (by decide) (by decide) (by decide), cp_ne (by decide), hJ 97 _ (by decide)]; exact hg q8 s8 f1 f2) q9 s9 e1 e2
        · intro b hb
          rw [cp_ne (by decide), ab_u_i (by decide), ab_u_i (by decide), ab_u_i (by decide), ab_u_i (by decide), hD2.2.2 96 _ (by decide) (by decide) (by decide), cp_ne (by decide), hJ 96 _ (by decide)]; exact h96 b hb
        · intro b hb
          rw [cp_ne (by decide), ab_u_i (by decide), ab_u_i (by decide), ab_u_i (by decide), ab_u_i (by decide), hD2.2.2 95 _ (by decide) (by decide) (by decide), cp_ne (by decide)]; exact h95J b hb
        · intro i b q1 q2 q3 q4 q5 q6 q7
          by_cases e : i = 89
          · subst e
            rw [cp_in (q7 rfl), ab_u_i (by decide), ab_u_i (by decide), ab_u_i (by decide), ab_u_i (by decide), hD2.2.2 90 _ (by decide) (by decide) (by decide), cp_in (q7 rfl)]; exact hfJ 89 b q1 q2 q3 q4 q5 q6 q7
          · rw [cp_ne e, ab_u_i q6, ab_u_i q6, ab_u_i q6, ab_u_i q6, hD2.2.2 i b e q2 q3, cp_ne q1]; exact hfJ i b q1 q2 q3 q4 q5 q6 q7
      have wl : ∀ (e s : Nat) (J : Nat → Nat → Int), s + e = 4 → (∀ s9, s9 < s → J 95 (4 + 3 * s9) = (if bq q s9 = 0 then 0 else 1) ∧ J 95 (5 + 3 * s9) = (if bq q s9 = 0 then 0 else I 85 (4 * s9 + (bq q s9 - 1))) ∧ J 95 (6 + 3 * s9) = 0) → (∀ b, b < 4 ∨ 16 ≤ b → J 95 b = I 95 b) → (∀ i b, i ≠ 95 → J i b = I1 i b) → aW G YX12_findGains (ab_rm 5 0 0) Z 0 0 (104, J, F) 18 [some (ab_r 84), some (ab_i (n : Int)), some (ab_i (q : Int)), some (ab_i ((q / 5 ^ s : Nat) : Int)), some (ab_i (s : Int)), none] [] := by
        intro e
        induction e with
        | zero =>
          intro s J hs9 hw h95J hJ
          have hs4 : s = 4 := by omega
          subst hs4
          refine aw_iload dX12_findGains_18 rfl ?_
          refine aw_iconst dX12_findGains_20 ?_
          refine aw_icmp_ge (tgt := 107) dX12_findGains_21 rfl (by first | assumption | (unfold ab_In at *; omega)) (by first | assumption | (unfold ab_In at *; omega)) (fun c_21 => ?_) (fun c_21 => ?_)
          · exact aw_le (ls' := [some (ab_r 84), some (ab_i (n : Int)), some (ab_i (q : Int)), none, none, none]) (ab_le_c (ab_le_c (ab_le_c (ab_le_n (ab_le_n (ab_le_n ab_le_nil)))))) (s107 J hw h95J hJ)
          · exfalso; omega
        | succ e ihe =>
          intro s J hs9 hw h95J hJ
          have hs : s < 4 := by omega
          have hbl := bq_lt q s
          have hdq : q / 5 ^ s < 2147483648 := Nat.lt_of_le_of_lt (Nat.div_le_self _ _) (by omega)
          have h85 : ∀ b, J 85 b = I 85 b := fun b => (hJ 85 b (by decide)).trans (hfr 85 b (by decide) (by decide) (by decide) (by decide) (by decide) (by decide) (by omega))
          refine aw_iload dX12_findGains_18 rfl ?_
          refine aw_iconst dX12_findGains_20 ?_
          refine aw_icmp_ge (tgt := 107) dX12_findGains_21 rfl (by first | assumption | (unfold ab_In at *; omega)) (by first | assumption | (unfold ab_In at *; omega)) (fun c_21 => ?_) (fun c_21 => ?_)
          · exfalso; omega
          · refine aw_iload_n dX12_findGains_24 rfl ?_
            refine aw_iconst dX12_findGains_25 ?_
            refine aw_irem dX12_findGains_26 (by unfold ab_In; omega) (by omega) ?_
            refine aw_to (z := ((bq q s : Nat) : Int)) (nat_rem (b := 5) hdq (by decide) (by decide)) ?_
            refine aw_istore (ls' := [some (ab_r 84), some (ab_i (n : Int)), some (ab_i (q : Int)), some (ab_i ((q / 5 ^ s : Nat) : Int)), some (ab_i (s : Int)), some (ab_i ((bq q s : Nat) : Int))]) dX12_findGains_27 (by decide) rfl ?_
            refine aw_aload_n dX12_findGains_29 rfl (by decide) ?_
            refine aw_getrv (r := 95) dX12_findGains_30 fX12_41 ⟨Nat.le_of_ble_eq_true rfl, Nat.le_of_ble_eq_true rfl⟩ rfl rfl (hF.at 84 20 95 rfl rfl rfl) ?_
            refine aw_iconst dX12_findGains_33 ?_
            refine aw_iconst dX12_findGains_34 ?_
            refine aw_iload dX12_findGains_35 rfl ?_
            refine aw_imul dX12_findGains_37 ?_
            refine aw_iadd dX12_findGains_38 ?_
            refine aw_iload dX12_findGains_39 rfl ?_
            refine aw_if_ne (tgt := 48) dX12_findGains_41 rfl (by first | assumption | (unfold ab_In at *; omega)) (fun c_41 => ?_) (fun c_41 => ?_)
            · refine aw_iconst dX12_findGains_48 ?_
              refine aw_iastv (q := (4 + 3 * s)) dX12_findGains_49 ⟨Nat.le_of_ble_eq_true rfl, Nat.le_of_ble_eq_true rfl⟩ rfl (by omega) (by omega) (by decide) (by omega) ?_
              refine aw_aload_n dX12_findGains_50 rfl (by decide) ?_
              refine aw_getrv (r := 95) dX12_findGains_51 fX12_41 ⟨Nat.le_of_ble_eq_true rfl, Nat.le_of_ble_eq_true rfl⟩ rfl rfl (hF.at 84 20 95 rfl rfl rfl) ?_
              refine aw_iconst dX12_findGains_54 ?_
              refine aw_iconst dX12_findGains_55 ?_
              refine aw_iload dX12_findGains_56 rfl ?_
              refine aw_imul dX12_findGains_58 ?_
              refine aw_iadd dX12_findGains_59 ?_
              refine aw_iload dX12_findGains_60 rfl ?_
              refine aw_if_ne (tgt := 69) dX12_findGains_62 rfl (by first | assumption | (unfold ab_In at *; omega)) (fun c_62 => ?_) (fun c_62 => ?_)
              · refine aw_aload_n dX12_findGains_69 rfl (by decide) ?_
                refine aw_getrv (r := 85) dX12_findGains_70 fX12_7 ⟨Nat.le_of_ble_eq_true rfl, Nat.le_of_ble_eq_true rfl⟩ rfl rfl (hF.at 84 0 85 rfl rfl rfl) ?_
                refine aw_iconst dX12_findGains_73 ?_
                refine aw_iload dX12_findGains_74 rfl ?_
                refine aw_imul dX12_findGains_76 ?_
                refine aw_iload dX12_findGains_77 rfl ?_
                refine aw_iadd dX12_findGains_79 ?_
                refine aw_iconst dX12_findGains_80 ?_
                refine aw_isub dX12_findGains_81 ?_
                refine aw_to (z := ((4 * s + (bq q s - 1) : Nat) : Int)) (by omega) ?_
                refine aw_ialdq (q := ((4 * s + (bq q s - 1) : Nat) : Int).toNat) (v := J 85 (((4 * s + (bq q s - 1) : Nat) : Int).toNat)) dX12_findGains_82 ⟨Nat.le_of_ble_eq_true rfl, Nat.le_of_ble_eq_true rfl⟩ rfl (by omega) (by omega) (by decide) rfl (ab_u_i (by decide)) ?_
                refine aw_iastv (q := (5 + 3 * s)) dX12_findGains_83 ⟨Nat.le_of_ble_eq_true rfl, Nat.le_of_ble_eq_true rfl⟩ rfl (by omega) (by omega) (by decide) (by omega) ?_
                refine aw_aload_n dX12_findGains_84 rfl (by decide) ?_
                refine aw_getrv (r := 95) dX12_findGains_85 fX12_41 ⟨Nat.le_of_ble_eq_true rfl, Nat.le_of_ble_eq_true rfl⟩ rfl rfl (hF.at 84 20 95 rfl rfl rfl) ?_
                refine aw_bipush dX12_findGains_88 rfl ?_
                refine aw_iconst dX12_findGains_90 ?_
                refine aw_iload dX12_findGains_91 rfl ?_
                refine aw_imul dX12_findGains_93 ?_
                refine aw_iadd dX12_findGains_94 ?_
                refine aw_iconst dX12_findGains_95 ?_
                refine aw_iastv (q := (6 + 3 * s)) dX12_findGains_96 ⟨Nat.le_of_ble_eq_true rfl, Nat.le_of_ble_eq_true rfl⟩ rfl (by omega) (by omega) (by decide) (by omega) ?_
                refine aw_iload_n dX12_findGains_97 rfl ?_
                refine aw_iconst dX12_findGains_98 ?_
                refine aw_idiv dX12_findGains_99 (by unfold ab_In; omega) (by omega) ?_
                refine aw_to (z := ((q / 5 ^ (s + 1) : Nat) : Int)) ((nat_div (b := 5) hdq (by decide) (by decide)).trans (by rw [div_s])) ?_
                refine aw_istore_n (ls' := [some (ab_r 84), some (ab_i (n : Int)), some (ab_i (q : Int)), some (ab_i ((q / 5 ^ (s + 1) : Nat) : Int)), some (ab_i (s : Int)), some (ab_i ((bq q s : Nat) : Int))]) dX12_findGains_100 (by decide) rfl ?_
                refine aw_iinc (ls' := [some (ab_r 84), some (ab_i (n : Int)), some (ab_i (q : Int)), some (ab_i ((q / 5 ^ (s + 1) : Nat) : Int)), some (ab_i ((s : Int) + 1)), some (ab_i ((bq q s : Nat) : Int))]) dX12_findGains_101 (by decide) rfl rfl ?_
                refine aw_goto (tgt := 18) dX12_findGains_104 rfl ?_
                have h9 := ihe (s + 1) (ab_u (ab_u (ab_u J 95 (4 + 3 * s) 1) 95 (5 + 3 * s) (J 85 (((4 * s + (bq q s - 1) : Nat) : Int).toNat))) 95 (6 + 3 * s) 0) (by omega) (fun s9 q9 => if e9 : s9 = s then (by rw [e9, ab_u_j (by omega), ab_u_j (by omega), ab_u_s, ab_u_j (by omega), ab_u_s, ab_u_s, if_neg (by omega), if_neg (by omega)]; exact ⟨rfl, h85 _, rfl⟩) else (by rw [ab_u_j (by omega), ab_u_j (by omega), ab_u_j (by omega), ab_u_j (by omega), ab_u_j (by omega), ab_u_j (by omega), ab_u_j (by omega), ab_u_j (by omega), ab_u_j (by omega)]; exact hw s9 (by omega))) (fun b hb => by rw [ab_u_j (by omega), ab_u_j (by omega), ab_u_j (by omega)]; exact h95J b hb) (fun i b hi => by rw [ab_u_i hi, ab_u_i hi, ab_u_i hi]; exact hJ i b hi)
                exact aw_le (ab_le_c (ab_le_c (ab_le_c (ab_le_c (ab_le_c (ab_le_n ab_le_nil)))))) h9
              · exfalso; omega
            · refine aw_iconst dX12_findGains_44 ?_
              refine aw_goto (tgt := 49) dX12_findGains_45 rfl ?_
              refine aw_iastv (q := (4 + 3 * s)) dX12_findGains_49 ⟨Nat.le_of_ble_eq_true rfl, Nat.le_of_ble_eq_true rfl⟩ rfl (by omega) (by omega) (by decide) (by omega) ?_
              refine aw_aload_n dX12_findGains_50 rfl (by decide) ?_
              refine aw_getrv (r := 95) dX12_findGains_51 fX12_41 ⟨Nat.le_of_ble_eq_true rfl, Nat.le_of_ble_eq_true rfl⟩ rfl rfl (hF.at 84 20 95 rfl rfl rfl) ?_
              refine aw_iconst dX12_findGains_54 ?_
              refine aw_iconst dX12_findGains_55 ?_
              refine aw_iload dX12_findGains_56 rfl ?_
              refine aw_imul dX12_findGains_58 ?_
              refine aw_iadd dX12_findGains_59 ?_
              refine aw_iload dX12_findGains_60 rfl ?_
              refine aw_if_ne (tgt := 69) dX12_findGains_62 rfl (by first | assumption | (unfold ab_In at *; omega)) (fun c_62 => ?_) (fun c_62 => ?_)
              · exfalso; omega
              · refine aw_iconst dX12_findGains_65 ?_
                refine aw_goto (tgt := 83) dX12_findGains_66 rfl ?_
                refine aw_iastv (q := (5 + 3 * s)) dX12_findGains_83 ⟨Nat.le_of_ble_eq_true rfl, Nat.le_of_ble_eq_true rfl⟩ rfl (by omega) (by omega) (by decide) (by omega) ?_
                refine aw_aload_n dX12_findGains_84 rfl (by decide) ?_
                refine aw_getrv (r := 95) dX12_findGains_85 fX12_41 ⟨Nat.le_of_ble_eq_true rfl, Nat.le_of_ble_eq_true rfl⟩ rfl rfl (hF.at 84 20 95 rfl rfl rfl) ?_
                refine aw_bipush dX12_findGains_88 rfl ?_
                refine aw_iconst dX12_findGains_90 ?_
                refine aw_iload dX12_findGains_91 rfl ?_
                refine aw_imul dX12_findGains_93 ?_
                refine aw_iadd dX12_findGains_94 ?_
                refine aw_iconst dX12_findGains_95 ?_
                refine aw_iastv (q := (6 + 3 * s)) dX12_findGains_96 ⟨Nat.le_of_ble_eq_true rfl, Nat.le_of_ble_eq_true rfl⟩ rfl (by omega) (by omega) (by decide) (by omega) ?_
                refine aw_iload_n dX12_findGains_97 rfl ?_
                refine aw_iconst dX12_findGains_98 ?_
                refine aw_idiv dX12_findGains_99 (by unfold ab_In; omega) (by omega) ?_
                refine aw_to (z := ((q / 5 ^ (s + 1) : Nat) : Int)) ((nat_div (b := 5) hdq (by decide) (by decide)).trans (by rw [div_s])) ?_
                refine aw_istore_n (ls' := [some (ab_r 84), some (ab_i (n : Int)), some (ab_i (q : Int)), some (ab_i ((q / 5 ^ (s + 1) : Nat) : Int)), some (ab_i (s : Int)), some (ab_i ((bq q s : Nat) : Int))]) dX12_findGains_100 (by decide) rfl ?_
                refine aw_iinc (ls' := [some (ab_r 84), some (ab_i (n : Int)), some (ab_i (q : Int)), some (ab_i ((q / 5 ^ (s + 1) : Nat) : Int)), some (ab_i ((s : Int) + 1)), some (ab_i ((bq q s : Nat) : Int))]) dX12_findGains_101 (by decide) rfl rfl ?_
                refine aw_goto (tgt := 18) dX12_findGains_104 rfl ?_
                have h9 := ihe (s + 1) (ab_u (ab_u (ab_u J 95 (4 + 3 * s) 0) 95 (5 + 3 * s) 0) 95 (6 + 3 * s) 0) (by omega) (fun s9 q9 => if e9 : s9 = s then (by rw [e9, ab_u_j (by omega), ab_u_j (by omega), ab_u_s, ab_u_j (by omega), ab_u_s, ab_u_s, if_pos (by omega), if_pos (by omega)]; exact ⟨rfl, rfl, rfl⟩) else (by rw [ab_u_j (by omega), ab_u_j (by omega), ab_u_j (by omega), ab_u_j (by omega), ab_u_j (by omega), ab_u_j (by omega), ab_u_j (by omega), ab_u_j (by omega), ab_u_j (by omega)]; exact hw s9 (by omega))) (fun b hb => by rw [ab_u_j (by omega), ab_u_j (by omega), ab_u_j (by omega)]; exact h95J b hb) (fun i b hi => by rw [ab_u_i hi, ab_u_i hi, ab_u_i hi]; exact hJ i b hi)
                exact aw_le (ab_le_c (ab_le_c (ab_le_c (ab_le_c (ab_le_c (ab_le_n ab_le_nil)))))) h9
      refine aw_iload_n dX12_findGains_6 rfl ?_
      refine aw_sipush dX12_findGains_7 rfl ?_
      refine aw_icmp_ge (tgt := 154) dX12_findGains_10 rfl (by first | assumption | (unfold ab_In at *; omega)) (by first | assumption | (unfold ab_In at *; omega)) (fun c_10 => ?_) (fun c_10 => ?_)
      · exfalso; omega
      · refine aw_iload_n dX12_findGains_13 rfl ?_
        refine aw_istore_n (ls' := [some (ab_r 84), some (ab_i (n : Int)), some (ab_i (q : Int)), some (ab_i (q : Int)), none, none]) dX12_findGains_14 (by decide) rfl ?_
        refine aw_iconst dX12_findGains_15 ?_
        refine aw_istore (ls' := [some (ab_r 84), some (ab_i (n : Int)), some (ab_i (q : Int)), some (ab_i (q : Int)), some (ab_i 0), none]) dX12_findGains_16 (by decide) rfl ?_
        have h9 := wl 4 0 I1 (by omega) (fun s9 e9 => by omega) h95 (fun _ _ _ => rfl)
        rw [show q / 5 ^ 0 = q by simp] at h9
        exact h9
  refine aw_aload_n dX12_findGains_0 rfl (by decide) ?_
  refine aw_callV (as := []) (rest := []) dX12_findGains_1 (ct_X12_keepRules G I F hF) ⟨Nat.le_of_ble_eq_true rfl, Nat.le_of_ble_eq_true rfl⟩ rfl kc12 rfl kX12_keepRules iX12_keepRules eX12_keepRules lX12_214 rfl (Nat.le_of_ble_eq_true rfl) (by decide) (by decide) (by decide) (by decide) ?_
  rintro _ _ ⟨rfl, rfl⟩
  refine aw_iconst dX12_findGains_4 ?_
  refine aw_istore_n (ls' := [some (ab_r 84), some (ab_i (n : Int)), some (ab_i 0), none, none, none]) dX12_findGains_5 (by decide) rfl ?_
  exact loop 625 0 _ (by omega) (fun q9 s9 e1 => by omega) (fun b hb => cp_in hb) (fun b hb => cp_ne (by decide)) (fun i b _ _ _ _ q5 _ _ => cp_ne q5)
set_option maxHeartbeats 4000000 in
set_option maxRecDepth 100000 in
theorem ct_X12_rest (G : ab_G) (I : Nat → Nat → Int) (F : Nat → Nat → Nat) (hF : ab_FB F) (L : List P5) (wk nx : Int) (n : Nat) (hC : RS I L wk nx (2 * wk)) (hq : Nq L nx) (hwk : 0 ≤ wk ∧ wk + n ≤ 2900) (hnx : 0 ≤ nx ∧ nx + 13 * n ≤ 90000) (hT : TBM I) (hR : RBM I) (hn : 1 ≤ n ∧ n ≤ 40) (b : Int) (hb : ab_In b) (hb1 : -1 ≤ b) : Ct G 6 0 0 YX12_rest [ab_r 84, ab_i (n : Int), ab_i b] (104, I, F) (fun r h => r = some (ab_i (rvL (rsQ (gnM I n wk L nx)) b)) ∧ ∃ I3, h = (104, I3, F) ∧ (∀ i b, i ≠ 90 → i ≠ 91 → i ≠ 92 → i ≠ 96 → i ≠ 97 → (i = 89 → b < 88) → I3 i b = I i b)) := by
  refine Ct.ofW kX12_rest (ls := [some (ab_r 84), some (ab_i (n : Int)), some (ab_i b), none, none]) (Nat.le_of_ble_eq_true rfl) rfl ?_
  have hgb : ∀ q s, -10000 ≤ (gnM I n wk L nx) q s ∧ (gnM I n wk L nx) q s ≤ 10000 := gnQ_bd (tnM_B hT) hC.1 hn.2
  generalize hgx : (gnM I n wk L nx) = g at *
  generalize hZ : ab_Z G (fun r h => r = some (ab_i (rvL (rsQ g) b)) ∧ ∃ I3, h = (104, I3, F) ∧ (∀ i b, i ≠ 90 → i ≠ 91 → i ≠ 92 → i ≠ 96 → i ≠ 97 → (i = 89 → b < 88) → I3 i b = I i b)) 0 0 = Z
  have loop : ∀ (I1 : Nat → Nat → Int), (∀ q s, q < 625 → s < 4 → I1 97 (4 * q + s) = g q s) → (∀ i b, i ≠ 90 → i ≠ 91 → i ≠ 92 → i ≠ 96 → i ≠ 97 → (i = 89 → b < 88) → I1 i b = I i b) → ∀ (d q : Nat), q + d = 625 → (b = -1 ∨ ((rsP g q).length : Int) ≤ b) → aW G YX12_rest (ab_rm 6 0 0) Z 0 0 (104, I1, F) 28 [some (ab_r 84), some (ab_i (n : Int)), some (ab_i b), some (ab_i ((rsP g q).length : Int)), some (ab_i (q : Int))] [] := by
    intro I1 hg hfr d
    induction d with
    | zero =>
      intro q hq9 hbq
      have hqn : q = 625 := by omega
      subst hqn
      have he := rvL_end hb1 hbq
      refine aw_iload dX12_rest_28 rfl ?_
      refine aw_sipush dX12_rest_30 rfl ?_
      refine aw_icmp_ge (tgt := 62) dX12_rest_33 rfl (by first | assumption | (unfold ab_In at *; omega)) (by first | assumption | (unfold ab_In at *; omega)) (fun c_33 => ?_) (fun c_33 => ?_)
      · refine aw_iload_n dX12_rest_62 rfl ?_
        refine aw_iconst dX12_rest_63 ?_
        refine aw_icmp_ne (tgt := 71) dX12_rest_64 rfl (by first | assumption | (unfold ab_In at *; omega)) (by first | assumption | (unfold ab_In at *; omega)) (fun c_64 => ?_) (fun c_64 => ?_)
        · refine aw_iconst dX12_rest_71 ?_
          rw [← hZ]
          refine aw_ireturn dX12_rest_72 rfl ?_
          exact ⟨by rw [he]; first | rw [if_pos (by omega)] | rw [if_neg (by omega)], I1, rfl, hfr⟩
        · refine aw_iload_n dX12_rest_67 rfl ?_
          refine aw_goto (tgt := 72) dX12_rest_68 rfl ?_
          rw [← hZ]
          refine aw_ireturn dX12_rest_72 rfl ?_
          exact ⟨by rw [he]; first | rw [if_pos (by omega)] | rw [if_neg (by omega)], I1, rfl, hfr⟩
      · exfalso; omega
    | succ d ih =>
      intro q hq9 hbq
      have hrl := rsP_len g q
      refine aw_iload dX12_rest_28 rfl ?_
      refine aw_sipush dX12_rest_30 rfl ?_
      refine aw_icmp_ge (tgt := 62) dX12_rest_33 rfl (by first | assumption | (unfold ab_In at *; omega)) (by first | assumption | (unfold ab_In at *; omega)) (fun c_33 => ?_) (fun c_33 => ?_)
      · exfalso; omega
      · refine aw_aload_n dX12_rest_36 rfl (by decide) ?_
        refine aw_iload dX12_rest_37 rfl ?_
        refine aw_callV (as := [ab_i (q : Int)]) (rest := []) dX12_rest_39 (ct_X12_isAtRest G I1 F hF g hg hgb q (by omega)) ⟨Nat.le_of_ble_eq_true rfl, Nat.le_of_ble_eq_true rfl⟩ rfl kc12 rfl kX12_isAtRest iX12_isAtRest eX12_isAtRest lX12_223 rfl (Nat.le_of_ble_eq_true rfl) (by decide) (by decide) (by decide) (by decide) ?_
        rintro r9 _ ⟨e9, rfl⟩
        by_cases q01 : arQ g q = true
        · rw [if_pos q01] at e9
          subst e9
          refine aw_if_eq (tgt := 56) dX12_rest_42 rfl ⟨by decide, by decide⟩ (fun c9 => absurd c9 (by decide)) (fun _ => ?_)
          refine aw_iload_n dX12_rest_45 rfl ?_
          refine aw_iload_n dX12_rest_46 rfl ?_
          refine aw_icmp_ne (tgt := 53) dX12_rest_47 rfl (by first | assumption | (unfold ab_In at *; omega)) (by first | assumption | (unfold ab_In at *; omega)) (fun c_47 => ?_) (fun c_47 => ?_)
          · refine aw_iinc (ls' := [some (ab_r 84), some (ab_i (n : Int)), some (ab_i b), some (ab_i (((rsP g q).length : Int) + 1)), some (ab_i (q : Int))]) dX12_rest_53 (by decide) rfl rfl ?_
            refine aw_iinc (ls' := [some (ab_r 84), some (ab_i (n : Int)), some (ab_i b), some (ab_i (((rsP g q).length : Int) + 1)), some (ab_i ((q : Int) + 1))]) dX12_rest_56 (by decide) rfl rfl ?_
            refine aw_goto (tgt := 28) dX12_rest_59 rfl ?_
            have h9 := ih (q + 1) (by omega) (by rw [rsP_s, if_pos q01, List.length_append, List.length_singleton]; omega)
            rw [rsP_s, if_pos q01, List.length_append, List.length_singleton] at h9
            exact h9
          · refine aw_iload dX12_rest_50 rfl ?_
            rw [← hZ]
            refine aw_ireturn dX12_rest_52 rfl ?_
            exact ⟨by rw [rvL_hit (by omega) q01 (by omega)], I1, rfl, hfr⟩
        · rw [if_neg q01] at e9
          subst e9
          refine aw_if_eq (tgt := 56) dX12_rest_42 rfl ⟨by decide, by decide⟩ (fun _ => ?_) (fun c9 => absurd (by decide) c9)
          refine aw_iinc (ls' := [some (ab_r 84), some (ab_i (n : Int)), some (ab_i b), some (ab_i ((rsP g q).length : Int)), some (ab_i ((q : Int) + 1))]) dX12_rest_56 (by decide) rfl rfl ?_
          refine aw_goto (tgt := 28) dX12_rest_59 rfl ?_
          have h9 := ih (q + 1) (by omega) (by rw [rsP_s, if_neg q01]; exact hbq)
          rw [rsP_s, if_neg q01] at h9
          exact h9
  refine aw_iload_n dX12_rest_0 rfl ?_
  refine aw_iconst dX12_rest_1 ?_
  refine aw_bipush dX12_rest_2 rfl ?_
  refine aw_callS (as := [ab_i (n : Int), ab_i 1, ab_i 40]) (rest := []) dX12_rest_4 (ct_X12_in G (104, I, F) (n : Int) 1 40 (by first | assumption | (unfold ab_In at *; omega)) (by first | assumption | (unfold ab_In at *; omega)) (by first | assumption | (unfold ab_In at *; omega))) kX12_in sX12_in lX12_75 rfl (Nat.le_of_ble_eq_true rfl) (by decide) (by decide) (by decide) (by decide) ?_
  rintro r9 _ ⟨e9, rfl⟩
  rw [if_pos (by omega)] at e9
  subst e9
  refine aw_if_eq (tgt := 15) dX12_rest_7 rfl ⟨by decide, by decide⟩ (fun c9 => absurd c9 (by decide)) (fun _ => ?_)
  refine aw_iload_n dX12_rest_10 rfl ?_
  refine aw_iconst dX12_rest_11 ?_
  refine aw_icmp_ge (tgt := 18) dX12_rest_12 rfl (by first | assumption | (unfold ab_In at *; omega)) (by first | assumption | (unfold ab_In at *; omega)) (fun c_12 => ?_) (fun c_12 => ?_)
  · refine aw_aload_n dX12_rest_18 rfl (by decide) ?_
    refine aw_iload_n dX12_rest_19 rfl ?_
    refine aw_callV (as := [ab_i (n : Int)]) (rest := []) dX12_rest_20 (ct_X12_findGains G I F hF L wk nx n hC hq hwk hnx hT hR hn) ⟨Nat.le_of_ble_eq_true rfl, Nat.le_of_ble_eq_true rfl⟩ rfl kc12 rfl kX12_findGains iX12_findGains eX12_findGains lX12_220 rfl (Nat.le_of_ble_eq_true rfl) (by decide) (by decide) (by decide) (by decide) ?_
    rw [hgx]
    rintro _ _ ⟨rfl, I1, rfl, hg, hfr⟩
    refine aw_iconst dX12_rest_23 ?_
    refine aw_istore_n (ls' := [some (ab_r 84), some (ab_i (n : Int)), some (ab_i b), some (ab_i 0), none]) dX12_rest_24 (by decide) rfl ?_
    refine aw_iconst dX12_rest_25 ?_
    refine aw_istore (ls' := [some (ab_r 84), some (ab_i (n : Int)), some (ab_i b), some (ab_i 0), some (ab_i 0)]) dX12_rest_26 (by decide) rfl ?_
    exact loop I1 hg hfr 625 0 (by omega) (by show _ ∨ ((0 : Nat) : Int) ≤ b; omega)
  · exfalso; omega
set_option maxHeartbeats 4000000 in
set_option maxRecDepth 100000 in
theorem pr_rest (G : ab_G) (I : Nat → Nat → Int) (F : Nat → Nat → Nat) (c : Nat) (h : INV c I F) (hc : c ≤ 600) (a : Int) (ha : ab_In a) (b : Int) (hb : ab_In b) : Pair G 5 6 YX11_rest YX12_rest [ab_i a, ab_i b] ab_i c I F := by
  obtain ⟨L, M, wk, nx, hC, hM⟩ := id h.2.2.2.2.2.2.2.2
  obtain ⟨c1, c2, c3, c4, c5, c6, c7, c8⟩ := id hC
  have hkn : (0 ≤ I 65 5 ∧ I 65 5 ≤ 40) := by rcases hM with e | ⟨n, e1, e2, _⟩ <;> omega
  by_cases hv9 : (1 ≤ a ∧ a ≤ 40) ∧ -1 ≤ b
  · obtain ⟨n, rfl⟩ : ∃ n : Nat, a = n := ⟨a.toNat, by omega⟩
    have hkd := h.2.2.1.kd h.2.1
    have hgX : gnQ (ruX I 13) (tnX I) (kdX I 9 10) (kdX I 11 12) n wk L nx = gnM I n wk M nx := by rw [h.ru, h.2.2.1.tn, hkd.1, hkd.2, gnQ_perm c3 c4]; rfl
    have fin : ∀ (J : Nat → Nat → Int) (F2 : Nat → Nat → Nat), (∀ i b, (i < 17 ∨ (20 < i ∧ i < 44) ∨ 72 < i) → J i b = I i b) → (∀ i b, i ≠ 45 → F2 i b = F i b) → IVy J F2 → J 65 5 = n → J 65 4 = ((rsQ (gnM I n wk M nx)).length : Int) → (∀ i, i < (rsQ (gnM I n wk M nx)).length → (rsQ (gnM I n wk M nx))[i]?.map (fun q => (q : Int)) = some (J 72 i)) → Ct G 6 0 0 YX12_rest [ab_r 84, ab_i (n : Int), ab_i b] (104, J, F2) (fun q h => q = some (ab_i (rv J b)) ∧ ∃ I2 F2, h = (104, I2, F2) ∧ INV (c + 1) I2 F2) := by
      intro J F2 hf1 hf2 hf3 p1 p2 p3
      have hJM : ∀ i, 72 < i → J i = I i := fun i q1 => funext fun b => hf1 i b (by omega)
      have m1 : RS J M wk nx (2 * wk) := c2.ofc (fun b hb => hf1 89 b (by omega))
      have m2 : TBM J := by have := h.tbm; unfold TBM at *; rw [hJM 84 (by decide), hJM 85 (by decide), hJM 86 (by decide), hJM 87 (by decide), hJM 88 (by decide)]; exact this
      have m3 : RBM J := h.rbm.of (hJM 95 (by decide))
      have m5 : ab_FB F2 := fun i j q1 q2 => (hf2 i j q2).trans (h.1 i j q1 q2)
      have hgJ : gnM J n wk M nx = gnM I n wk M nx := gnM_congr (fun i b q => hf1 i b (by omega)) n wk M nx
      refine (ct_X12_rest G J F2 m5 M wk nx n m1 (c4.perm c3) (by omega) (by omega) m2 m3 (by omega) b hb hv9.2).mono ?_
      rintro _ _ ⟨rfl, J2, rfl, hk⟩
      refine ⟨by rw [hgJ, rv_L hv9.2 p2 p3], _, _, rfl, h.rested hC (fun i b q => ?_) hf2 (hf3.of (fun i b q => hk i b (by omega) (by omega) (by omega) (by omega) (by omega) (by omega))) (Or.inr ⟨n, by omega, ?_, ?_, ?_⟩)⟩
      · rw [hk i b (by omega) (by omega) (by omega) (by omega) (by omega) (by omega)]; exact hf1 i b (by omega)
      · rw [hk 65 5 (by decide) (by decide) (by decide) (by decide) (by decide) (by omega)]; exact p1
      · rw [hk 65 4 (by decide) (by decide) (by decide) (by decide) (by decide) (by omega), gnM_congr (J := J2) (I := I) (fun i b q => (hk i b (by omega) (by omega) (by omega) (by omega) (by omega) (by omega)).trans (hf1 i b (by omega)))]; exact p2
      · rw [gnM_congr (J := J2) (I := I) (fun i b q => (hk i b (by omega) (by omega) (by omega) (by omega) (by omega) (by omega)).trans (hf1 i b (by omega)))]
        intro i hi
        rw [hk 72 i (by decide) (by decide) (by decide) (by decide) (by decide) (by omega)]; exact p3 i hi
    by_cases hk : I 65 5 = (n : Int)
    · rcases hM with e | ⟨n9, e1, e2, e3, e4⟩
      · exfalso; omega
      · have hnn : n9 = n := by omega
        subst hnn
        have hln : (rsQ (gnM I n9 wk M nx)).length ≤ 625 := rsP_len _ 625
        refine (ct_X11_rest_k G I F h.1 n9 (by omega) b hb hv9.2 (by unfold ab_In; omega) hk (by omega)).mono ?_
        rintro _ _ ⟨rfl, rfl⟩
        exact ⟨_, _, _, rfl, rfl, fin I F (fun _ _ _ => rfl) (fun _ _ _ => rfl) h.2.2.2.2.2.2.2.1 e2 e3 e4⟩
    · refine (ct_X11_rest_n G I F h.1 L wk nx n c1 c4 (by omega) (by omega) h.2.1 h.2.2.2.1 h.2.2.2.2.2.2.2.1 (by omega) b hb hv9.2 (by unfold ab_In; omega) hk).mono ?_
      rintro _ _ ⟨J, F2, rfl, rfl, p1, p2, p3, hf1, hf2, hf3⟩
      rw [hgX] at p2 p3
      exact ⟨_, _, _, rfl, rfl, fin J F2 hf1 hf2 hf3 p1 p2 p3⟩
  · refine (ct_X11_rest_bad G I F h.1 a ha b hb hv9).mono ?_
    rintro _ _ ⟨rfl, rfl⟩
    refine ⟨_, _, _, rfl, rfl, ?_⟩
    refine (ct_X12_rest_bad G I F h.1 a ha b hb hv9).mono ?_
    rintro _ _ ⟨rfl, rfl⟩
    exact ⟨rfl, _, _, rfl, h.up (by omega)⟩
