theorem rsP_put {g : Nat → Nat → Int} {q : Nat} {I1 : Nat → Nat → Int} {v : Int} (h : arQ g q = true) (hf : ∀ i, i < (rsP g q).length → (rsP g q)[i]?.map (fun q => (q : Int)) = some (I1 72 i)) : ∀ i, i < (rsP g (q + 1)).length → (rsP g (q + 1))[i]?.map (fun q => (q : Int)) = some (ab_u (ab_u I1 72 (rsP g q).length (q : Int)) 65 4 v 72 i) := by
  intro i hi
  rw [rsP_s, if_pos h] at hi ⊢
  rw [List.length_append, List.length_singleton] at hi
  rw [ab_u_i (by decide)]
  by_cases e : i = (rsP g q).length
  · rw [e, ab_u_s, List.getElem?_append_right (Nat.le_refl _), Nat.sub_self]; rfl
  · rw [ab_u_j e, List.getElem?_append_left (by omega)]; exact hf i (by omega)
set_option maxHeartbeats 4000000 in
set_option maxRecDepth 100000 in
theorem ct_X5_areKnownFor (G : ab_G) (I : Nat → Nat → Int) (F : Nat → Nat → Nat) (n : Int) (hn : ab_In n) (hk : ab_In (I 65 5)) : Ct G 0 0 0 YX5_areKnownFor [ab_r 65, ab_i n] (104, I, F) (fun r h => r = some (ab_i (if I 65 5 = n then 1 else 0)) ∧ h = (104, I, F)) := by
  refine Ct.ofW kX5_areKnownFor (ls := [some (ab_r 65), some (ab_i n)]) (Nat.le_of_ble_eq_true rfl) rfl ?_
  refine aw_aload_n dX5_areKnownFor_0 rfl (by decide) ?_
  refine aw_geti dX5_areKnownFor_1 fX5_27 ⟨Nat.le_of_ble_eq_true rfl, Nat.le_of_ble_eq_true rfl⟩ rfl rfl ?_
  refine aw_iload_n dX5_areKnownFor_4 rfl ?_
  refine aw_icmp_ne (tgt := 12) dX5_areKnownFor_5 rfl (by first | assumption | (unfold ab_In at *; omega)) (by first | assumption | (unfold ab_In at *; omega)) (fun c_5 => ?_) (fun c_5 => ?_)
  · refine aw_iconst dX5_areKnownFor_12 ?_
    refine aw_breturn dX5_areKnownFor_13 rfl (by omega) ?_
    exact ⟨by first | rw [if_pos (by omega)] | rw [if_neg (by omega)], rfl⟩
  · refine aw_iconst dX5_areKnownFor_8 ?_
    refine aw_goto (tgt := 13) dX5_areKnownFor_9 rfl ?_
    refine aw_breturn dX5_areKnownFor_13 rfl (by omega) ?_
    exact ⟨by first | rw [if_pos (by omega)] | rw [if_neg (by omega)], rfl⟩
set_option maxHeartbeats 4000000 in
set_option maxRecDepth 100000 in
theorem ct_X5_find (G : ab_G) (I : Nat → Nat → Int) (F : Nat → Nat → Nat) (hF : ab_FB F) (L : List P5) (wk nx : Int) (n : Nat) (hC : CS 23 I F L wk nx (2 * wk)) (hq : Nq L nx) (hwk : 0 ≤ wk ∧ wk + n ≤ 2900) (hnx : 0 ≤ nx ∧ nx + 13 * n ≤ 90000) (hT : TB I) (hR : RB 13 I) (hy : IVy I F) (hn : 1 ≤ n ∧ n ≤ 40) (hdr : I 17 0 = I 13 0 ∧ I 17 1 = I 13 1 ∧ I 17 2 = I 13 2 ∧ I 17 3 = I 13 3) : Ct G 4 0 0 YX5_find [ab_r 65, ab_i (n : Int), ab_r 23, ab_r 44, ab_r 17] (104, I, F) (fun r h => r = none ∧ ∃ I2 F2, h = (104, I2, F2) ∧ I2 65 5 = n ∧ I2 65 4 = ((rsQ (gnQ (ruX I 13) (tnX I) (kdX I 9 10) (kdX I 11 12) n wk L nx)).length : Int) ∧ (∀ i, i < (rsQ (gnQ (ruX I 13) (tnX I) (kdX I 9 10) (kdX I 11 12) n wk L nx)).length → (rsQ (gnQ (ruX I 13) (tnX I) (kdX I 9 10) (kdX I 11 12) n wk L nx))[i]?.map (fun q => (q : Int)) = some (I2 72 i)) ∧ (∀ i b, (i < 18 ∨ (20 < i ∧ i < 44) ∨ 72 < i) → I2 i b = I i b) ∧ (∀ i b, i ≠ 45 → F2 i b = F i b) ∧ IVy I2 F2) := by
  refine Ct.ofW kX5_find (ls := [some (ab_r 65), some (ab_i (n : Int)), some (ab_r 23), some (ab_r 44), some (ab_r 17), none, none, none]) (Nat.le_of_ble_eq_true rfl) rfl ?_
  have hgb : ∀ q s, -10000 ≤ (gnQ (ruX I 13) (tnX I) (kdX I 9 10) (kdX I 11 12) n wk L nx) q s ∧ (gnQ (ruX I 13) (tnX I) (kdX I 9 10) (kdX I 11 12) n wk L nx) q s ≤ 10000 := gnQ_bd (tnX_B hT) hC.1 hn.2
  have hge : ∀ q s, (gnQ (ruX I 13) (tnX I) (kdX I 9 10) (kdX I 11 12) n wk L nx) q s = (wkN (ruQ (ruX I 13) (tnX I) q) (tnX I) (kdX I 9 10) (kdX I 11 12) n wk L nx).2.2.1 2 s - (wkN (ruQ (ruX I 13) (tnX I) q) (tnX I) (kdX I 9 10) (kdX I 11 12) n wk L nx).2.2.1 5 s := fun _ _ => rfl
  have hgl : ∀ p q, (∀ s k, s < 4 → k < 4 → ktW ((tnX I).2 s) (bq p s) k = ktW ((tnX I).2 s) (bq q s) k) → ∀ s, (gnQ (ruX I 13) (tnX I) (kdX I 9 10) (kdX I 11 12) n wk L nx) p s = (gnQ (ruX I 13) (tnX I) (kdX I 9 10) (kdX I 11 12) n wk L nx) q s := fun p q h s => gnQ_like (kdX_le hT) h s
  generalize hgx : (gnQ (ruX I 13) (tnX I) (kdX I 9 10) (kdX I 11 12) n wk L nx) = g at *
  generalize hZ : ab_Z G (fun r h => r = none ∧ ∃ I2 F2, h = (104, I2, F2) ∧ I2 65 5 = n ∧ I2 65 4 = ((rsQ g).length : Int) ∧ (∀ i, i < (rsQ g).length → (rsQ g)[i]?.map (fun q => (q : Int)) = some (I2 72 i)) ∧ (∀ i b, (i < 18 ∨ (20 < i ∧ i < 44) ∨ 72 < i) → I2 i b = I i b) ∧ (∀ i b, i ≠ 45 → F2 i b = F i b) ∧ IVy I2 F2) 0 0 = Z
  have s119 : ∀ (d q : Nat) (I1 : Nat → Nat → Int) (F1 : Nat → Nat → Nat), q + d = 625 → (∀ q9 s9, q9 < 625 → s9 < 4 → I1 66 (q9 * 4 + s9) = g q9 s9) → I1 65 4 = ((rsP g q).length : Int) → (∀ i, i < (rsP g q).length → (rsP g q)[i]?.map (fun q => (q : Int)) = some (I1 72 i)) → (∀ i b, (i < 18 ∨ (20 < i ∧ i < 44) ∨ 72 < i) → I1 i b = I i b) → (∀ i b, i ≠ 45 → F1 i b = F i b) → IVy I1 F1 → aW G YX5_find (ab_rm 4 0 0) Z 0 0 (104, I1, F1) 119 [some (ab_r 65), some (ab_i (n : Int)), some (ab_r 23), some (ab_r 44), some (ab_r 17), some (ab_i (q : Int)), none, none] [] := by
    intro d
    induction d with
    | zero =>
      intro q I1 F1 hq9 hg hm hf hfr hFr hy1
      have hqn : q = 625 := by omega
      subst hqn
      refine aw_iload dX5_find_119 rfl ?_
      refine aw_sipush dX5_find_121 rfl ?_
      refine aw_icmp_ge (tgt := 163) dX5_find_124 rfl (by first | assumption | (unfold ab_In at *; omega)) (by first | assumption | (unfold ab_In at *; omega)) (fun c_124 => ?_) (fun c_124 => ?_)
      · refine aw_aload_n dX5_find_163 rfl (by decide) ?_
        refine aw_iload_n dX5_find_164 rfl ?_
        refine aw_puti dX5_find_165 fX5_27 ⟨Nat.le_of_ble_eq_true rfl, Nat.le_of_ble_eq_true rfl⟩ rfl rfl ?_
        rw [← hZ]
        refine aw_return dX5_find_168 rfl ?_
        refine ⟨rfl, _, F1, rfl, ab_u_s, ?_, fun i hi => ?_, fun i b hi => ?_, hFr, hy1.of (fun i b hi => ab_u_i (by omega))⟩
        · rw [ab_u_j (by decide)]; exact hm
        · rw [ab_u_i (by decide)]; exact hf i hi
        · rw [ab_u_i (by omega)]; exact hfr i b hi
      · exfalso; omega
    | succ d ih =>
      intro q I1 F1 hq9 hg hm hf hfr hFr hy1
      have hF1 : ab_FB F1 := fun i j q1 q2 => (hFr i j q2).trans (hF i j q1 q2)
      have hrl := rsP_len g q
      refine aw_iload dX5_find_119 rfl ?_
      refine aw_sipush dX5_find_121 rfl ?_
      refine aw_icmp_ge (tgt := 163) dX5_find_124 rfl (by first | assumption | (unfold ab_In at *; omega)) (by first | assumption | (unfold ab_In at *; omega)) (fun c_124 => ?_) (fun c_124 => ?_)
      · exfalso; omega
      · refine aw_aload_n dX5_find_127 rfl (by decide) ?_
        refine aw_iload dX5_find_128 rfl ?_
        refine aw_callV (as := [ab_i (q : Int)]) (rest := []) dX5_find_130 (ct_X5_isAtRest G I1 F1 hF1 g hg hgb q (by omega)) ⟨Nat.le_of_ble_eq_true rfl, Nat.le_of_ble_eq_true rfl⟩ rfl kc5 rfl kX5_isAtRest iX5_isAtRest eX5_isAtRest lX5_58 rfl (Nat.le_of_ble_eq_true rfl) (by decide) (by decide) (by decide) (by decide) ?_
        rintro r9 _ ⟨e9, rfl⟩
        by_cases q01 : arQ g q = true
        · rw [if_pos q01] at e9
          subst e9
          refine aw_if_eq (tgt := 157) dX5_find_133 rfl ⟨by decide, by decide⟩ (fun c9 => absurd c9 (by decide)) (fun _ => ?_)
          refine aw_aload_n dX5_find_136 rfl (by decide) ?_
          refine aw_getrv (r := 72) dX5_find_137 fX5_20 ⟨Nat.le_of_ble_eq_true rfl, Nat.le_of_ble_eq_true rfl⟩ rfl rfl (hF1.at 65 3 72 rfl rfl rfl) ?_
          refine aw_aload_n dX5_find_140 rfl (by decide) ?_
          refine aw_getiv (v := ((rsP g q).length : Int)) dX5_find_141 fX5_23 ⟨Nat.le_of_ble_eq_true rfl, Nat.le_of_ble_eq_true rfl⟩ rfl rfl hm ?_
          refine aw_iload dX5_find_144 rfl ?_
          refine aw_iastv (q := ((rsP g q).length : Int).toNat) dX5_find_146 ⟨Nat.le_of_ble_eq_true rfl, Nat.le_of_ble_eq_true rfl⟩ rfl (by omega) (by omega) (by decide) rfl ?_
          refine aw_aload_n dX5_find_147 rfl (by decide) ?_
          refine aw_dup dX5_find_148 rfl ?_
          refine aw_getiv (v := ((rsP g q).length : Int)) dX5_find_149 fX5_23 ⟨Nat.le_of_ble_eq_true rfl, Nat.le_of_ble_eq_true rfl⟩ rfl rfl ((ab_u_i (by decide)).trans hm) ?_
          refine aw_iconst dX5_find_152 ?_
          refine aw_iadd dX5_find_153 ?_
          refine aw_puti dX5_find_154 fX5_23 ⟨Nat.le_of_ble_eq_true rfl, Nat.le_of_ble_eq_true rfl⟩ rfl rfl ?_
          refine aw_iinc (ls' := [some (ab_r 65), some (ab_i (n : Int)), some (ab_r 23), some (ab_r 44), some (ab_r 17), some (ab_i ((q : Int) + 1)), none, none]) dX5_find_157 (by decide) rfl rfl ?_
          refine aw_goto (tgt := 119) dX5_find_160 rfl ?_
          have h9 := ih (q + 1) (ab_u (ab_u I1 72 (((rsP g q).length : Int).toNat) (q : Int)) 65 4 (((rsP g q).length : Int) + 1)) F1 (by omega) (fun q9 s9 e1 e2 => by rw [ab_u_i (by decide), ab_u_i (by decide)]; exact hg q9 s9 e1 e2) (by rw [rsP_s, if_pos q01, ab_u_s, List.length_append, List.length_singleton]; rfl) (rsP_put q01 hf) (fun i b hi => by rw [ab_u_i (by omega), ab_u_i (by omega)]; exact hfr i b hi) hFr (hy1.of (fun i b hi => by rw [ab_u_i (by omega), ab_u_i (by omega)]))
          exact h9
        · rw [if_neg q01] at e9
          subst e9
          refine aw_if_eq (tgt := 157) dX5_find_133 rfl ⟨by decide, by decide⟩ (fun _ => ?_) (fun c9 => absurd (by decide) c9)
          refine aw_iinc (ls' := [some (ab_r 65), some (ab_i (n : Int)), some (ab_r 23), some (ab_r 44), some (ab_r 17), some (ab_i ((q : Int) + 1)), none, none]) dX5_find_157 (by decide) rfl rfl ?_
          refine aw_goto (tgt := 119) dX5_find_160 rfl ?_
          have h9 := ih (q + 1) I1 F1 (by omega) hg (by rw [rsP_s, if_neg q01]; exact hm) (by rw [rsP_s, if_neg q01]; exact hf) hfr hFr hy1
          exact h9
  have s7 : ∀ (Ib : Nat → Nat → Int), (∀ s b, s < 4 → b < 5 → PL I Ib s b) → (∀ i b, (i < 68 ∨ 71 < i) → Ib i b = I i b) → ∀ (d q : Nat) (I1 : Nat → Nat → Int) (F1 : Nat → Nat → Nat), q + d = 625 → (∀ q9 s9, q9 < q → s9 < 4 → I1 66 (q9 * 4 + s9) = g q9 s9) → (∀ i b, (i < 18 ∨ (20 < i ∧ i < 44) ∨ (64 < i ∧ i ≠ 66)) → I1 i b = Ib i b) → (∀ i b, i ≠ 45 → F1 i b = F i b) → IVy I1 F1 → aW G YX5_find (ab_rm 4 0 0) Z 0 0 (104, I1, F1) 7 [some (ab_r 65), some (ab_i (n : Int)), some (ab_r 23), some (ab_r 44), some (ab_r 17), some (ab_i (q : Int)), none, none] [] := by
    intro Ib hPL hIb d
    induction d with
    | zero =>
      intro q I1 F1 hq9 hg hfr hFr hy1
      have hqn : q = 625 := by omega
      subst hqn
      refine aw_iload dX5_find_7 rfl ?_
      refine aw_sipush dX5_find_9 rfl ?_
      refine aw_icmp_ge (tgt := 111) dX5_find_12 rfl (by first | assumption | (unfold ab_In at *; omega)) (by first | assumption | (unfold ab_In at *; omega)) (fun c_12 => ?_) (fun c_12 => ?_)
      · refine aw_aload_n dX5_find_111 rfl (by decide) ?_
        refine aw_iconst dX5_find_112 ?_
        refine aw_puti dX5_find_113 fX5_23 ⟨Nat.le_of_ble_eq_true rfl, Nat.le_of_ble_eq_true rfl⟩ rfl rfl ?_
        refine aw_iconst dX5_find_116 ?_
        refine aw_istore (ls' := [some (ab_r 65), some (ab_i (n : Int)), some (ab_r 23), some (ab_r 44), some (ab_r 17), some (ab_i 0), none, none]) dX5_find_117 (by decide) rfl ?_
        refine s119 625 0 (ab_u I1 65 4 0) F1 (by omega) (fun q9 s9 e1 e2 => by rw [ab_u_i (by decide)]; exact hg q9 s9 e1 e2) (by rw [ab_u_s]; rfl) (fun i hi => by simp [rsP] at hi) (fun i b hi => ?_) hFr (hy1.of (fun i b hi => ab_u_i (by omega)))
        rw [ab_u_i (by omega), hfr i b (by omega)]; exact hIb i b (by omega)
      · exfalso; omega
    | succ d ih =>
      intro q I1 F1 hq9 hg hfr hFr hy1
      have hq625 : q < 625 := by omega
      have hF1 : ab_FB F1 := fun i j q1 q2 => (hFr i j q2).trans (hF i j q1 q2)
      have hPL1 : ∀ s b, s < 4 → b < 5 → PL I I1 s b := fun s b hs hb => by have h9 := hPL s b hs hb; unfold PL at *; rw [hfr (68 + s) b (by omega)]; exact h9
      obtain ⟨p, hp1, hp2, hp3⟩ := lq_n hq625 hPL1
      have hI1 : ∀ i b, (i < 18 ∨ (20 < i ∧ i < 44)) → I1 i b = I i b := fun i b hi => (hfr i b (by omega)).trans (hIb i b (by omega))
      have nxt : ∀ (J : Nat → Nat → Int) (F4 : Nat → Nat → Nat), (∀ q9 s9, q9 < q → s9 < 4 → J 66 (q9 * 4 + s9) = g q9 s9) → (∀ s9, s9 < 4 → J 66 (q * 4 + s9) = g q s9) → (∀ i b, (i < 18 ∨ (20 < i ∧ i < 44) ∨ (64 < i ∧ i ≠ 66)) → J i b = Ib i b) → (∀ i b, i ≠ 45 → F4 i b = F i b) → IVy J F4 → aW G YX5_find (ab_rm 4 0 0) Z 0 0 (104, J, F4) 7 [some (ab_r 65), some (ab_i (n : Int)), some (ab_r 23), some (ab_r 44), some (ab_r 17), some (ab_i ((q : Int) + 1)), none, none] [] := fun J F4 h1 h2 h3 h4 h5 => ih (q + 1) J F4 (by omega) (fun q9 s9 e1 e2 => if e9 : q9 = q then (by rw [e9]; exact h2 s9 e2) else h1 q9 s9 (by omega) e2) h3 h4 h5
      by_cases hpq : p = q
      · have hpq2 : lq I1 q = (q : Int) := by rw [hp1, hpq]
        have innerb : ∀ (e s : Nat) (J : Nat → Nat → Int) (F4 : Nat → Nat → Nat), s + e = 4 → (∀ q9 s9, q9 < q → s9 < 4 → J 66 (q9 * 4 + s9) = g q9 s9) → (∀ s9, s9 < s → J 66 (q * 4 + s9) = g q s9) → (∀ i b, (i < 18 ∨ (20 < i ∧ i < 44) ∨ (64 < i ∧ i ≠ 66)) → J i b = Ib i b) → (∀ i b, i ≠ 45 → F4 i b = F i b) → IVy J F4 → (∀ s, s < 4 → J 49 s - J 52 s = g q s) → aW G YX5_find (ab_rm 4 0 0) Z 0 0 (104, J, F4) 53 [some (ab_r 65), some (ab_i (n : Int)), some (ab_r 23), some (ab_r 44), some (ab_r 17), some (ab_i (q : Int)), some (ab_i (q : Int)), some (ab_i (s : Int))] [] := by
          intro e
          induction e with
          | zero =>
            intro s J F4 hs9 h1 h2 h3 h4 h5 h6
            have hs4 : s = 4 := by omega
            subst hs4
            refine aw_iload dX5_find_53 rfl ?_
            refine aw_iconst dX5_find_55 ?_
            refine aw_icmp_ge (tgt := 105) dX5_find_56 rfl (by first | assumption | (unfold ab_In at *; omega)) (by first | assumption | (unfold ab_In at *; omega)) (fun c_56 => ?_) (fun c_56 => ?_)
            · refine aw_iinc (ls' := [some (ab_r 65), some (ab_i (n : Int)), some (ab_r 23), some (ab_r 44), some (ab_r 17), some (ab_i ((q : Int) + 1)), some (ab_i (q : Int)), some (ab_i ((4 : Nat) : Int))]) dX5_find_105 (by decide) rfl rfl ?_
              refine aw_goto (tgt := 7) dX5_find_108 rfl ?_
              exact aw_le (ls' := [some (ab_r 65), some (ab_i (n : Int)), some (ab_r 23), some (ab_r 44), some (ab_r 17), some (ab_i ((q : Int) + 1)), none, none]) (ab_le_c (ab_le_c (ab_le_c (ab_le_c (ab_le_c (ab_le_c (ab_le_n (ab_le_n ab_le_nil)))))))) (nxt J F4 h1 h2 h3 h4 h5)
            · exfalso; omega
          | succ e ihe =>
            intro s J F4 hs9 h1 h2 h3 h4 h5 h6
            have hs : s < 4 := by omega
            have hF4 : ab_FB F4 := fun i j q1 q2 => (h4 i j q2).trans (hF i j q1 q2)
            refine aw_iload dX5_find_53 rfl ?_
            refine aw_iconst dX5_find_55 ?_
            refine aw_icmp_ge (tgt := 105) dX5_find_56 rfl (by first | assumption | (unfold ab_In at *; omega)) (by first | assumption | (unfold ab_In at *; omega)) (fun c_56 => ?_) (fun c_56 => ?_)
            · exfalso; omega
            · refine aw_aload_n dX5_find_59 rfl (by decide) ?_
              refine aw_getrv (r := 66) dX5_find_60 fX5_9 ⟨Nat.le_of_ble_eq_true rfl, Nat.le_of_ble_eq_true rfl⟩ rfl rfl (hF4.at 65 1 66 rfl rfl rfl) ?_
              refine aw_iload dX5_find_63 rfl ?_
              refine aw_iconst dX5_find_65 ?_
              refine aw_imul dX5_find_66 ?_
              refine aw_iload dX5_find_67 rfl ?_
              refine aw_iadd dX5_find_69 ?_
              refine aw_iload dX5_find_70 rfl ?_
              refine aw_iload dX5_find_72 rfl ?_
              refine aw_icmp_ne (tgt := 86) dX5_find_74 rfl (by first | assumption | (unfold ab_In at *; omega)) (by first | assumption | (unfold ab_In at *; omega)) (fun c_74 => ?_) (fun c_74 => ?_)
              · exfalso; omega
              · refine aw_aload_n dX5_find_77 rfl (by decide) ?_
                refine aw_iload dX5_find_78 rfl ?_
                refine aw_callV (as := [ab_i (s : Int)]) (rest := [ab_i (((q : Int) * 4) + (s : Int)), ab_r 66]) dX5_find_80 (ct_X1_gained_44 G J F4 hF4 s hs) ⟨Nat.le_of_ble_eq_true rfl, Nat.le_of_ble_eq_true rfl⟩ rfl kc1 rfl kX1_gained iX1_gained eX1_gained lX5_55 rfl (Nat.le_of_ble_eq_true rfl) (by decide) (by decide) (by decide) (by decide) ?_
                rintro _ _ ⟨rfl, rfl⟩
                refine aw_goto (tgt := 98) dX5_find_83 rfl ?_
                refine aw_iastv (q := (q * 4 + s)) dX5_find_98 ⟨Nat.le_of_ble_eq_true rfl, Nat.le_of_ble_eq_true rfl⟩ rfl (by omega) (by omega) (by decide) (by omega) ?_
                refine aw_iinc (ls' := [some (ab_r 65), some (ab_i (n : Int)), some (ab_r 23), some (ab_r 44), some (ab_r 17), some (ab_i (q : Int)), some (ab_i (q : Int)), some (ab_i ((s : Int) + 1))]) dX5_find_99 (by decide) rfl rfl ?_
                refine aw_goto (tgt := 53) dX5_find_102 rfl ?_
                have h9 := ihe (s + 1) (ab_u J 66 (q * 4 + s) (J 49 s - J 52 s)) F4 (by omega) (fun q9 s9 e1 e2 => by rw [ab_u_j (by omega)]; exact h1 q9 s9 e1 e2) (fun s9 e1 => if e9 : s9 = s then (by rw [e9, ab_u_s]; exact h6 s hs) else (by rw [ab_u_j (by omega)]; exact h2 s9 (by omega))) (fun i b hi => by rw [ab_u_i (by omega)]; exact h3 i b hi) h4 (h5.of (fun i b hi => ab_u_i (by omega))) (fun s9 e9 => by rw [ab_u_i (by decide), ab_u_i (by decide)]; exact h6 s9 e9)
                exact h9
        refine aw_iload dX5_find_7 rfl ?_
        refine aw_sipush dX5_find_9 rfl ?_
        refine aw_icmp_ge (tgt := 111) dX5_find_12 rfl (by first | assumption | (unfold ab_In at *; omega)) (by first | assumption | (unfold ab_In at *; omega)) (fun c_12 => ?_) (fun c_12 => ?_)
        · exfalso; omega
        · refine aw_aload_n dX5_find_15 rfl (by decide) ?_
          refine aw_iload dX5_find_16 rfl ?_
          refine aw_callV (as := [ab_i (q : Int)]) (rest := []) dX5_find_18 (ct_X5_likeSetting G I1 F1 hF1 q hq625) ⟨Nat.le_of_ble_eq_true rfl, Nat.le_of_ble_eq_true rfl⟩ rfl kc5 rfl kX5_likeSetting iX5_likeSetting eX5_likeSetting lX5_37 rfl (Nat.le_of_ble_eq_true rfl) (by decide) (by decide) (by decide) (by decide) ?_
          rintro r9 _ ⟨e9, rfl⟩
          rw [hpq2] at e9
          subst e9
          refine aw_istore (ls' := [some (ab_r 65), some (ab_i (n : Int)), some (ab_r 23), some (ab_r 44), some (ab_r 17), some (ab_i (q : Int)), some (ab_i (q : Int)), none]) dX5_find_21 (by decide) rfl ?_
          refine aw_iload dX5_find_23 rfl ?_
          refine aw_iload dX5_find_25 rfl ?_
          refine aw_icmp_ne (tgt := 50) dX5_find_27 rfl (by first | assumption | (unfold ab_In at *; omega)) (by first | assumption | (unfold ab_In at *; omega)) (fun c_27 => ?_) (fun c_27 => ?_)
          · exfalso; omega
          · refine aw_aload_n dX5_find_30 rfl (by decide) ?_
            refine aw_aload dX5_find_31 rfl (by decide) ?_
            refine aw_iload dX5_find_33 rfl ?_
            refine aw_callV (as := [ab_r 17, ab_i (q : Int)]) (rest := []) dX5_find_35 (ct_X5_setWays G I1 F1 hF1 q hq625) ⟨Nat.le_of_ble_eq_true rfl, Nat.le_of_ble_eq_true rfl⟩ rfl kc5 rfl kX5_setWays iX5_setWays eX5_setWays lX5_41 rfl (Nat.le_of_ble_eq_true rfl) (by decide) (by decide) (by decide) (by decide) ?_
            rintro _ _ ⟨rfl, I2, rfl, hw2, hf2⟩
            have hw2 : ∀ s, s < 4 → I2 18 s = (if bq q s = 0 then 0 else 1) ∧ I2 19 s = (if bq q s = 0 then 0 else I (4 + s) (bq q s - 1)) ∧ I2 20 s = 0 := fun s hs => by have h9 := hw2 s hs; rw [hI1 (4 + s) _ (by omega)] at h9; exact h9
            have hI2 : ∀ i b, (i < 18 ∨ (20 < i ∧ i < 44)) → I2 i b = I i b := fun i b hi => (hf2 i b (by omega)).trans (hI1 i b hi)
            have hC2 : CS 23 I2 F1 L wk nx (2 * wk) := (hC.ofc (fun i b hi => hI2 i b (by omega))).F (fun b => hFr 24 b (by decide))
            have hy2 : IVy I2 F1 := hy1.of (fun i b hi => hf2 i b (by omega))
            refine aw_aload_n dX5_find_38 rfl (by decide) ?_
            refine aw_aload_n dX5_find_39 rfl (by decide) ?_
            refine aw_callV (as := [ab_r 23]) (rest := []) dX5_find_40 (ct_X1_beginLike G I2 F1 hF1 L wk nx (2 * wk) hC2 (by omega) (by omega) hy2.1 hy2.2.1 hy2.2.2) ⟨Nat.le_of_ble_eq_true rfl, Nat.le_of_ble_eq_true rfl⟩ rfl kc1 rfl kX1_beginLike iX1_beginLike eX1_beginLike lX5_45 rfl (Nat.le_of_ble_eq_true rfl) (by decide) (by decide) (by decide) (by decide) ?_
            rintro _ _ ⟨rfl, I3, rfl, hC3, hz1, hz2, hfr3⟩
            have hI3 : ∀ i b, (i < 18 ∨ (20 < i ∧ i < 44)) → I3 i b = I i b := fun i b hi => (hfr3 i b (by omega)).trans (hI2 i b hi)
            have hT3 : TB I3 := hT.ofc (fun i b q1 q2 => hI3 i b (by omega))
            have hw3 : ∀ s, s < 4 → I3 18 s = (if bq q s = 0 then 0 else 1) ∧ I3 19 s = (if bq q s = 0 then 0 else I (4 + s) (bq q s - 1)) ∧ I3 20 s = 0 := fun s hs => by rw [hfr3 18 s (by omega), hfr3 19 s (by omega), hfr3 20 s (by omega)]; exact hw2 s hs
            have hd3 : I3 17 0 = I 13 0 ∧ I3 17 1 = I 13 1 ∧ I3 17 2 = I 13 2 ∧ I3 17 3 = I 13 3 := by rw [hI3 17 0 (by omega), hI3 17 1 (by omega), hI3 17 2 (by omega), hI3 17 3 (by omega)]; exact hdr
            have hR3 : RB 17 I3 := RB_Q hR hT hd3 hw3
            have hru := ruX_Q (q := q) hd3 hw3
            have htn : tnX I3 = tnX I := tnX_congr (fun i b hi => hI3 i b (by omega))
            have hk1 : kdX I3 9 10 = kdX I 9 10 := funext fun w9 => kdX_congr (fun i b hi => hI3 i b (by omega)) (by omega) (by omega) w9
            have hk2 : kdX I3 11 12 = kdX I 11 12 := funext fun w9 => kdX_congr (fun i b hi => hI3 i b (by omega)) (by omega) (by omega) w9
            refine aw_aload_n dX5_find_43 rfl (by decide) ?_
            refine aw_iload_n dX5_find_44 rfl ?_
            refine aw_aload dX5_find_45 rfl (by decide) ?_
            refine aw_callV (as := [ab_i (n : Int), ab_r 17]) (rest := []) dX5_find_47 (ct_X1_pass_44_17 G I3 F1 hF1 L wk nx n hC3 hq hwk hnx hT3 hR3) ⟨Nat.le_of_ble_eq_true rfl, Nat.le_of_ble_eq_true rfl⟩ rfl kc1 rfl kX1_pass iX1_pass eX1_pass lX5_51 rfl (Nat.le_of_ble_eq_true rfl) (by decide) (by decide) (by decide) (by decide) ?_
            rintro _ _ ⟨rfl, I4, F4, rfl, hC4, hD4, hq4⟩
            rw [hru, htn, hk1, hk2] at hD4
            refine aw_iconst dX5_find_50 ?_
            refine aw_istore (ls' := [some (ab_r 65), some (ab_i (n : Int)), some (ab_r 23), some (ab_r 44), some (ab_r 17), some (ab_i (q : Int)), some (ab_i (q : Int)), some (ab_i 0)]) dX5_find_51 (by decide) rfl ?_
            have hI4 : ∀ i b, (i < 18 ∨ (20 < i ∧ i < 44) ∨ 64 < i) → I4 i b = I1 i b := fun i b hi => ((hD4.2.2.1 i b (by omega)).trans (hfr3 i b (by omega))).trans (hf2 i b (by omega))
            refine innerb 4 0 I4 F4 (by omega) (fun q9 s9 e1 e2 => by rw [hI4 66 _ (by omega)]; exact hg q9 s9 e1 e2) (fun s9 e1 => by omega) (fun i b hi => (hI4 i b (by omega)).trans (hfr i b hi)) (fun i b hi => (hD4.2.2.2 i b hi).trans (hFr i b hi)) ⟨hC4.2.2.1, hC4.2.2.2.1, hC4.2.2.2.2.2.2⟩ (fun s hs => ?_)
            rw [hge, show I4 49 s = _ from hD4.1 2 s (by decide) hs, show I4 52 s = _ from hD4.1 5 s (by decide) hs, hz1 2 s (by decide) hs, hz1 5 s (by decide) hs]; omega
      · have hgp := hgl p q (like_kt hPL1 hp3)
        have innera : ∀ (e s : Nat) (J : Nat → Nat → Int) (F4 : Nat → Nat → Nat), s + e = 4 → (∀ q9 s9, q9 < q → s9 < 4 → J 66 (q9 * 4 + s9) = g q9 s9) → (∀ s9, s9 < s → J 66 (q * 4 + s9) = g q s9) → (∀ i b, (i < 18 ∨ (20 < i ∧ i < 44) ∨ (64 < i ∧ i ≠ 66)) → J i b = Ib i b) → (∀ i b, i ≠ 45 → F4 i b = F i b) → IVy J F4 → aW G YX5_find (ab_rm 4 0 0) Z 0 0 (104, J, F4) 53 [some (ab_r 65), some (ab_i (n : Int)), some (ab_r 23), some (ab_r 44), some (ab_r 17), some (ab_i (q : Int)), some (ab_i (p : Int)), some (ab_i (s : Int))] [] := by
          intro e
          induction e with
          | zero =>
            intro s J F4 hs9 h1 h2 h3 h4 h5
            have hs4 : s = 4 := by omega
            subst hs4
            refine aw_iload dX5_find_53 rfl ?_
            refine aw_iconst dX5_find_55 ?_
            refine aw_icmp_ge (tgt := 105) dX5_find_56 rfl (by first | assumption | (unfold ab_In at *; omega)) (by first | assumption | (unfold ab_In at *; omega)) (fun c_56 => ?_) (fun c_56 => ?_)
            · refine aw_iinc (ls' := [some (ab_r 65), some (ab_i (n : Int)), some (ab_r 23), some (ab_r 44), some (ab_r 17), some (ab_i ((q : Int) + 1)), some (ab_i (p : Int)), some (ab_i ((4 : Nat) : Int))]) dX5_find_105 (by decide) rfl rfl ?_
              refine aw_goto (tgt := 7) dX5_find_108 rfl ?_
              exact aw_le (ls' := [some (ab_r 65), some (ab_i (n : Int)), some (ab_r 23), some (ab_r 44), some (ab_r 17), some (ab_i ((q : Int) + 1)), none, none]) (ab_le_c (ab_le_c (ab_le_c (ab_le_c (ab_le_c (ab_le_c (ab_le_n (ab_le_n ab_le_nil)))))))) (nxt J F4 h1 h2 h3 h4 h5)
            · exfalso; omega
          | succ e ihe =>
            intro s J F4 hs9 h1 h2 h3 h4 h5
            have hs : s < 4 := by omega
            have hF4 : ab_FB F4 := fun i j q1 q2 => (h4 i j q2).trans (hF i j q1 q2)
            refine aw_iload dX5_find_53 rfl ?_
            refine aw_iconst dX5_find_55 ?_
            refine aw_icmp_ge (tgt := 105) dX5_find_56 rfl (by first | assumption | (unfold ab_In at *; omega)) (by first | assumption | (unfold ab_In at *; omega)) (fun c_56 => ?_) (fun c_56 => ?_)
            · exfalso; omega
            · refine aw_aload_n dX5_find_59 rfl (by decide) ?_
              refine aw_getrv (r := 66) dX5_find_60 fX5_9 ⟨Nat.le_of_ble_eq_true rfl, Nat.le_of_ble_eq_true rfl⟩ rfl rfl (hF4.at 65 1 66 rfl rfl rfl) ?_
              refine aw_iload dX5_find_63 rfl ?_
              refine aw_iconst dX5_find_65 ?_
              refine aw_imul dX5_find_66 ?_
              refine aw_iload dX5_find_67 rfl ?_
              refine aw_iadd dX5_find_69 ?_
              refine aw_iload dX5_find_70 rfl ?_
              refine aw_iload dX5_find_72 rfl ?_
              refine aw_icmp_ne (tgt := 86) dX5_find_74 rfl (by first | assumption | (unfold ab_In at *; omega)) (by first | assumption | (unfold ab_In at *; omega)) (fun c_74 => ?_) (fun c_74 => ?_)
              · refine aw_aload_n dX5_find_86 rfl (by decide) ?_
                refine aw_getrv (r := 66) dX5_find_87 fX5_9 ⟨Nat.le_of_ble_eq_true rfl, Nat.le_of_ble_eq_true rfl⟩ rfl rfl (hF4.at 65 1 66 rfl rfl rfl) ?_
                refine aw_iload dX5_find_90 rfl ?_
                refine aw_iconst dX5_find_92 ?_
                refine aw_imul dX5_find_93 ?_
                refine aw_iload dX5_find_94 rfl ?_
                refine aw_iadd dX5_find_96 ?_
                refine aw_ialdq (q := (p * 4 + s)) (v := (g p s)) dX5_find_97 ⟨Nat.le_of_ble_eq_true rfl, Nat.le_of_ble_eq_true rfl⟩ rfl (by omega) (by omega) (by decide) (by omega) (h1 p s (by omega) hs) ?_
                refine aw_iastv (q := (q * 4 + s)) dX5_find_98 ⟨Nat.le_of_ble_eq_true rfl, Nat.le_of_ble_eq_true rfl⟩ rfl (by omega) (by omega) (by decide) (by omega) ?_
                refine aw_iinc (ls' := [some (ab_r 65), some (ab_i (n : Int)), some (ab_r 23), some (ab_r 44), some (ab_r 17), some (ab_i (q : Int)), some (ab_i (p : Int)), some (ab_i ((s : Int) + 1))]) dX5_find_99 (by decide) rfl rfl ?_
                refine aw_goto (tgt := 53) dX5_find_102 rfl ?_
                have h9 := ihe (s + 1) (ab_u J 66 (q * 4 + s) (g p s)) F4 (by omega) (fun q9 s9 e1 e2 => by rw [ab_u_j (by omega)]; exact h1 q9 s9 e1 e2) (fun s9 e1 => if e9 : s9 = s then (by rw [e9, ab_u_s]; exact hgp s) else (by rw [ab_u_j (by omega)]; exact h2 s9 (by omega))) (fun i b hi => by rw [ab_u_i (by omega)]; exact h3 i b hi) h4 (h5.of (fun i b hi => ab_u_i (by omega)))
                exact h9
              · exfalso; omega
        refine aw_iload dX5_find_7 rfl ?_
        refine aw_sipush dX5_find_9 rfl ?_
        refine aw_icmp_ge (tgt := 111) dX5_find_12 rfl (by first | assumption | (unfold ab_In at *; omega)) (by first | assumption | (unfold ab_In at *; omega)) (fun c_12 => ?_) (fun c_12 => ?_)
        · exfalso; omega
        · refine aw_aload_n dX5_find_15 rfl (by decide) ?_
          refine aw_iload dX5_find_16 rfl ?_
          refine aw_callV (as := [ab_i (q : Int)]) (rest := []) dX5_find_18 (ct_X5_likeSetting G I1 F1 hF1 q hq625) ⟨Nat.le_of_ble_eq_true rfl, Nat.le_of_ble_eq_true rfl⟩ rfl kc5 rfl kX5_likeSetting iX5_likeSetting eX5_likeSetting lX5_37 rfl (Nat.le_of_ble_eq_true rfl) (by decide) (by decide) (by decide) (by decide) ?_
          rintro r9 _ ⟨e9, rfl⟩
          rw [hp1] at e9
          subst e9
          refine aw_istore (ls' := [some (ab_r 65), some (ab_i (n : Int)), some (ab_r 23), some (ab_r 44), some (ab_r 17), some (ab_i (q : Int)), some (ab_i (p : Int)), none]) dX5_find_21 (by decide) rfl ?_
          refine aw_iload dX5_find_23 rfl ?_
          refine aw_iload dX5_find_25 rfl ?_
          refine aw_icmp_ne (tgt := 50) dX5_find_27 rfl (by first | assumption | (unfold ab_In at *; omega)) (by first | assumption | (unfold ab_In at *; omega)) (fun c_27 => ?_) (fun c_27 => ?_)
          · refine aw_iconst dX5_find_50 ?_
            refine aw_istore (ls' := [some (ab_r 65), some (ab_i (n : Int)), some (ab_r 23), some (ab_r 44), some (ab_r 17), some (ab_i (q : Int)), some (ab_i (p : Int)), some (ab_i 0)]) dX5_find_51 (by decide) rfl ?_
            exact innera 4 0 I1 F1 (by omega) hg (fun s9 e1 => by omega) hfr hFr hy1
          · exfalso; omega
  refine aw_aload_n dX5_find_0 rfl (by decide) ?_
  refine aw_callV (as := []) (rest := []) dX5_find_1 (ct_X5_findLikeBars G I F hF hT.2.1) ⟨Nat.le_of_ble_eq_true rfl, Nat.le_of_ble_eq_true rfl⟩ rfl kc5 rfl kX5_findLikeBars iX5_findLikeBars eX5_findLikeBars lX5_34 rfl (Nat.le_of_ble_eq_true rfl) (by decide) (by decide) (by decide) (by decide) ?_
  rintro _ _ ⟨rfl, Ib, rfl, hPL, hIb⟩
  refine aw_iconst dX5_find_4 ?_
  refine aw_istore (ls' := [some (ab_r 65), some (ab_i (n : Int)), some (ab_r 23), some (ab_r 44), some (ab_r 17), some (ab_i 0), none, none]) dX5_find_5 (by decide) rfl ?_
  exact s7 Ib hPL hIb 625 0 Ib F (by omega) (fun q9 s9 e1 => by omega) (fun _ _ _ => rfl) (fun _ _ _ => rfl) (hy.of (fun i b hi => hIb i b (by omega)))
