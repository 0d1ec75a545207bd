def ENDx (F : Nat → Nat → Nat) (f : Nat → Int) (n : Nat) (I : Nat → Nat → Int) (res : RdT) (rr : Option ab_V) (h : ab_H) : Prop := ∃ J : Nat → Nat → Int, h = (104, J, F) ∧ LFx I J ∧ ((∃ q : Nat, res = .inl q ∧ rr = some (ab_i 0) ∧ J 21 3 = (q : Int) ∧ q ≤ n) ∨ ∃ (p' : Nat) (r' : Nat → Int), res = .inr (p', r') ∧ rr = some (ab_i 1) ∧ p' ≤ n ∧ TSx f n p' J ∧ DRx J r' ∧ RBr r')
theorem TSx.of {f : Nat → Int} {n p : Nat} {J K : Nat → Nat → Int} (h : TSx f n p J) (he : ∀ b, K 21 b = J 21 b) : TSx f n p K := ⟨(he 3).trans h.1, (he 4).trans h.2.1, (he 5).trans h.2.2⟩
def RFx (I J : Nat → Nat → Int) : Prop := ∀ i b, ¬ (i = 21 ∧ 2 ≤ b) → ¬ (17 ≤ i ∧ i ≤ 20) → J i b = I i b
theorem TXx.rf {f : Nat → Int} {n : Nat} {I J : Nat → Nat → Int} (h : TXx f n I) (hg : RFx I J) : TXx f n J := by
  refine ⟨by rw [hg 21 1 (by omega) (by omega)]; exact h.1, h.2.1, fun j hj => ?_⟩
  rw [hg 22 j (by omega) (by omega)]; exact h.2.2 j hj
set_option maxHeartbeats 4000000 in
set_option maxRecDepth 100000 in
theorem ct_X9_readWay (G : ab_G) (I : Nat → Nat → Int) (F : Nat → Nat → Nat) (hF : ab_FB F) (f : Nat → Int) (n : Nat) (hX : TXx f n I) (p : Nat) (hp : p ≤ n) (hS : TSx f n p I) (r : Nat → Int) (hD : DRx I r) (hB : RBr r) : Ct G 6 0 0 YX9_readWay [ab_r 21, ab_r 17] (104, I, F) (fun rr h => ENDx F f n I (wyA f n p r (nuT f n p 3)) rr h) := by
  refine Ct.ofW kX9_readWay (ls := [some (ab_r 21), some (ab_r 17), none, none, none, none]) (Nat.le_of_ble_eq_true rfl) rfl ?_
  generalize hZ : ab_Z G (fun rr h => ENDx F f n I (wyA f n p r (nuT f n p 3)) rr h) 0 0 = Z
  have heb := te_bd (f := f) hp
  refine aw_aload_n dX9_readWay_0 rfl (by decide) ?_
  refine aw_iconst dX9_readWay_1 ?_
  refine aw_callV (as := [ab_i 3]) (rest := []) dX9_readWay_2 (ct_X9_number G I F hF f n hX p hp hS 3 (by unfold ab_In; omega)) ⟨Nat.le_of_ble_eq_true rfl, Nat.le_of_ble_eq_true rfl⟩ rfl kc9 rfl kX9_number iX9_number eX9_number lX9_62 rfl (Nat.le_of_ble_eq_true rfl) (by decide) (by decide) (by decide) (by decide) ?_
  intro r9 h9 hh9
  by_cases v1 : nuT f n p 3 = -1
  · obtain ⟨_, e9, rfl⟩ := hh9.resolve_left (fun q => q.1 v1)
    subst e9
    refine aw_istore_n (ls' := [some (ab_r 21), some (ab_r 17), some (ab_i (-1)), none, none, none]) dX9_readWay_5 (by decide) rfl ?_
    refine aw_iload_n dX9_readWay_6 rfl ?_
    refine aw_iconst dX9_readWay_7 ?_
    refine aw_icmp_ne (tgt := 13) dX9_readWay_8 rfl ⟨by decide, by decide⟩ ⟨by decide, by decide⟩ (fun c9 => absurd rfl c9) (fun _ => ?_)
    refine aw_iconst dX9_readWay_11 ?_
    rw [← hZ]
    refine aw_breturn dX9_readWay_12 rfl (by omega) ?_
    exact ⟨_, rfl, GFx.lf (GFx.rf), Or.inl ⟨_, by rw [wyA, if_pos v1], rfl, hS.1, (ts_bd (f := f) hp).2⟩⟩
  · obtain ⟨_, J1, e9, rfl, g1, S1⟩ := hh9.resolve_right (fun q => v1 q.1)
    have nb1 := nu_bd (f := f) (n := n) (p := p) (most := 3) (by decide)
    obtain ⟨s, hn1⟩ : ∃ s : Nat, nuT f n p 3 = s := ⟨(nuT f n p 3).toNat, by omega⟩
    rw [hn1] at e9 nb1
    subst e9
    have X1 := hX.of g1
    have hp1 := (te_bd (f := f) hp).2
    refine aw_istore_n (ls' := [some (ab_r 21), some (ab_r 17), some (ab_i (s : Int)), none, none, none]) dX9_readWay_5 (by decide) rfl ?_
    refine aw_iload_n dX9_readWay_6 rfl ?_
    refine aw_iconst dX9_readWay_7 ?_
    refine aw_icmp_ne (tgt := 13) dX9_readWay_8 rfl (by first | assumption | (unfold ab_In at *; omega)) (by first | assumption | (unfold ab_In at *; omega)) (fun c_8 => ?_) (fun c_8 => ?_)
    · refine aw_aload_n dX9_readWay_13 rfl (by decide) ?_
      refine aw_ldcS (i := 11) rfl (by decide) dX9_readWay_14 ?_
      refine aw_ldcS (i := 12) rfl (by decide) dX9_readWay_16 ?_
      refine aw_ldcS (i := 13) rfl (by decide) dX9_readWay_18 ?_
      refine aw_callV (as := [ab_r 1111, ab_r 1112, ab_r 1113]) (rest := []) dX9_readWay_20 (ct_X9_choose G J1 F hF f n X1 (teT f n p) hp1 S1 11 12 13 (by decide) (by decide) (by decide)) ⟨Nat.le_of_ble_eq_true rfl, Nat.le_of_ble_eq_true rfl⟩ rfl kc9 rfl kX9_choose iX9_choose eX9_choose lX9_54 rfl (Nat.le_of_ble_eq_true rfl) (by decide) (by decide) (by decide) (by decide) ?_
      intro r9 h9 hh9
      have cb := ch_bd (f := f) (n := n) (teT f n p) (pcT 11) (pcT 12) (pcT 13)
      rcases (show chT f n (teT f n p) (pcT 11) (pcT 12) (pcT 13) = -1 ∨ chT f n (teT f n p) (pcT 11) (pcT 12) (pcT 13) = 0 ∨ chT f n (teT f n p) (pcT 11) (pcT 12) (pcT 13) = 1 ∨ chT f n (teT f n p) (pcT 11) (pcT 12) (pcT 13) = 2 by omega) with hc | hc | hc | hc
      · rw [hc] at hh9
        obtain ⟨_, e9, rfl⟩ := hh9.resolve_left (fun q => q.1 rfl)
        subst e9
        refine aw_istore_n (ls' := [some (ab_r 21), some (ab_r 17), some (ab_i (s : Int)), some (ab_i (-1)), none, none]) dX9_readWay_23 (by decide) rfl ?_
        refine aw_iload_n dX9_readWay_24 rfl ?_
        refine aw_iconst dX9_readWay_25 ?_
        refine aw_icmp_ne (tgt := 31) dX9_readWay_26 rfl ⟨by decide, by decide⟩ ⟨by decide, by decide⟩ (fun c9 => absurd rfl c9) (fun _ => ?_)
        refine aw_iconst dX9_readWay_29 ?_
        rw [← hZ]
        refine aw_breturn dX9_readWay_30 rfl (by omega) ?_
        exact ⟨_, rfl, GFx.lf (g1), Or.inl ⟨_, by rw [wyA, if_neg v1, wyB, hc, if_pos rfl], rfl, S1.1, (ts_bd (f := f) hp1).2⟩⟩
      · rw [hc] at hh9
        obtain ⟨_, J2, e9, rfl, g2, S2⟩ := hh9.resolve_right (fun q => absurd q.1 (by decide))
        subst e9
        have X2 := X1.of g2
        have hp2 := (te_bd (f := f) hp1).2
        refine aw_istore_n (ls' := [some (ab_r 21), some (ab_r 17), some (ab_i (s : Int)), some (ab_i 0), none, none]) dX9_readWay_23 (by decide) rfl ?_
        refine aw_iload_n dX9_readWay_24 rfl ?_
        refine aw_iconst dX9_readWay_25 ?_
        refine aw_icmp_ne (tgt := 31) dX9_readWay_26 rfl ⟨by decide, by decide⟩ ⟨by decide, by decide⟩ (fun _ => ?_) (fun c9 => absurd c9 (by decide))
        refine aw_iload_n dX9_readWay_31 rfl ?_
        refine aw_if_ne (tgt := 39) dX9_readWay_32 rfl ⟨by decide, by decide⟩ (fun c9 => absurd rfl c9) (fun _ => ?_)
        refine aw_iconst dX9_readWay_35 ?_
        refine aw_goto (tgt := 45) dX9_readWay_36 rfl ?_
        refine aw_istore (ls' := [some (ab_r 21), some (ab_r 17), some (ab_i (s : Int)), some (ab_i 0), some (ab_i 0), none]) dX9_readWay_45 (by decide) rfl ?_
        refine aw_iload dX9_readWay_47 rfl ?_
        refine aw_iconst dX9_readWay_49 ?_
        refine aw_icmp_ne (tgt := 55) dX9_readWay_50 rfl ⟨by decide, by decide⟩ ⟨by decide, by decide⟩ (fun _ => ?_) (fun c9 => absurd c9 (by decide))
        refine aw_iload_n dX9_readWay_55 rfl ?_
        refine aw_iconst dX9_readWay_56 ?_
        refine aw_icmp_ne (tgt := 69) dX9_readWay_57 rfl ⟨by decide, by decide⟩ ⟨by decide, by decide⟩ (fun _ => ?_) (fun c9 => absurd c9 (by decide))
        refine aw_iconst dX9_readWay_69 ?_
        refine aw_istore (ls' := [some (ab_r 21), some (ab_r 17), some (ab_i (s : Int)), some (ab_i 0), some (ab_i 0), some (ab_i 0)]) dX9_readWay_70 (by decide) rfl ?_
        refine aw_iload dX9_readWay_72 rfl ?_
        refine aw_iconst dX9_readWay_74 ?_
        refine aw_icmp_ne (tgt := 80) dX9_readWay_75 rfl ⟨by decide, by decide⟩ ⟨by decide, by decide⟩ (fun _ => ?_) (fun c9 => absurd c9 (by decide))
        refine aw_aload_n dX9_readWay_80 rfl (by decide) ?_
        refine aw_iload_n dX9_readWay_81 rfl ?_
        refine aw_iload_n dX9_readWay_82 rfl ?_
        refine aw_iload dX9_readWay_83 rfl ?_
        refine aw_iload dX9_readWay_85 rfl ?_
        refine aw_callV (as := [ab_i (s : Int), ab_i 0, ab_i 0, ab_i 0]) (rest := []) dX9_readWay_87 (ct_X7_setWay_17 G J2 F hF s 0 0 0 (by omega)) ⟨Nat.le_of_ble_eq_true rfl, Nat.le_of_ble_eq_true rfl⟩ rfl kc7 rfl kX7_setWay iX7_setWay eX7_setWay lX9_92 rfl (Nat.le_of_ble_eq_true rfl) (by decide) (by decide) (by decide) (by decide) ?_
        rintro _ _ ⟨rfl, rfl⟩
        refine aw_iconst dX9_readWay_90 ?_
        rw [← hZ]
        refine aw_breturn dX9_readWay_91 rfl (by omega) ?_
        refine ⟨_, rfl, fun i b q1 q2 => ?_, Or.inr ⟨_, _, by rw [wyA, if_neg v1, wyB, hc, if_neg (by decide), if_pos rfl, hn1]; rfl, rfl, hp2, TSx.of S2 (fun b => ?_), DRx.put3 (DRx.of hD ((g1).trans g2)) (by omega), RBr.up3 hB (by omega) (by omega) (by omega) (by omega)⟩⟩
        · rw [ab_u_o (by omega), ab_u_o (by omega), ab_u_o (by omega)]; exact GFx.lf ((g1).trans g2) i b q1 q2
        · rw [ab_u_i (by decide), ab_u_i (by decide), ab_u_i (by decide)]
      · rw [hc] at hh9
        obtain ⟨_, J2, e9, rfl, g2, S2⟩ := hh9.resolve_right (fun q => absurd q.1 (by decide))
        subst e9
        have X2 := X1.of g2
        have hp2 := (te_bd (f := f) hp1).2
        refine aw_istore_n (ls' := [some (ab_r 21), some (ab_r 17), some (ab_i (s : Int)), some (ab_i 1), none, none]) dX9_readWay_23 (by decide) rfl ?_
        refine aw_iload_n dX9_readWay_24 rfl ?_
        refine aw_iconst dX9_readWay_25 ?_
        refine aw_icmp_ne (tgt := 31) dX9_readWay_26 rfl ⟨by decide, by decide⟩ ⟨by decide, by decide⟩ (fun _ => ?_) (fun c9 => absurd c9 (by decide))
        refine aw_iload_n dX9_readWay_31 rfl ?_
        refine aw_if_ne (tgt := 39) dX9_readWay_32 rfl ⟨by decide, by decide⟩ (fun _ => ?_) (fun c9 => absurd c9 (by decide))
        refine aw_aload_n dX9_readWay_39 rfl (by decide) ?_
        refine aw_bipush dX9_readWay_40 rfl ?_
        refine aw_callV (as := [ab_i 99]) (rest := []) dX9_readWay_42 (ct_X9_number G J2 F hF f n X2 (teT f n (teT f n p)) hp2 S2 99 (by unfold ab_In; omega)) ⟨Nat.le_of_ble_eq_true rfl, Nat.le_of_ble_eq_true rfl⟩ rfl kc9 rfl kX9_number iX9_number eX9_number lX9_62 rfl (Nat.le_of_ble_eq_true rfl) (by decide) (by decide) (by decide) (by decide) ?_
        intro r9 h9 hh9
        by_cases v3 : nuT f n (teT f n (teT f n p)) 99 = -1
        · obtain ⟨_, e9, rfl⟩ := hh9.resolve_left (fun q => q.1 v3)
          subst e9
          refine aw_istore (ls' := [some (ab_r 21), some (ab_r 17), some (ab_i (s : Int)), some (ab_i 1), some (ab_i (-1)), none]) dX9_readWay_45 (by decide) rfl ?_
          refine aw_iload dX9_readWay_47 rfl ?_
          refine aw_iconst dX9_readWay_49 ?_
          refine aw_icmp_ne (tgt := 55) dX9_readWay_50 rfl ⟨by decide, by decide⟩ ⟨by decide, by decide⟩ (fun c9 => absurd rfl c9) (fun _ => ?_)
          refine aw_iconst dX9_readWay_53 ?_
          rw [← hZ]
          refine aw_breturn dX9_readWay_54 rfl (by omega) ?_
          exact ⟨_, rfl, GFx.lf ((g1).trans g2), Or.inl ⟨_, by rw [wyA, if_neg v1, wyB, hc, if_neg (by decide), if_neg (by decide), wyC, if_pos v3], rfl, S2.1, (ts_bd (f := f) hp2).2⟩⟩
        · obtain ⟨_, J3, e9, rfl, g3, S3⟩ := hh9.resolve_right (fun q => v3 q.1)
          have nb3 := nu_bd (f := f) (n := n) (p := (teT f n (teT f n p))) (most := 99) (by decide)
          obtain ⟨b, hn3⟩ : ∃ b : Nat, nuT f n (teT f n (teT f n p)) 99 = b := ⟨(nuT f n (teT f n (teT f n p)) 99).toNat, by omega⟩
          rw [hn3] at e9 nb3
          subst e9
          have X3 := X2.of g3
          have hp3 := (te_bd (f := f) hp2).2
          refine aw_istore (ls' := [some (ab_r 21), some (ab_r 17), some (ab_i (s : Int)), some (ab_i 1), some (ab_i (b : Int)), none]) dX9_readWay_45 (by decide) rfl ?_
          refine aw_iload dX9_readWay_47 rfl ?_
          refine aw_iconst dX9_readWay_49 ?_
          refine aw_icmp_ne (tgt := 55) dX9_readWay_50 rfl (by first | assumption | (unfold ab_In at *; omega)) (by first | assumption | (unfold ab_In at *; omega)) (fun c_50 => ?_) (fun c_50 => ?_)
          · refine aw_iload_n dX9_readWay_55 rfl ?_
            refine aw_iconst dX9_readWay_56 ?_
            refine aw_icmp_ne (tgt := 69) dX9_readWay_57 rfl ⟨by decide, by decide⟩ ⟨by decide, by decide⟩ (fun _ => ?_) (fun c9 => absurd c9 (by decide))
            refine aw_iconst dX9_readWay_69 ?_
            refine aw_istore (ls' := [some (ab_r 21), some (ab_r 17), some (ab_i (s : Int)), some (ab_i 1), some (ab_i (b : Int)), some (ab_i 0)]) dX9_readWay_70 (by decide) rfl ?_
            refine aw_iload dX9_readWay_72 rfl ?_
            refine aw_iconst dX9_readWay_74 ?_
            refine aw_icmp_ne (tgt := 80) dX9_readWay_75 rfl ⟨by decide, by decide⟩ ⟨by decide, by decide⟩ (fun _ => ?_) (fun c9 => absurd c9 (by decide))
            refine aw_aload_n dX9_readWay_80 rfl (by decide) ?_
            refine aw_iload_n dX9_readWay_81 rfl ?_
            refine aw_iload_n dX9_readWay_82 rfl ?_
            refine aw_iload dX9_readWay_83 rfl ?_
            refine aw_iload dX9_readWay_85 rfl ?_
            refine aw_callV (as := [ab_i (s : Int), ab_i 1, ab_i (b : Int), ab_i 0]) (rest := []) dX9_readWay_87 (ct_X7_setWay_17 G J3 F hF s 1 (b : Int) 0 (by omega)) ⟨Nat.le_of_ble_eq_true rfl, Nat.le_of_ble_eq_true rfl⟩ rfl kc7 rfl kX7_setWay iX7_setWay eX7_setWay lX9_92 rfl (Nat.le_of_ble_eq_true rfl) (by decide) (by decide) (by decide) (by decide) ?_
            rintro _ _ ⟨rfl, rfl⟩
            refine aw_iconst dX9_readWay_90 ?_
            rw [← hZ]
            refine aw_breturn dX9_readWay_91 rfl (by omega) ?_
            refine ⟨_, rfl, fun i b q1 q2 => ?_, Or.inr ⟨_, _, by rw [wyA, if_neg v1, wyB, hc, if_neg (by decide), if_neg (by decide), wyC, if_neg v3, if_pos rfl, hn1, hn3]; rfl, rfl, hp3, TSx.of S3 (fun b => ?_), DRx.put3 (DRx.of hD (((g1).trans g2).trans g3)) (by omega), RBr.up3 hB (by omega) (by omega) (by omega) (by omega)⟩⟩
            · rw [ab_u_o (by omega), ab_u_o (by omega), ab_u_o (by omega)]; exact GFx.lf (((g1).trans g2).trans g3) i b q1 q2
            · rw [ab_u_i (by decide), ab_u_i (by decide), ab_u_i (by decide)]
          · exfalso; omega
      · rw [hc] at hh9
        obtain ⟨_, J2, e9, rfl, g2, S2⟩ := hh9.resolve_right (fun q => absurd q.1 (by decide))
        subst e9
        have X2 := X1.of g2
        have hp2 := (te_bd (f := f) hp1).2
        refine aw_istore_n (ls' := [some (ab_r 21), some (ab_r 17), some (ab_i (s : Int)), some (ab_i 2), none, none]) dX9_readWay_23 (by decide) rfl ?_
        refine aw_iload_n dX9_readWay_24 rfl ?_
        refine aw_iconst dX9_readWay_25 ?_
        refine aw_icmp_ne (tgt := 31) dX9_readWay_26 rfl ⟨by decide, by decide⟩ ⟨by decide, by decide⟩ (fun _ => ?_) (fun c9 => absurd c9 (by decide))
        refine aw_iload_n dX9_readWay_31 rfl ?_
        refine aw_if_ne (tgt := 39) dX9_readWay_32 rfl ⟨by decide, by decide⟩ (fun _ => ?_) (fun c9 => absurd c9 (by decide))
        refine aw_aload_n dX9_readWay_39 rfl (by decide) ?_
        refine aw_bipush dX9_readWay_40 rfl ?_
        refine aw_callV (as := [ab_i 99]) (rest := []) dX9_readWay_42 (ct_X9_number G J2 F hF f n X2 (teT f n (teT f n p)) hp2 S2 99 (by unfold ab_In; omega)) ⟨Nat.le_of_ble_eq_true rfl, Nat.le_of_ble_eq_true rfl⟩ rfl kc9 rfl kX9_number iX9_number eX9_number lX9_62 rfl (Nat.le_of_ble_eq_true rfl) (by decide) (by decide) (by decide) (by decide) ?_
        intro r9 h9 hh9
        by_cases v3 : nuT f n (teT f n (teT f n p)) 99 = -1
        · obtain ⟨_, e9, rfl⟩ := hh9.resolve_left (fun q => q.1 v3)
          subst e9
          refine aw_istore (ls' := [some (ab_r 21), some (ab_r 17), some (ab_i (s : Int)), some (ab_i 2), some (ab_i (-1)), none]) dX9_readWay_45 (by decide) rfl ?_
          refine aw_iload dX9_readWay_47 rfl ?_
          refine aw_iconst dX9_readWay_49 ?_
          refine aw_icmp_ne (tgt := 55) dX9_readWay_50 rfl ⟨by decide, by decide⟩ ⟨by decide, by decide⟩ (fun c9 => absurd rfl c9) (fun _ => ?_)
          refine aw_iconst dX9_readWay_53 ?_
          rw [← hZ]
          refine aw_breturn dX9_readWay_54 rfl (by omega) ?_
          exact ⟨_, rfl, GFx.lf ((g1).trans g2), Or.inl ⟨_, by rw [wyA, if_neg v1, wyB, hc, if_neg (by decide), if_neg (by decide), wyC, if_pos v3], rfl, S2.1, (ts_bd (f := f) hp2).2⟩⟩
        · obtain ⟨_, J3, e9, rfl, g3, S3⟩ := hh9.resolve_right (fun q => v3 q.1)
          have nb3 := nu_bd (f := f) (n := n) (p := (teT f n (teT f n p))) (most := 99) (by decide)
          obtain ⟨b, hn3⟩ : ∃ b : Nat, nuT f n (teT f n (teT f n p)) 99 = b := ⟨(nuT f n (teT f n (teT f n p)) 99).toNat, by omega⟩
          rw [hn3] at e9 nb3
          subst e9
          have X3 := X2.of g3
          have hp3 := (te_bd (f := f) hp2).2
          refine aw_istore (ls' := [some (ab_r 21), some (ab_r 17), some (ab_i (s : Int)), some (ab_i 2), some (ab_i (b : Int)), none]) dX9_readWay_45 (by decide) rfl ?_
          refine aw_iload dX9_readWay_47 rfl ?_
          refine aw_iconst dX9_readWay_49 ?_
          refine aw_icmp_ne (tgt := 55) dX9_readWay_50 rfl (by first | assumption | (unfold ab_In at *; omega)) (by first | assumption | (unfold ab_In at *; omega)) (fun c_50 => ?_) (fun c_50 => ?_)
          · refine aw_iload_n dX9_readWay_55 rfl ?_
            refine aw_iconst dX9_readWay_56 ?_
            refine aw_icmp_ne (tgt := 69) dX9_readWay_57 rfl ⟨by decide, by decide⟩ ⟨by decide, by decide⟩ (fun c9 => absurd rfl c9) (fun _ => ?_)
            refine aw_aload_n dX9_readWay_60 rfl (by decide) ?_
            refine aw_bipush dX9_readWay_61 rfl ?_
            refine aw_callV (as := [ab_i 9]) (rest := []) dX9_readWay_63 (ct_X9_number G J3 F hF f n X3 (teT f n (teT f n (teT f n p))) hp3 S3 9 (by unfold ab_In; omega)) ⟨Nat.le_of_ble_eq_true rfl, Nat.le_of_ble_eq_true rfl⟩ rfl kc9 rfl kX9_number iX9_number eX9_number lX9_62 rfl (Nat.le_of_ble_eq_true rfl) (by decide) (by decide) (by decide) (by decide) ?_
            intro r9 h9 hh9
            by_cases v4 : nuT f n (teT f n (teT f n (teT f n p))) 9 = -1
            · obtain ⟨_, e9, rfl⟩ := hh9.resolve_left (fun q => q.1 v4)
              subst e9
              refine aw_goto (tgt := 70) dX9_readWay_66 rfl ?_
              refine aw_istore (ls' := [some (ab_r 21), some (ab_r 17), some (ab_i (s : Int)), some (ab_i 2), some (ab_i (b : Int)), some (ab_i (-1))]) dX9_readWay_70 (by decide) rfl ?_
              refine aw_iload dX9_readWay_72 rfl ?_
              refine aw_iconst dX9_readWay_74 ?_
              refine aw_icmp_ne (tgt := 80) dX9_readWay_75 rfl ⟨by decide, by decide⟩ ⟨by decide, by decide⟩ (fun c9 => absurd rfl c9) (fun _ => ?_)
              refine aw_iconst dX9_readWay_78 ?_
              rw [← hZ]
              refine aw_breturn dX9_readWay_79 rfl (by omega) ?_
              exact ⟨_, rfl, GFx.lf (((g1).trans g2).trans g3), Or.inl ⟨_, by rw [wyA, if_neg v1, wyB, hc, if_neg (by decide), if_neg (by decide), wyC, if_neg v3, if_neg (by decide), wyD, if_pos v4], rfl, S3.1, (ts_bd (f := f) hp3).2⟩⟩
            · obtain ⟨_, J4, e9, rfl, g4, S4⟩ := hh9.resolve_right (fun q => v4 q.1)
              have nb4 := nu_bd (f := f) (n := n) (p := (teT f n (teT f n (teT f n p)))) (most := 9) (by decide)
              obtain ⟨c, hn4⟩ : ∃ c : Nat, nuT f n (teT f n (teT f n (teT f n p))) 9 = c := ⟨(nuT f n (teT f n (teT f n (teT f n p))) 9).toNat, by omega⟩
              rw [hn4] at e9 nb4
              subst e9
              have X4 := X3.of g4
              have hp4 := (te_bd (f := f) hp3).2
              refine aw_goto (tgt := 70) dX9_readWay_66 rfl ?_
              refine aw_istore (ls' := [some (ab_r 21), some (ab_r 17), some (ab_i (s : Int)), some (ab_i 2), some (ab_i (b : Int)), some (ab_i (c : Int))]) dX9_readWay_70 (by decide) rfl ?_
              refine aw_iload dX9_readWay_72 rfl ?_
              refine aw_iconst dX9_readWay_74 ?_
              refine aw_icmp_ne (tgt := 80) dX9_readWay_75 rfl (by first | assumption | (unfold ab_In at *; omega)) (by first | assumption | (unfold ab_In at *; omega)) (fun c_75 => ?_) (fun c_75 => ?_)
              · refine aw_aload_n dX9_readWay_80 rfl (by decide) ?_
                refine aw_iload_n dX9_readWay_81 rfl ?_
                refine aw_iload_n dX9_readWay_82 rfl ?_
                refine aw_iload dX9_readWay_83 rfl ?_
                refine aw_iload dX9_readWay_85 rfl ?_
                refine aw_callV (as := [ab_i (s : Int), ab_i 2, ab_i (b : Int), ab_i (c : Int)]) (rest := []) dX9_readWay_87 (ct_X7_setWay_17 G J4 F hF s 2 (b : Int) (c : Int) (by omega)) ⟨Nat.le_of_ble_eq_true rfl, Nat.le_of_ble_eq_true rfl⟩ rfl kc7 rfl kX7_setWay iX7_setWay eX7_setWay lX9_92 rfl (Nat.le_of_ble_eq_true rfl) (by decide) (by decide) (by decide) (by decide) ?_
                rintro _ _ ⟨rfl, rfl⟩
                refine aw_iconst dX9_readWay_90 ?_
                rw [← hZ]
                refine aw_breturn dX9_readWay_91 rfl (by omega) ?_
                refine ⟨_, rfl, fun i b q1 q2 => ?_, Or.inr ⟨_, _, by rw [wyA, if_neg v1, wyB, hc, if_neg (by decide), if_neg (by decide), wyC, if_neg v3, if_neg (by decide), wyD, if_neg v4, hn1, hn3, hn4]; rfl, rfl, hp4, TSx.of S4 (fun b => ?_), DRx.put3 (DRx.of hD ((((g1).trans g2).trans g3).trans g4)) (by omega), RBr.up3 hB (by omega) (by omega) (by omega) (by omega)⟩⟩
                · rw [ab_u_o (by omega), ab_u_o (by omega), ab_u_o (by omega)]; exact GFx.lf ((((g1).trans g2).trans g3).trans g4) i b q1 q2
                · rw [ab_u_i (by decide), ab_u_i (by decide), ab_u_i (by decide)]
              · exfalso; omega
          · exfalso; omega
    · exfalso; omega
set_option maxHeartbeats 4000000 in
set_option maxRecDepth 100000 in
theorem ct_X9_readLine (G : ab_G) (I : Nat → Nat → Int) (F : Nat → Nat → Nat) (hF : ab_FB F) (f : Nat → Int) (n : Nat) (hX : TXx f n I) (p : Nat) (hp : p ≤ n) (hS : TSx f n p I) (r : Nat → Int) (hD : DRx I r) (hB : RBr r) : Ct G 7 0 0 YX9_readLine [ab_r 21, ab_r 17] (104, I, F) (fun rr h => ENDx F f n I (lnT f n p r) rr h) := by
  refine Ct.ofW kX9_readLine (ls := [some (ab_r 21), some (ab_r 17)]) (Nat.le_of_ble_eq_true rfl) rfl ?_
  generalize hZ : ab_Z G (fun rr h => ENDx F f n I (lnT f n p r) rr h) 0 0 = Z
  have heb := te_bd (f := f) hp
  refine aw_aload_n dX9_readLine_0 rfl (by decide) ?_
  refine aw_ldcS (i := 0) rfl (by decide) dX9_readLine_1 ?_
  refine aw_callV (as := [ab_r 1100]) (rest := []) dX9_readLine_3 (ct_X9_pass G I F hF f n hX p hp hS 0 (by decide)) ⟨Nat.le_of_ble_eq_true rfl, Nat.le_of_ble_eq_true rfl⟩ rfl kc9 rfl kX9_pass iX9_pass eX9_pass lX9_42 rfl (Nat.le_of_ble_eq_true rfl) (by decide) (by decide) (by decide) (by decide) ?_
  rintro _ _ (⟨q1, J1, rfl, rfl, g1, S1⟩ | ⟨q1, rfl, rfl⟩)
  · have X1 := hX.of g1
    have hp1 := heb.2
    refine aw_if_eq (tgt := 37) dX9_readLine_6 rfl ⟨by decide, by decide⟩ (fun c9 => absurd c9 (by decide)) (fun _ => ?_)
    refine aw_aload_n dX9_readLine_9 rfl (by decide) ?_
    refine aw_aload_n dX9_readLine_10 rfl (by decide) ?_
    refine aw_ldcS (i := 1) rfl (by decide) dX9_readLine_11 ?_
    refine aw_ldcS (i := 2) rfl (by decide) dX9_readLine_13 ?_
    refine aw_ldcS (i := 3) rfl (by decide) dX9_readLine_15 ?_
    refine aw_callV (as := [ab_r 1101, ab_r 1102, ab_r 1103]) (rest := [ab_r 17]) dX9_readLine_17 (ct_X9_choose G J1 F hF f n X1 (teT f n p) hp1 S1 1 2 3 (by decide) (by decide) (by decide)) ⟨Nat.le_of_ble_eq_true rfl, Nat.le_of_ble_eq_true rfl⟩ rfl kc9 rfl kX9_choose iX9_choose eX9_choose lX9_54 rfl (Nat.le_of_ble_eq_true rfl) (by decide) (by decide) (by decide) (by decide) ?_
    intro r9 h9 hh9
    have cb := ch_bd (f := f) (n := n) (teT f n p) (pcT 1) (pcT 2) (pcT 3)
    generalize hv : chT f n (teT f n p) (pcT 1) (pcT 2) (pcT 3) = v at cb hh9
    by_cases v0 : v = -1
    · obtain ⟨_, e9, rfl⟩ := hh9.resolve_left (fun q => q.1 v0)
      subst e9
      rw [v0] at hv
      refine aw_puti dX9_readLine_20 fX9_58 ⟨Nat.le_of_ble_eq_true rfl, Nat.le_of_ble_eq_true rfl⟩ rfl rfl ?_
      refine aw_aload_n dX9_readLine_23 rfl (by decide) ?_
      refine aw_getiv (v := (-1)) dX9_readLine_24 fX9_58 ⟨Nat.le_of_ble_eq_true rfl, Nat.le_of_ble_eq_true rfl⟩ rfl rfl ab_u_s ?_
      refine aw_iconst dX9_readLine_27 ?_
      refine aw_icmp_eq (tgt := 35) dX9_readLine_28 rfl ⟨by decide, by decide⟩ ⟨by decide, by decide⟩ (fun _ => ?_) (fun c9 => absurd (by decide) c9)
      refine aw_iconst dX9_readLine_35 ?_
      rw [← hZ]
      refine aw_breturn dX9_readLine_36 rfl (by omega) ?_
      exact ⟨_, rfl, fun i b q8 q9 => by rw [ab_u_o (by omega)]; exact g1 i b q8, Or.inl ⟨_, by rw [lnT, if_pos q1, oneT, hv, if_pos rfl], rfl, by rw [ab_u_i (by decide)]; exact S1.1, (ts_bd (f := f) hp1).2⟩⟩
    · obtain ⟨_, J2, e9, rfl, g2, S2⟩ := hh9.resolve_right (fun q => v0 q.1)
      subst e9
      refine aw_puti dX9_readLine_20 fX9_58 ⟨Nat.le_of_ble_eq_true rfl, Nat.le_of_ble_eq_true rfl⟩ rfl rfl ?_
      refine aw_aload_n dX9_readLine_23 rfl (by decide) ?_
      refine aw_getiv (v := v) dX9_readLine_24 fX9_58 ⟨Nat.le_of_ble_eq_true rfl, Nat.le_of_ble_eq_true rfl⟩ rfl rfl ab_u_s ?_
      refine aw_iconst dX9_readLine_27 ?_
      refine aw_icmp_eq (tgt := 35) dX9_readLine_28 rfl (by first | assumption | (unfold ab_In at *; omega)) (by first | assumption | (unfold ab_In at *; omega)) (fun c_28 => ?_) (fun c_28 => ?_)
      · exfalso; omega
      · refine aw_iconst dX9_readLine_31 ?_
        refine aw_goto (tgt := 36) dX9_readLine_32 rfl ?_
        rw [← hZ]
        refine aw_breturn dX9_readLine_36 rfl (by omega) ?_
        exact ⟨_, rfl, fun i b q8 q9 => by rw [ab_u_o (by omega)]; exact (g1.trans g2) i b q8, Or.inr ⟨_, _, by rw [lnT, if_pos q1, oneT, hv, if_neg v0], rfl, (te_bd (f := f) hp1).2, S2.of (fun b => ab_u_i (by decide)), DRx.put (hD.of (g1.trans g2)) (by decide), hB.up (by decide) (by omega) (by omega)⟩⟩
  · skip
    refine aw_if_eq (tgt := 37) dX9_readLine_6 rfl ⟨by decide, by decide⟩ (fun _ => ?_) (fun c9 => absurd (by decide) c9)
    refine aw_aload_n dX9_readLine_37 rfl (by decide) ?_
    refine aw_ldcS (i := 4) rfl (by decide) dX9_readLine_38 ?_
    refine aw_callV (as := [ab_r 1104]) (rest := []) dX9_readLine_40 (ct_X9_pass G I F hF f n hX p hp hS 4 (by decide)) ⟨Nat.le_of_ble_eq_true rfl, Nat.le_of_ble_eq_true rfl⟩ rfl kc9 rfl kX9_pass iX9_pass eX9_pass lX9_42 rfl (Nat.le_of_ble_eq_true rfl) (by decide) (by decide) (by decide) (by decide) ?_
    rintro _ _ (⟨q2, J1, rfl, rfl, g1, S1⟩ | ⟨q2, rfl, rfl⟩)
    · have X1 := hX.of g1
      have hp1 := heb.2
      refine aw_if_eq (tgt := 70) dX9_readLine_43 rfl ⟨by decide, by decide⟩ (fun c9 => absurd c9 (by decide)) (fun _ => ?_)
      refine aw_aload_n dX9_readLine_46 rfl (by decide) ?_
      refine aw_aload_n dX9_readLine_47 rfl (by decide) ?_
      refine aw_bipush dX9_readLine_48 rfl ?_
      refine aw_callV (as := [ab_i 9]) (rest := [ab_r 17]) dX9_readLine_50 (ct_X9_number G J1 F hF f n X1 (teT f n p) hp1 S1 9 (by unfold ab_In; omega)) ⟨Nat.le_of_ble_eq_true rfl, Nat.le_of_ble_eq_true rfl⟩ rfl kc9 rfl kX9_number iX9_number eX9_number lX9_62 rfl (Nat.le_of_ble_eq_true rfl) (by decide) (by decide) (by decide) (by decide) ?_
      intro r9 h9 hh9
      have cb := nu_bd (f := f) (n := n) (p := (teT f n p)) (most := 9) (by decide)
      generalize hv : nuT f n (teT f n p) 9 = v at cb hh9
      by_cases v0 : v = -1
      · obtain ⟨_, e9, rfl⟩ := hh9.resolve_left (fun q => q.1 v0)
        subst e9
        rw [v0] at hv
        refine aw_puti dX9_readLine_53 fX9_66 ⟨Nat.le_of_ble_eq_true rfl, Nat.le_of_ble_eq_true rfl⟩ rfl rfl ?_
        refine aw_aload_n dX9_readLine_56 rfl (by decide) ?_
        refine aw_getiv (v := (-1)) dX9_readLine_57 fX9_66 ⟨Nat.le_of_ble_eq_true rfl, Nat.le_of_ble_eq_true rfl⟩ rfl rfl ab_u_s ?_
        refine aw_iconst dX9_readLine_60 ?_
        refine aw_icmp_eq (tgt := 68) dX9_readLine_61 rfl ⟨by decide, by decide⟩ ⟨by decide, by decide⟩ (fun _ => ?_) (fun c9 => absurd (by decide) c9)
        refine aw_iconst dX9_readLine_68 ?_
        rw [← hZ]
        refine aw_breturn dX9_readLine_69 rfl (by omega) ?_
        exact ⟨_, rfl, fun i b q8 q9 => by rw [ab_u_o (by omega)]; exact g1 i b q8, Or.inl ⟨_, by rw [lnT, if_neg q1, if_pos q2, oneT, hv, if_pos rfl], rfl, by rw [ab_u_i (by decide)]; exact S1.1, (ts_bd (f := f) hp1).2⟩⟩
      · obtain ⟨_, J2, e9, rfl, g2, S2⟩ := hh9.resolve_right (fun q => v0 q.1)
        subst e9
        refine aw_puti dX9_readLine_53 fX9_66 ⟨Nat.le_of_ble_eq_true rfl, Nat.le_of_ble_eq_true rfl⟩ rfl rfl ?_
        refine aw_aload_n dX9_readLine_56 rfl (by decide) ?_
        refine aw_getiv (v := v) dX9_readLine_57 fX9_66 ⟨Nat.le_of_ble_eq_true rfl, Nat.le_of_ble_eq_true rfl⟩ rfl rfl ab_u_s ?_
        refine aw_iconst dX9_readLine_60 ?_
        refine aw_icmp_eq (tgt := 68) dX9_readLine_61 rfl (by first | assumption | (unfold ab_In at *; omega)) (by first | assumption | (unfold ab_In at *; omega)) (fun c_61 => ?_) (fun c_61 => ?_)
        · exfalso; omega
        · refine aw_iconst dX9_readLine_64 ?_
          refine aw_goto (tgt := 69) dX9_readLine_65 rfl ?_
          rw [← hZ]
          refine aw_breturn dX9_readLine_69 rfl (by omega) ?_
          exact ⟨_, rfl, fun i b q8 q9 => by rw [ab_u_o (by omega)]; exact (g1.trans g2) i b q8, Or.inr ⟨_, _, by rw [lnT, if_neg q1, if_pos q2, oneT, hv, if_neg v0], rfl, (te_bd (f := f) hp1).2, S2.of (fun b => ab_u_i (by decide)), DRx.put (hD.of (g1.trans g2)) (by decide), hB.up (by decide) (by omega) (by omega)⟩⟩
    · skip
      refine aw_if_eq (tgt := 70) dX9_readLine_43 rfl ⟨by decide, by decide⟩ (fun _ => ?_) (fun c9 => absurd (by decide) c9)
      refine aw_aload_n dX9_readLine_70 rfl (by decide) ?_
      refine aw_ldcS (i := 5) rfl (by decide) dX9_readLine_71 ?_
      refine aw_callV (as := [ab_r 1105]) (rest := []) dX9_readLine_73 (ct_X9_pass G I F hF f n hX p hp hS 5 (by decide)) ⟨Nat.le_of_ble_eq_true rfl, Nat.le_of_ble_eq_true rfl⟩ rfl kc9 rfl kX9_pass iX9_pass eX9_pass lX9_42 rfl (Nat.le_of_ble_eq_true rfl) (by decide) (by decide) (by decide) (by decide) ?_
      rintro _ _ (⟨q3, J1, rfl, rfl, g1, S1⟩ | ⟨q3, rfl, rfl⟩)
      · have X1 := hX.of g1
        have hp1 := heb.2
        refine aw_if_eq (tgt := 107) dX9_readLine_76 rfl ⟨by decide, by decide⟩ (fun c9 => absurd c9 (by decide)) (fun _ => ?_)
        refine aw_aload_n dX9_readLine_79 rfl (by decide) ?_
        refine aw_aload_n dX9_readLine_80 rfl (by decide) ?_
        refine aw_ldcS (i := 6) rfl (by decide) dX9_readLine_81 ?_
        refine aw_ldcS (i := 7) rfl (by decide) dX9_readLine_83 ?_
        refine aw_ldcS (i := 8) rfl (by decide) dX9_readLine_85 ?_
        refine aw_callV (as := [ab_r 1106, ab_r 1107, ab_r 1108]) (rest := [ab_r 17]) dX9_readLine_87 (ct_X9_choose G J1 F hF f n X1 (teT f n p) hp1 S1 6 7 8 (by decide) (by decide) (by decide)) ⟨Nat.le_of_ble_eq_true rfl, Nat.le_of_ble_eq_true rfl⟩ rfl kc9 rfl kX9_choose iX9_choose eX9_choose lX9_54 rfl (Nat.le_of_ble_eq_true rfl) (by decide) (by decide) (by decide) (by decide) ?_
        intro r9 h9 hh9
        have cb := ch_bd (f := f) (n := n) (teT f n p) (pcT 6) (pcT 7) (pcT 8)
        generalize hv : chT f n (teT f n p) (pcT 6) (pcT 7) (pcT 8) = v at cb hh9
        by_cases v0 : v = -1
        · obtain ⟨_, e9, rfl⟩ := hh9.resolve_left (fun q => q.1 v0)
          subst e9
          rw [v0] at hv
          refine aw_puti dX9_readLine_90 fX9_75 ⟨Nat.le_of_ble_eq_true rfl, Nat.le_of_ble_eq_true rfl⟩ rfl rfl ?_
          refine aw_aload_n dX9_readLine_93 rfl (by decide) ?_
          refine aw_getiv (v := (-1)) dX9_readLine_94 fX9_75 ⟨Nat.le_of_ble_eq_true rfl, Nat.le_of_ble_eq_true rfl⟩ rfl rfl ab_u_s ?_
          refine aw_iconst dX9_readLine_97 ?_
          refine aw_icmp_eq (tgt := 105) dX9_readLine_98 rfl ⟨by decide, by decide⟩ ⟨by decide, by decide⟩ (fun _ => ?_) (fun c9 => absurd (by decide) c9)
          refine aw_iconst dX9_readLine_105 ?_
          rw [← hZ]
          refine aw_breturn dX9_readLine_106 rfl (by omega) ?_
          exact ⟨_, rfl, fun i b q8 q9 => by rw [ab_u_o (by omega)]; exact g1 i b q8, Or.inl ⟨_, by rw [lnT, if_neg q1, if_neg q2, if_pos q3, oneT, hv, if_pos rfl], rfl, by rw [ab_u_i (by decide)]; exact S1.1, (ts_bd (f := f) hp1).2⟩⟩
        · obtain ⟨_, J2, e9, rfl, g2, S2⟩ := hh9.resolve_right (fun q => v0 q.1)
          subst e9
          refine aw_puti dX9_readLine_90 fX9_75 ⟨Nat.le_of_ble_eq_true rfl, Nat.le_of_ble_eq_true rfl⟩ rfl rfl ?_
          refine aw_aload_n dX9_readLine_93 rfl (by decide) ?_
          refine aw_getiv (v := v) dX9_readLine_94 fX9_75 ⟨Nat.le_of_ble_eq_true rfl, Nat.le_of_ble_eq_true rfl⟩ rfl rfl ab_u_s ?_
          refine aw_iconst dX9_readLine_97 ?_
          refine aw_icmp_eq (tgt := 105) dX9_readLine_98 rfl (by first | assumption | (unfold ab_In at *; omega)) (by first | assumption | (unfold ab_In at *; omega)) (fun c_98 => ?_) (fun c_98 => ?_)
          · exfalso; omega
          · refine aw_iconst dX9_readLine_101 ?_
            refine aw_goto (tgt := 106) dX9_readLine_102 rfl ?_
            rw [← hZ]
            refine aw_breturn dX9_readLine_106 rfl (by omega) ?_
            exact ⟨_, rfl, fun i b q8 q9 => by rw [ab_u_o (by omega)]; exact (g1.trans g2) i b q8, Or.inr ⟨_, _, by rw [lnT, if_neg q1, if_neg q2, if_pos q3, oneT, hv, if_neg v0], rfl, (te_bd (f := f) hp1).2, S2.of (fun b => ab_u_i (by decide)), DRx.put (hD.of (g1.trans g2)) (by decide), hB.up (by decide) (by omega) (by omega)⟩⟩
      · skip
        refine aw_if_eq (tgt := 107) dX9_readLine_76 rfl ⟨by decide, by decide⟩ (fun _ => ?_) (fun c9 => absurd (by decide) c9)
        refine aw_aload_n dX9_readLine_107 rfl (by decide) ?_
        refine aw_ldcS (i := 9) rfl (by decide) dX9_readLine_108 ?_
        refine aw_callV (as := [ab_r 1109]) (rest := []) dX9_readLine_110 (ct_X9_pass G I F hF f n hX p hp hS 9 (by decide)) ⟨Nat.le_of_ble_eq_true rfl, Nat.le_of_ble_eq_true rfl⟩ rfl kc9 rfl kX9_pass iX9_pass eX9_pass lX9_42 rfl (Nat.le_of_ble_eq_true rfl) (by decide) (by decide) (by decide) (by decide) ?_
        rintro _ _ (⟨q4, J1, rfl, rfl, g1, S1⟩ | ⟨q4, rfl, rfl⟩)
        · have X1 := hX.of g1
          have hp1 := heb.2
          refine aw_if_eq (tgt := 140) dX9_readLine_113 rfl ⟨by decide, by decide⟩ (fun c9 => absurd c9 (by decide)) (fun _ => ?_)
          refine aw_aload_n dX9_readLine_116 rfl (by decide) ?_
          refine aw_aload_n dX9_readLine_117 rfl (by decide) ?_
          refine aw_bipush dX9_readLine_118 rfl ?_
          refine aw_callV (as := [ab_i 9]) (rest := [ab_r 17]) dX9_readLine_120 (ct_X9_number G J1 F hF f n X1 (teT f n p) hp1 S1 9 (by unfold ab_In; omega)) ⟨Nat.le_of_ble_eq_true rfl, Nat.le_of_ble_eq_true rfl⟩ rfl kc9 rfl kX9_number iX9_number eX9_number lX9_62 rfl (Nat.le_of_ble_eq_true rfl) (by decide) (by decide) (by decide) (by decide) ?_
          intro r9 h9 hh9
          have cb := nu_bd (f := f) (n := n) (p := (teT f n p)) (most := 9) (by decide)
          generalize hv : nuT f n (teT f n p) 9 = v at cb hh9
          by_cases v0 : v = -1
          · obtain ⟨_, e9, rfl⟩ := hh9.resolve_left (fun q => q.1 v0)
            subst e9
            rw [v0] at hv
            refine aw_puti dX9_readLine_123 fX9_79 ⟨Nat.le_of_ble_eq_true rfl, Nat.le_of_ble_eq_true rfl⟩ rfl rfl ?_
            refine aw_aload_n dX9_readLine_126 rfl (by decide) ?_
            refine aw_getiv (v := (-1)) dX9_readLine_127 fX9_79 ⟨Nat.le_of_ble_eq_true rfl, Nat.le_of_ble_eq_true rfl⟩ rfl rfl ab_u_s ?_
            refine aw_iconst dX9_readLine_130 ?_
            refine aw_icmp_eq (tgt := 138) dX9_readLine_131 rfl ⟨by decide, by decide⟩ ⟨by decide, by decide⟩ (fun _ => ?_) (fun c9 => absurd (by decide) c9)
            refine aw_iconst dX9_readLine_138 ?_
            rw [← hZ]
            refine aw_breturn dX9_readLine_139 rfl (by omega) ?_
            exact ⟨_, rfl, fun i b q8 q9 => by rw [ab_u_o (by omega)]; exact g1 i b q8, Or.inl ⟨_, by rw [lnT, if_neg q1, if_neg q2, if_neg q3, if_pos q4, oneT, hv, if_pos rfl], rfl, by rw [ab_u_i (by decide)]; exact S1.1, (ts_bd (f := f) hp1).2⟩⟩
          · obtain ⟨_, J2, e9, rfl, g2, S2⟩ := hh9.resolve_right (fun q => v0 q.1)
            subst e9
            refine aw_puti dX9_readLine_123 fX9_79 ⟨Nat.le_of_ble_eq_true rfl, Nat.le_of_ble_eq_true rfl⟩ rfl rfl ?_
            refine aw_aload_n dX9_readLine_126 rfl (by decide) ?_
            refine aw_getiv (v := v) dX9_readLine_127 fX9_79 ⟨Nat.le_of_ble_eq_true rfl, Nat.le_of_ble_eq_true rfl⟩ rfl rfl ab_u_s ?_
            refine aw_iconst dX9_readLine_130 ?_
            refine aw_icmp_eq (tgt := 138) dX9_readLine_131 rfl (by first | assumption | (unfold ab_In at *; omega)) (by first | assumption | (unfold ab_In at *; omega)) (fun c_131 => ?_) (fun c_131 => ?_)
            · exfalso; omega
            · refine aw_iconst dX9_readLine_134 ?_
              refine aw_goto (tgt := 139) dX9_readLine_135 rfl ?_
              rw [← hZ]
              refine aw_breturn dX9_readLine_139 rfl (by omega) ?_
              exact ⟨_, rfl, fun i b q8 q9 => by rw [ab_u_o (by omega)]; exact (g1.trans g2) i b q8, Or.inr ⟨_, _, by rw [lnT, if_neg q1, if_neg q2, if_neg q3, if_pos q4, oneT, hv, if_neg v0], rfl, (te_bd (f := f) hp1).2, S2.of (fun b => ab_u_i (by decide)), DRx.put (hD.of (g1.trans g2)) (by decide), hB.up (by decide) (by omega) (by omega)⟩⟩
        · skip
          refine aw_if_eq (tgt := 140) dX9_readLine_113 rfl ⟨by decide, by decide⟩ (fun _ => ?_) (fun c9 => absurd (by decide) c9)
          refine aw_aload_n dX9_readLine_140 rfl (by decide) ?_
          refine aw_ldcS (i := 10) rfl (by decide) dX9_readLine_141 ?_
          refine aw_callV (as := [ab_r 1110]) (rest := []) dX9_readLine_143 (ct_X9_pass G I F hF f n hX p hp hS 10 (by decide)) ⟨Nat.le_of_ble_eq_true rfl, Nat.le_of_ble_eq_true rfl⟩ rfl kc9 rfl kX9_pass iX9_pass eX9_pass lX9_42 rfl (Nat.le_of_ble_eq_true rfl) (by decide) (by decide) (by decide) (by decide) ?_
          rintro _ _ (⟨q5, J1, rfl, rfl, g1, S1⟩ | ⟨q5, rfl, rfl⟩)
          · have X1 := hX.of g1
            have hp1 := heb.2
            refine aw_if_eq (tgt := 161) dX9_readLine_146 rfl ⟨by decide, by decide⟩ (fun c9 => absurd c9 (by decide)) (fun _ => ?_)
            refine aw_aload_n dX9_readLine_149 rfl (by decide) ?_
            refine aw_aload_n dX9_readLine_150 rfl (by decide) ?_
            refine aw_callV (as := [ab_r 17]) (rest := []) dX9_readLine_151 (ct_X9_readWay G J1 F hF f n X1 (teT f n p) hp1 S1 r (hD.of g1) hB) ⟨Nat.le_of_ble_eq_true rfl, Nat.le_of_ble_eq_true rfl⟩ rfl kc9 rfl kX9_readWay iX9_readWay eX9_readWay lX9_83 rfl (Nat.le_of_ble_eq_true rfl) (by decide) (by decide) (by decide) (by decide) ?_
            rintro _ _ ⟨J3, rfl, l3, (⟨q, hq, rfl, hJ3, hqn⟩ | ⟨p3, r3, hq, rfl, hp3, S3, D3, B3⟩)⟩
            · skip
              refine aw_if_eq (tgt := 161) dX9_readLine_154 rfl ⟨by decide, by decide⟩ (fun _ => ?_) (fun c9 => absurd (by decide) c9)
              refine aw_iconst dX9_readLine_161 ?_
              rw [← hZ]
              refine aw_breturn dX9_readLine_162 rfl (by omega) ?_
              exact ⟨_, rfl, g1.lf.trans l3, Or.inl ⟨_, by rw [lnT, if_neg q1, if_neg q2, if_neg q3, if_neg q4, if_pos q5]; exact hq, rfl, hJ3, hqn⟩⟩
            · skip
              refine aw_if_eq (tgt := 161) dX9_readLine_154 rfl ⟨by decide, by decide⟩ (fun c9 => absurd c9 (by decide)) (fun _ => ?_)
              refine aw_iconst dX9_readLine_157 ?_
              refine aw_goto (tgt := 162) dX9_readLine_158 rfl ?_
              rw [← hZ]
              refine aw_breturn dX9_readLine_162 rfl (by omega) ?_
              exact ⟨_, rfl, g1.lf.trans l3, Or.inr ⟨_, _, by rw [lnT, if_neg q1, if_neg q2, if_neg q3, if_neg q4, if_pos q5]; exact hq, rfl, hp3, S3, D3, B3⟩⟩
          · skip
            refine aw_if_eq (tgt := 161) dX9_readLine_146 rfl ⟨by decide, by decide⟩ (fun _ => ?_) (fun c9 => absurd (by decide) c9)
            refine aw_iconst dX9_readLine_161 ?_
            rw [← hZ]
            refine aw_breturn dX9_readLine_162 rfl (by omega) ?_
            exact ⟨_, rfl, GFx.rf.lf, Or.inl ⟨_, by rw [lnT, if_neg q1, if_neg q2, if_neg q3, if_neg q4, if_neg q5], rfl, hS.1, (ts_bd (f := f) hp).2⟩⟩
set_option maxHeartbeats 4000000 in
set_option maxRecDepth 100000 in
theorem ct_X7_setAsAtFirst_17 (G : ab_G) (I : Nat → Nat → Int) (F : Nat → Nat → Nat) (hF : ab_FB F) : Ct G 1 0 0 YX7_setAsAtFirst [ab_r 17] (104, I, F) (fun rr h => rr = none ∧ ∃ J : Nat → Nat → Int, h = (104, J, F) ∧ DRx J r0T ∧ ∀ i b, ¬ (17 ≤ i ∧ i ≤ 20) → J i b = I i b) := by
  refine Ct.ofW kX7_setAsAtFirst (ls := [some (ab_r 17), none]) (Nat.le_of_ble_eq_true rfl) rfl ?_
  generalize hZ : ab_Z G (fun rr h => rr = none ∧ ∃ J : Nat → Nat → Int, h = (104, J, F) ∧ DRx J r0T ∧ ∀ i b, ¬ (17 ≤ i ∧ i ≤ 20) → J i b = I i b) 0 0 = Z
  have lp : ∀ (d s : Nat) (J : Nat → Nat → Int), s + d = 4 → (J 17 0 = 0 ∧ J 17 1 = 2 ∧ J 17 2 = 0 ∧ J 17 3 = 1) → (∀ q, q < s → J 18 q = 0 ∧ J 19 q = 0 ∧ J 20 q = 0) → (∀ i b, ¬ (17 ≤ i ∧ i ≤ 20) → J i b = I i b) → aW G YX7_setAsAtFirst (ab_rm 1 0 0) Z 0 0 (104, J, F) 22 [some (ab_r 17), some (ab_i (s : Int))] [] := by
    intro d
    induction d with
    | zero =>
      intro s J hs h1 h2 h3
      refine aw_iload_n dX7_setAsAtFirst_22 rfl ?_
      refine aw_iconst dX7_setAsAtFirst_23 ?_
      refine aw_icmp_ge (tgt := 41) dX7_setAsAtFirst_24 rfl (by first | assumption | (unfold ab_In at *; omega)) (by first | assumption | (unfold ab_In at *; omega)) (fun c_24 => ?_) (fun c_24 => ?_)
      · rw [← hZ]
        refine aw_return dX7_setAsAtFirst_41 rfl ?_
        refine ⟨rfl, J, rfl, ⟨fun k hk => ?_, fun q hq => ?_⟩, h3⟩
        · rcases (show k = 0 ∨ k = 1 ∨ k = 2 ∨ k = 3 by omega) with e | e | e | e <;> subst e <;> unfold r0T <;> simp [h1]
        · unfold r0T; rw [if_neg (by omega), if_neg (by omega), if_neg (by omega), if_neg (by omega), if_neg (by omega), if_neg (by omega)]; exact h2 q (by omega)
      · exfalso; omega
    | succ d ih =>
      intro s J hs h1 h2 h3
      refine aw_iload_n dX7_setAsAtFirst_22 rfl ?_
      refine aw_iconst dX7_setAsAtFirst_23 ?_
      refine aw_icmp_ge (tgt := 41) dX7_setAsAtFirst_24 rfl (by first | assumption | (unfold ab_In at *; omega)) (by first | assumption | (unfold ab_In at *; omega)) (fun c_24 => ?_) (fun c_24 => ?_)
      · exfalso; omega
      · refine aw_aload_n dX7_setAsAtFirst_27 rfl (by decide) ?_
        refine aw_iload_n dX7_setAsAtFirst_28 rfl ?_
        refine aw_iconst dX7_setAsAtFirst_29 ?_
        refine aw_iconst dX7_setAsAtFirst_30 ?_
        refine aw_iconst dX7_setAsAtFirst_31 ?_
        refine aw_callV (as := [ab_i (s : Int), ab_i 0, ab_i 0, ab_i 0]) (rest := []) dX7_setAsAtFirst_32 (ct_X7_setWay_17 G J F hF s 0 0 0 (by omega)) ⟨Nat.le_of_ble_eq_true rfl, Nat.le_of_ble_eq_true rfl⟩ rfl kc7 rfl kX7_setWay iX7_setWay eX7_setWay lX7_37 rfl (Nat.le_of_ble_eq_true rfl) (by decide) (by decide) (by decide) (by decide) ?_
        rintro _ _ ⟨rfl, rfl⟩
        refine aw_iinc (ls' := [some (ab_r 17), some (ab_i ((s : Int) + 1))]) dX7_setAsAtFirst_35 (by decide) rfl rfl ?_
        refine aw_goto (tgt := 22) dX7_setAsAtFirst_38 rfl ?_
        refine ih (s + 1) _ (by omega) ?_ (fun q hq => ?_) (fun i b hi => ?_)
        · rw [ab_u_i (by decide), ab_u_i (by decide), ab_u_i (by decide), ab_u_i (by decide), ab_u_i (by decide), ab_u_i (by decide), ab_u_i (by decide), ab_u_i (by decide), ab_u_i (by decide), ab_u_i (by decide), ab_u_i (by decide), ab_u_i (by decide)]; exact h1
        · by_cases e : q = s
          · rw [e, ab_u_i (by decide), ab_u_i (by decide), ab_u_s, ab_u_i (by decide), ab_u_s, ab_u_s]; exact ⟨rfl, rfl, rfl⟩
          · rw [ab_u_i (by decide), ab_u_i (by decide), ab_u_j e, ab_u_i (by decide), ab_u_j e, ab_u_i (by decide), ab_u_j e, ab_u_i (by decide), ab_u_i (by decide)]; exact h2 q (by omega)
        · rw [ab_u_o (by omega), ab_u_o (by omega), ab_u_o (by omega)]; exact h3 i b hi
  refine aw_aload_n dX7_setAsAtFirst_0 rfl (by decide) ?_
  refine aw_iconst dX7_setAsAtFirst_1 ?_
  refine aw_puti dX7_setAsAtFirst_2 fX7_24 ⟨Nat.le_of_ble_eq_true rfl, Nat.le_of_ble_eq_true rfl⟩ rfl rfl ?_
  refine aw_aload_n dX7_setAsAtFirst_5 rfl (by decide) ?_
  refine aw_iconst dX7_setAsAtFirst_6 ?_
  refine aw_puti dX7_setAsAtFirst_7 fX7_28 ⟨Nat.le_of_ble_eq_true rfl, Nat.le_of_ble_eq_true rfl⟩ rfl rfl ?_
  refine aw_aload_n dX7_setAsAtFirst_10 rfl (by decide) ?_
  refine aw_iconst dX7_setAsAtFirst_11 ?_
  refine aw_puti dX7_setAsAtFirst_12 fX7_31 ⟨Nat.le_of_ble_eq_true rfl, Nat.le_of_ble_eq_true rfl⟩ rfl rfl ?_
  refine aw_aload_n dX7_setAsAtFirst_15 rfl (by decide) ?_
  refine aw_iconst dX7_setAsAtFirst_16 ?_
  refine aw_puti dX7_setAsAtFirst_17 fX7_34 ⟨Nat.le_of_ble_eq_true rfl, Nat.le_of_ble_eq_true rfl⟩ rfl rfl ?_
  refine aw_iconst dX7_setAsAtFirst_20 ?_
  refine aw_istore_n (ls' := [some (ab_r 17), some (ab_i 0)]) dX7_setAsAtFirst_21 (by decide) rfl ?_
  exact lp 4 0 _ (by omega) (by simp [ab_u]) (fun q hq => by omega) (fun i b hi => by rw [ab_u_o (by omega), ab_u_o (by omega), ab_u_o (by omega), ab_u_o (by omega)])
set_option maxHeartbeats 4000000 in
set_option maxRecDepth 100000 in
theorem ct_X9_readInto (G : ab_G) (I : Nat → Nat → Int) (F : Nat → Nat → Nat) (hF : ab_FB F) (f : Nat → Int) (n : Nat) (hX : TXx f n I) : Ct G 8 0 0 YX9_readInto [ab_r 21, ab_r 17] (104, I, F) (fun rr h => ∃ J : Nat → Nat → Int, h = (104, J, F) ∧ RFx I J ∧ ((∃ q : Nat, allT f n = .inl q ∧ rr = some (ab_i (q : Int)) ∧ q ≤ n) ∨ ∃ (k : Nat) (r : Nat → Int), allT f n = .inr (k, r) ∧ rr = some (ab_i (-1)) ∧ J 21 2 = (k : Int) ∧ DRx J r ∧ RBr r)) := by
  refine Ct.ofW kX9_readInto (ls := [some (ab_r 21), some (ab_r 17), none]) (Nat.le_of_ble_eq_true rfl) rfl ?_
  generalize hZ : ab_Z G (fun rr h => ∃ J : Nat → Nat → Int, h = (104, J, F) ∧ RFx I J ∧ ((∃ q : Nat, allT f n = .inl q ∧ rr = some (ab_i (q : Int)) ∧ q ≤ n) ∨ ∃ (k : Nat) (r : Nat → Int), allT f n = .inr (k, r) ∧ rr = some (ab_i (-1)) ∧ J 21 2 = (k : Int) ∧ DRx J r ∧ RBr r)) 0 0 = Z
  have hn160 := hX.2.1
  have lp : ∀ (u k p : Nat) (r : Nat → Int) (J : Nat → Nat → Int), k + u = 13 → p ≤ n → TSx f n p J → DRx J r → RBr r → RFx I J → rdT f n u k p r = allT f n → aW G YX9_readInto (ab_rm 8 0 0) Z 0 0 (104, J, F) 15 [some (ab_r 21), some (ab_r 17), some (ab_i (k : Int))] [] := by
    intro u
    induction u with
    | zero =>
      intro k p r J hk hp hS hD hB hR he
      have hsb := ts_bd (f := f) hp
      refine aw_iload_n dX9_readInto_15 rfl ?_
      refine aw_bipush dX9_readInto_16 rfl ?_
      refine aw_icmp_gt (tgt := 78) dX9_readInto_18 rfl (by first | assumption | (unfold ab_In at *; omega)) (by first | assumption | (unfold ab_In at *; omega)) (fun c_18 => ?_) (fun c_18 => ?_)
      · refine aw_aload_n dX9_readInto_78 rfl (by decide) ?_
        refine aw_getiv (v := (tsT f n p : Int)) dX9_readInto_79 fX9_37 ⟨Nat.le_of_ble_eq_true rfl, Nat.le_of_ble_eq_true rfl⟩ rfl rfl hS.1 ?_
        rw [← hZ]
        refine aw_ireturn dX9_readInto_82 rfl ?_
        exact ⟨J, rfl, hR, Or.inl ⟨_, he.symm.trans rfl, rfl, hsb.2⟩⟩
      · exfalso; omega
    | succ u ih =>
      intro k p r J hk hp hS hD hB hR he
      have hX1 := hX.rf hR
      have he2 : goT f n k (rdT f n u (k + 1)) (lnT f n p r) = allT f n := he
      refine aw_iload_n dX9_readInto_15 rfl ?_
      refine aw_bipush dX9_readInto_16 rfl ?_
      refine aw_icmp_gt (tgt := 78) dX9_readInto_18 rfl (by first | assumption | (unfold ab_In at *; omega)) (by first | assumption | (unfold ab_In at *; omega)) (fun c_18 => ?_) (fun c_18 => ?_)
      · exfalso; omega
      · refine aw_aload_n dX9_readInto_21 rfl (by decide) ?_
        refine aw_aload_n dX9_readInto_22 rfl (by decide) ?_
        refine aw_callV (as := [ab_r 17]) (rest := []) dX9_readInto_23 (ct_X9_readLine G J F hF f n hX1 p hp hS r hD hB) ⟨Nat.le_of_ble_eq_true rfl, Nat.le_of_ble_eq_true rfl⟩ rfl kc9 rfl kX9_readLine iX9_readLine eX9_readLine lX9_33 rfl (Nat.le_of_ble_eq_true rfl) (by decide) (by decide) (by decide) (by decide) ?_
        rintro _ _ ⟨J3, rfl, l3, (⟨q, hq, rfl, hJ3, hqn⟩ | ⟨p3, r3, hq, rfl, hp3, S3, D3, B3⟩)⟩
        · rw [hq] at he2
          have hR3 : RFx I J3 := fun i b q1 q2 => (l3 i b (by omega) q2).trans (hR i b q1 q2)
          refine aw_if_ne (tgt := 34) dX9_readInto_26 rfl ⟨by decide, by decide⟩ (fun c9 => absurd rfl c9) (fun _ => ?_)
          refine aw_aload_n dX9_readInto_29 rfl (by decide) ?_
          refine aw_geti dX9_readInto_30 fX9_37 ⟨Nat.le_of_ble_eq_true rfl, Nat.le_of_ble_eq_true rfl⟩ rfl rfl ?_
          rw [← hZ]
          refine aw_ireturn dX9_readInto_33 rfl ?_
          exact ⟨_, rfl, hR3, Or.inl ⟨q, he2.symm, by rw [hJ3], hqn⟩⟩
        · rw [hq] at he2
          have hR3 : RFx I (ab_u J3 21 2 (k : Int)) := fun i b q1 q2 => by rw [ab_u_o (by omega)]; exact (l3 i b (by omega) q2).trans (hR i b q1 q2)
          have hX3 := hX.rf hR3
          have hn3 : J3 21 1 = (n : Int) := (ab_u_j (by decide)).symm.trans hX3.1
          have hsb := ts_bd (f := f) hp3
          have htk := tk_end (f := f) hp3
          have S4 : TSx f n p3 (ab_u J3 21 2 (k : Int)) := ⟨by rw [ab_u_j (by decide)]; exact S3.1, by rw [ab_u_j (by decide)]; exact S3.2.1, by rw [ab_u_j (by decide)]; exact S3.2.2⟩
          have D4 : DRx (ab_u J3 21 2 (k : Int)) r3 := ⟨fun k9 hk9 => by rw [ab_u_i (by decide)]; exact D3.1 k9 hk9, fun s9 hs9 => by rw [ab_u_i (by decide), ab_u_i (by decide), ab_u_i (by decide)]; exact D3.2 s9 hs9⟩
          have he3 : (if tkT f n p3 = -2 then (.inr (k, r3) : RdT) else if k = 12 ∨ tkT f n p3 ≠ -3 then .inl (tsT f n p3) else rdT f n u (k + 1) (teT f n p3) r3) = allT f n := he2
          refine aw_if_ne (tgt := 34) dX9_readInto_26 rfl ⟨by decide, by decide⟩ (fun _ => ?_) (fun c9 => absurd c9 (by decide))
          refine aw_aload_n dX9_readInto_34 rfl (by decide) ?_
          refine aw_iload_n dX9_readInto_35 rfl ?_
          refine aw_puti dX9_readInto_36 fX9_19 ⟨Nat.le_of_ble_eq_true rfl, Nat.le_of_ble_eq_true rfl⟩ rfl rfl ?_
          refine aw_aload_n dX9_readInto_39 rfl (by decide) ?_
          refine aw_getiv (v := (tsT f n p3 : Int)) dX9_readInto_40 fX9_37 ⟨Nat.le_of_ble_eq_true rfl, Nat.le_of_ble_eq_true rfl⟩ rfl rfl ((ab_u_j (by decide)).trans S3.1) ?_
          refine aw_aload_n dX9_readInto_43 rfl (by decide) ?_
          refine aw_getiv (v := (n : Int)) dX9_readInto_44 fX9_15 ⟨Nat.le_of_ble_eq_true rfl, Nat.le_of_ble_eq_true rfl⟩ rfl rfl ((ab_u_j (by decide)).trans hn3) ?_
          refine aw_icmp_ne (tgt := 52) dX9_readInto_47 rfl (by first | assumption | (unfold ab_In at *; omega)) (by first | assumption | (unfold ab_In at *; omega)) (fun c_47 => ?_) (fun c_47 => ?_)
          · refine aw_iload_n dX9_readInto_52 rfl ?_
            refine aw_bipush dX9_readInto_53 rfl ?_
            refine aw_icmp_eq (tgt := 67) dX9_readInto_55 rfl (by first | assumption | (unfold ab_In at *; omega)) (by first | assumption | (unfold ab_In at *; omega)) (fun c_55 => ?_) (fun c_55 => ?_)
            · refine aw_aload_n dX9_readInto_67 rfl (by decide) ?_
              refine aw_getiv (v := (tsT f n p3 : Int)) dX9_readInto_68 fX9_37 ⟨Nat.le_of_ble_eq_true rfl, Nat.le_of_ble_eq_true rfl⟩ rfl rfl ((ab_u_j (by decide)).trans S3.1) ?_
              rw [← hZ]
              refine aw_ireturn dX9_readInto_71 rfl ?_
              rw [if_neg (fun q => by have := htk.mp q; omega), if_pos (by first | exact Or.inl (by omega) | exact Or.inr w2)] at he3
              exact ⟨_, rfl, hR3, Or.inl ⟨_, he3.symm, rfl, hsb.2⟩⟩
            · refine aw_aload_n dX9_readInto_58 rfl (by decide) ?_
              refine aw_ldcS (i := 14) rfl (by decide) dX9_readInto_59 ?_
              refine aw_callV (as := [ab_r 1114]) (rest := []) dX9_readInto_61 (ct_X9_pass G (ab_u J3 21 2 (k : Int)) F hF f n hX3 p3 hp3 S4 14 (by decide)) ⟨Nat.le_of_ble_eq_true rfl, Nat.le_of_ble_eq_true rfl⟩ rfl kc9 rfl kX9_pass iX9_pass eX9_pass lX9_42 rfl (Nat.le_of_ble_eq_true rfl) (by decide) (by decide) (by decide) (by decide) ?_
              rintro _ _ (⟨w1, J4, rfl, rfl, g4, S5⟩ | ⟨w1, rfl, rfl⟩)
              · have w2 : tkT f n p3 = -3 := w1.trans rfl
                refine aw_if_ne (tgt := 72) dX9_readInto_64 rfl ⟨by decide, by decide⟩ (fun _ => ?_) (fun c9 => absurd c9 (by decide))
                refine aw_iinc (ls' := [some (ab_r 21), some (ab_r 17), some (ab_i ((k : Int) + 1))]) dX9_readInto_72 (by decide) rfl rfl ?_
                refine aw_goto (tgt := 15) dX9_readInto_75 rfl ?_
                rw [if_neg (fun q => by have := htk.mp q; omega), if_neg (by omega)] at he3
                exact ih (k + 1) (teT f n p3) r3 J4 (by omega) (te_bd (f := f) hp3).2 S5 (D4.of g4) B3 (fun i b q1 q2 => (g4 i b (by omega)).trans (hR3 i b q1 q2)) he3
              · have w2 : ¬ tkT f n p3 = -3 := fun q => w1 (q.trans rfl)
                refine aw_if_ne (tgt := 72) dX9_readInto_64 rfl ⟨by decide, by decide⟩ (fun c9 => absurd rfl c9) (fun _ => ?_)
                refine aw_aload_n dX9_readInto_67 rfl (by decide) ?_
                refine aw_getiv (v := (tsT f n p3 : Int)) dX9_readInto_68 fX9_37 ⟨Nat.le_of_ble_eq_true rfl, Nat.le_of_ble_eq_true rfl⟩ rfl rfl ((ab_u_j (by decide)).trans S3.1) ?_
                rw [← hZ]
                refine aw_ireturn dX9_readInto_71 rfl ?_
                rw [if_neg (fun q => by have := htk.mp q; omega), if_pos (by first | exact Or.inl (by omega) | exact Or.inr w2)] at he3
                exact ⟨_, rfl, hR3, Or.inl ⟨_, he3.symm, rfl, hsb.2⟩⟩
          · refine aw_iconst dX9_readInto_50 ?_
            rw [← hZ]
            refine aw_ireturn dX9_readInto_51 rfl ?_
            rw [if_pos (htk.mpr (by omega))] at he3
            exact ⟨_, rfl, hR3, Or.inr ⟨k, r3, he3.symm, rfl, ab_u_s, D4, B3⟩⟩
  refine aw_aload_n dX9_readInto_0 rfl (by decide) ?_
  refine aw_callV (as := []) (rest := []) dX9_readInto_1 (ct_X7_setAsAtFirst_17 G I F hF) ⟨Nat.le_of_ble_eq_true rfl, Nat.le_of_ble_eq_true rfl⟩ rfl kc7 rfl kX7_setAsAtFirst iX7_setAsAtFirst eX7_setAsAtFirst lX9_22 rfl (Nat.le_of_ble_eq_true rfl) (by decide) (by decide) (by decide) (by decide) ?_
  rintro _ _ ⟨rfl, J1, rfl, D1, fr1⟩
  have hR2 : RFx I (ab_u J1 21 4 0) := fun i b q1 q2 => by rw [ab_u_o (by omega)]; exact fr1 i b q2
  have hX2 := hX.rf hR2
  refine aw_aload_n dX9_readInto_4 rfl (by decide) ?_
  refine aw_iconst dX9_readInto_5 ?_
  refine aw_puti dX9_readInto_6 fX9_27 ⟨Nat.le_of_ble_eq_true rfl, Nat.le_of_ble_eq_true rfl⟩ rfl rfl ?_
  refine aw_aload_n dX9_readInto_9 rfl (by decide) ?_
  refine aw_callV (as := []) (rest := []) dX9_readInto_10 (ct_X9_goOn G (ab_u J1 21 4 0) F hF f n hX2 0 (by omega) ab_u_s) ⟨Nat.le_of_ble_eq_true rfl, Nat.le_of_ble_eq_true rfl⟩ rfl kc9 rfl kX9_goOn iX9_goOn eX9_goOn lX9_30 rfl (Nat.le_of_ble_eq_true rfl) (by decide) (by decide) (by decide) (by decide) ?_
  rintro _ _ ⟨rfl, J2, rfl, g2, S2⟩
  refine aw_iconst dX9_readInto_13 ?_
  refine aw_istore_n (ls' := [some (ab_r 21), some (ab_r 17), some (ab_i 1)]) dX9_readInto_14 (by decide) rfl ?_
  refine lp 12 1 0 r0T J2 (by omega) (by omega) S2 ?_ RBr.zero (fun i b q1 q2 => (g2 i b (by omega)).trans (hR2 i b q1 q2)) rfl
  refine DRx.of (J := ab_u J1 21 4 0) ⟨fun k hk => ?_, fun s hs => ?_⟩ g2
  · rw [ab_u_i (by decide)]; exact D1.1 k hk
  · rw [ab_u_i (by decide), ab_u_i (by decide), ab_u_i (by decide)]; exact D1.2 s hs
set_option maxHeartbeats 4000000 in
set_option maxRecDepth 100000 in
theorem ct_X11_fault (G : ab_G) (I : Nat → Nat → Int) (F : Nat → Nat → Nat) (hF : ab_FB F) (f : Nat → Int) (n : Nat) (hX : TXx f n I) : Ct G 9 0 0 YX11_fault [ab_r 1] (104, I, F) (fun rr h => ∃ J : Nat → Nat → Int, h = (104, J, F) ∧ RFx I J ∧ ((∃ q : Nat, allT f n = .inl q ∧ rr = some (ab_i (q : Int)) ∧ q ≤ n) ∨ ∃ (k : Nat) (r : Nat → Int), allT f n = .inr (k, r) ∧ rr = some (ab_i (-1)) ∧ J 21 2 = (k : Int) ∧ DRx J r ∧ RBr r)) := by
  refine Ct.ofW kX11_fault (ls := [some (ab_r 1)]) (Nat.le_of_ble_eq_true rfl) rfl ?_
  refine aw_aload_n dX11_fault_0 rfl (by decide) ?_
  refine aw_getrv (r := 21) dX11_fault_1 fX11_29 ⟨Nat.le_of_ble_eq_true rfl, Nat.le_of_ble_eq_true rfl⟩ rfl rfl (hF.at 1 3 21 rfl rfl rfl) ?_
  refine aw_aload_n dX11_fault_4 rfl (by decide) ?_
  refine aw_getrv (r := 17) dX11_fault_5 fX11_23 ⟨Nat.le_of_ble_eq_true rfl, Nat.le_of_ble_eq_true rfl⟩ rfl rfl (hF.at 1 2 17 rfl rfl rfl) ?_
  refine aw_callV (as := [ab_r 17]) (rest := []) dX11_fault_8 (ct_X9_readInto G I F hF f n hX) ⟨Nat.le_of_ble_eq_true rfl, Nat.le_of_ble_eq_true rfl⟩ rfl kc9 rfl kX9_readInto iX9_readInto eX9_readInto lX11_177 rfl (Nat.le_of_ble_eq_true rfl) (by decide) (by decide) (by decide) (by decide) ?_
  rintro r9 _ ⟨J, rfl, hR, (⟨q, hq, rfl, hqn⟩ | ⟨k, r, hq, rfl, hk, D, B⟩)⟩
  · skip
    refine aw_ireturn dX11_fault_11 rfl ?_
    exact ⟨J, rfl, hR, Or.inl ⟨q, hq, rfl, hqn⟩⟩
  · skip
    refine aw_ireturn dX11_fault_11 rfl ?_
    exact ⟨J, rfl, hR, Or.inr ⟨k, r, hq, rfl, hk, D, B⟩⟩
set_option maxHeartbeats 4000000 in
set_option maxRecDepth 100000 in
theorem ct_X11_rules (G : ab_G) (I : Nat → Nat → Int) (F : Nat → Nat → Nat) (hF : ab_FB F) (f : Nat → Int) (n : Nat) (hX : TXx f n I) : Ct G 9 0 0 YX11_rules [ab_r 1] (104, I, F) (fun rr h => ∃ J : Nat → Nat → Int, h = (104, J, F) ∧ ((∃ q : Nat, allT f n = .inl q ∧ rr = some (ab_i (-4)) ∧ RFx I J) ∨ ∃ (k : Nat) (r : Nat → Int), allT f n = .inr (k, r) ∧ rr = some (ab_i (k : Int)) ∧ RBr r ∧ (J 13 0 = r 0 ∧ J 13 1 = r 1 ∧ J 13 2 = r 2 ∧ J 13 3 = r 3) ∧ (∀ s, s < 4 → J 14 s = r (4 + 3 * s) ∧ J 15 s = r (5 + 3 * s) ∧ J 16 s = r (6 + 3 * s)) ∧ J 21 1 = 0 ∧ J 65 5 = 0 ∧ ∀ i b, ¬ (i = 21 ∧ 1 ≤ b) → ¬ (13 ≤ i ∧ i ≤ 20) → ¬ (i = 65 ∧ b = 5) → J i b = I i b)) := by
  refine Ct.ofW kX11_rules (ls := [some (ab_r 1)]) (Nat.le_of_ble_eq_true rfl) rfl ?_
  refine aw_aload_n dX11_rules_0 rfl (by decide) ?_
  refine aw_getrv (r := 21) dX11_rules_1 fX11_29 ⟨Nat.le_of_ble_eq_true rfl, Nat.le_of_ble_eq_true rfl⟩ rfl rfl (hF.at 1 3 21 rfl rfl rfl) ?_
  refine aw_aload_n dX11_rules_4 rfl (by decide) ?_
  refine aw_getrv (r := 17) dX11_rules_5 fX11_23 ⟨Nat.le_of_ble_eq_true rfl, Nat.le_of_ble_eq_true rfl⟩ rfl rfl (hF.at 1 2 17 rfl rfl rfl) ?_
  refine aw_callV (as := [ab_r 17]) (rest := []) dX11_rules_8 (ct_X9_readInto G I F hF f n hX) ⟨Nat.le_of_ble_eq_true rfl, Nat.le_of_ble_eq_true rfl⟩ rfl kc9 rfl kX9_readInto iX9_readInto eX9_readInto lX11_177 rfl (Nat.le_of_ble_eq_true rfl) (by decide) (by decide) (by decide) (by decide) ?_
  rintro r9 _ ⟨J, rfl, hR, (⟨q, hq, rfl, hqn⟩ | ⟨k, r, hq, rfl, hk, D, B⟩)⟩
  · have hn160 := hX.2.1
    refine aw_iconst dX11_rules_11 ?_
    refine aw_icmp_eq (tgt := 18) dX11_rules_12 rfl (by first | assumption | (unfold ab_In at *; omega)) (by first | assumption | (unfold ab_In at *; omega)) (fun c_12 => ?_) (fun c_12 => ?_)
    · exfalso; omega
    · refine aw_bipush dX11_rules_15 rfl ?_
      refine aw_ireturn dX11_rules_17 rfl ?_
      exact ⟨J, rfl, Or.inl ⟨q, hq, rfl, hR⟩⟩
  · skip
    refine aw_iconst dX11_rules_11 ?_
    refine aw_icmp_eq (tgt := 18) dX11_rules_12 rfl ⟨by decide, by decide⟩ ⟨by decide, by decide⟩ (fun _ => ?_) (fun c9 => absurd (by decide) c9)
    refine aw_aload_n dX11_rules_18 rfl (by decide) ?_
    refine aw_getrv (r := 13) dX11_rules_19 fX11_19 ⟨Nat.le_of_ble_eq_true rfl, Nat.le_of_ble_eq_true rfl⟩ rfl rfl (hF.at 1 1 13 rfl rfl rfl) ?_
    refine aw_aload_n dX11_rules_22 rfl (by decide) ?_
    refine aw_getrv (r := 17) dX11_rules_23 fX11_23 ⟨Nat.le_of_ble_eq_true rfl, Nat.le_of_ble_eq_true rfl⟩ rfl rfl (hF.at 1 2 17 rfl rfl rfl) ?_
    refine aw_callV (as := [ab_r 17]) (rest := []) dX11_rules_26 (ct_X7_copy_13_17 G J F hF) ⟨Nat.le_of_ble_eq_true rfl, Nat.le_of_ble_eq_true rfl⟩ rfl kc7 rfl kX7_copy iX7_copy eX7_copy lX11_181 rfl (Nat.le_of_ble_eq_true rfl) (by decide) (by decide) (by decide) (by decide) ?_
    rintro _ _ ⟨rfl, J2, rfl, cp1, cp2, cp3⟩
    refine aw_aload_n dX11_rules_29 rfl (by decide) ?_
    refine aw_getrv (r := 21) dX11_rules_30 fX11_29 ⟨Nat.le_of_ble_eq_true rfl, Nat.le_of_ble_eq_true rfl⟩ rfl rfl (hF.at 1 3 21 rfl rfl rfl) ?_
    refine aw_iconst dX11_rules_33 ?_
    refine aw_puti dX11_rules_34 fX11_169 ⟨Nat.le_of_ble_eq_true rfl, Nat.le_of_ble_eq_true rfl⟩ rfl rfl ?_
    refine aw_aload_n dX11_rules_37 rfl (by decide) ?_
    refine aw_getrv (r := 65) dX11_rules_38 fX11_48 ⟨Nat.le_of_ble_eq_true rfl, Nat.le_of_ble_eq_true rfl⟩ rfl rfl (hF.at 1 6 65 rfl rfl rfl) ?_
    refine aw_callV (as := []) (rest := []) dX11_rules_41 (ct_X5_forget G (ab_u J2 21 1 0) F) ⟨Nat.le_of_ble_eq_true rfl, Nat.le_of_ble_eq_true rfl⟩ rfl kc5 rfl kX5_forget iX5_forget eX5_forget lX11_97 rfl (Nat.le_of_ble_eq_true rfl) (by decide) (by decide) (by decide) (by decide) ?_
    rintro _ _ ⟨rfl, rfl⟩
    refine aw_aload_n dX11_rules_44 rfl (by decide) ?_
    refine aw_getrv (r := 21) dX11_rules_45 fX11_29 ⟨Nat.le_of_ble_eq_true rfl, Nat.le_of_ble_eq_true rfl⟩ rfl rfl (hF.at 1 3 21 rfl rfl rfl) ?_
    refine aw_getiv (v := J2 21 2) dX11_rules_48 fX11_185 ⟨Nat.le_of_ble_eq_true rfl, Nat.le_of_ble_eq_true rfl⟩ rfl rfl ((ab_u_i (by decide)).trans (ab_u_j (by decide))) ?_
    refine aw_ireturn dX11_rules_51 rfl ?_
    refine ⟨_, rfl, Or.inr ⟨k, r, hq, ?_, B, ?_, fun s hs => ?_, ?_, ?_, fun i b q1 q2 q3 => ?_⟩⟩
    · rw [cp3 21 2 (by omega), hk]
    · have d0 := D.1 0 (by decide); have d1 := D.1 1 (by decide); have d2 := D.1 2 (by decide); have d3 := D.1 3 (by decide)
      simp only [ab_u]; simp [cp1, d0, d1, d2, d3]
    · have := cp2 s hs
      have d := D.2 s hs
      rw [ab_u_i (by decide), ab_u_i (by decide), ab_u_i (by decide), ab_u_i (by decide), ab_u_i (by decide), ab_u_i (by decide)]
      exact ⟨this.1.trans d.1, this.2.1.trans d.2.1, this.2.2.trans d.2.2⟩
    · rw [ab_u_i (by decide), ab_u_s]
    · rw [ab_u_s]
    · rw [ab_u_o (by omega), ab_u_o (by omega), cp3 i b (by omega)]; exact hR i b (by omega) (by omega)
