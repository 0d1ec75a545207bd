set_option maxHeartbeats 4000000 in
set_option maxRecDepth 100000 in
theorem ct_X1_isAhead_23 (G : ab_G) (I : Nat → Nat → Int) (F : Nat → Nat → Nat) (hF : ab_FB F) (wk nx : Int) (hb : ∀ p, 32 ≤ p → p ≤ 43 → PB wk nx (tup I p)) (hwk : wk ≤ 6000) (hnx : nx ≤ 100000) (hn : ∀ s, s < 4 → 1 ≤ I 8 s ∧ I 8 s ≤ 9) (p q : Nat) (hp : 32 ≤ p ∧ p ≤ 43) (hq : 32 ≤ q ∧ q ≤ 43) (ord : Int) (ho : ab_In ord) : Ct G 0 0 0 YX1_isAhead [ab_r 23, ab_r p, ab_r q, ab_i ord] (104, I, F) (fun r h => r = some (ab_i (if ah ord (n4 (I 8)) (tup I p) (tup I q) = true then 1 else 0)) ∧ h = (104, I, F)) := by
  refine Ct.ofW kX1_isAhead (ls := [some (ab_r 23), some (ab_r p), some (ab_r q), some (ab_i ord), none]) (Nat.le_of_ble_eq_true rfl) rfl ?_
  have hpb := hb p hp.1 hp.2
  have hqb := hb q hq.1 hq.2
  simp only [PB, tup] at hpb hqb
  have hsp : (I p 0).toNat < 4 := by omega
  have hsq : (I q 0).toNat < 4 := by omega
  have hn1 := hn _ hsp
  have hn2 := hn _ hsq
  refine aw_iconst dX1_isAhead_0 ?_
  refine aw_istore (ls' := [some (ab_r 23), some (ab_r p), some (ab_r q), some (ab_i ord), some (ab_i 0)]) dX1_isAhead_1 (by decide) rfl ?_
  refine aw_iload_n dX1_isAhead_3 rfl ?_
  refine aw_iconst dX1_isAhead_4 ?_
  refine aw_icmp_ne (tgt := 35) dX1_isAhead_5 rfl (by first | assumption | (unfold ab_In at *; omega)) (by first | assumption | (unfold ab_In at *; omega)) (fun c_5 => ?_) (fun c_5 => ?_)
  · refine aw_iload_n dX1_isAhead_35 rfl ?_
    refine aw_iconst dX1_isAhead_36 ?_
    refine aw_icmp_ne (tgt := 51) dX1_isAhead_37 rfl (by first | assumption | (unfold ab_In at *; omega)) (by first | assumption | (unfold ab_In at *; omega)) (fun c_37 => ?_) (fun c_37 => ?_)
    · refine aw_iload dX1_isAhead_51 rfl ?_
      refine aw_if_gt (tgt := 72) dX1_isAhead_53 rfl ⟨by decide, by decide⟩ (fun c9 => absurd c9 (by decide)) (fun _ => ?_)
      refine aw_iload dX1_isAhead_56 rfl ?_
      refine aw_if_ne (tgt := 76) dX1_isAhead_58 rfl ⟨by decide, by decide⟩ (fun c9 => absurd rfl c9) (fun _ => ?_)
      refine aw_aload_n dX1_isAhead_61 rfl (by omega) ?_
      refine aw_geti dX1_isAhead_62 fX1_103 ⟨by omega, by omega⟩ (sh_p23 hp) rfl ?_
      refine aw_aload_n dX1_isAhead_65 rfl (by omega) ?_
      refine aw_geti dX1_isAhead_66 fX1_103 ⟨by omega, by omega⟩ (sh_p23 hq) rfl ?_
      refine aw_icmp_ge (tgt := 76) dX1_isAhead_69 rfl (by first | assumption | (unfold ab_In at *; omega)) (by first | assumption | (unfold ab_In at *; omega)) (fun c_69 => ?_) (fun c_69 => ?_)
      · refine aw_iconst dX1_isAhead_76 ?_
        refine aw_breturn dX1_isAhead_77 rfl (by omega) ?_
        refine ⟨?_, rfl⟩
        by_cases e9 : ah ord (n4 (I 8)) (tup I p) (tup I q) = true
        · first | (rw [if_pos e9]; done) | (exfalso; rw [ah_iff] at e9; simp only [tup] at e9; rw [n4_lt hsp, n4_lt hsq] at e9; omega)
        · first | (rw [if_neg e9]; done) | (exfalso; apply e9; rw [ah_iff]; simp only [tup]; rw [n4_lt hsp, n4_lt hsq]; omega)
      · refine aw_iconst dX1_isAhead_72 ?_
        refine aw_goto (tgt := 77) dX1_isAhead_73 rfl ?_
        refine aw_breturn dX1_isAhead_77 rfl (by omega) ?_
        refine ⟨?_, rfl⟩
        by_cases e9 : ah ord (n4 (I 8)) (tup I p) (tup I q) = true
        · first | (rw [if_pos e9]; done) | (exfalso; rw [ah_iff] at e9; simp only [tup] at e9; rw [n4_lt hsp, n4_lt hsq] at e9; omega)
        · first | (rw [if_neg e9]; done) | (exfalso; apply e9; rw [ah_iff]; simp only [tup]; rw [n4_lt hsp, n4_lt hsq]; omega)
    · refine aw_aload_n dX1_isAhead_40 rfl (by omega) ?_
      refine aw_geti dX1_isAhead_41 fX1_100 ⟨by omega, by omega⟩ (sh_p23 hp) rfl ?_
      refine aw_aload_n dX1_isAhead_44 rfl (by omega) ?_
      refine aw_geti dX1_isAhead_45 fX1_100 ⟨by omega, by omega⟩ (sh_p23 hq) rfl ?_
      refine aw_isub dX1_isAhead_48 ?_
      refine aw_istore (ls' := [some (ab_r 23), some (ab_r p), some (ab_r q), some (ab_i ord), some (ab_i ((I p 2) - (I q 2)))]) dX1_isAhead_49 (by decide) rfl ?_
      refine aw_iload dX1_isAhead_51 rfl ?_
      refine aw_if_gt (tgt := 72) dX1_isAhead_53 rfl (by first | assumption | (unfold ab_In at *; omega)) (fun c_53 => ?_) (fun c_53 => ?_)
      · refine aw_iconst dX1_isAhead_72 ?_
        refine aw_goto (tgt := 77) dX1_isAhead_73 rfl ?_
        refine aw_breturn dX1_isAhead_77 rfl (by omega) ?_
        refine ⟨?_, rfl⟩
        by_cases e9 : ah ord (n4 (I 8)) (tup I p) (tup I q) = true
        · first | (rw [if_pos e9]; done) | (exfalso; rw [ah_iff] at e9; simp only [tup] at e9; rw [n4_lt hsp, n4_lt hsq] at e9; omega)
        · first | (rw [if_neg e9]; done) | (exfalso; apply e9; rw [ah_iff]; simp only [tup]; rw [n4_lt hsp, n4_lt hsq]; omega)
      · refine aw_iload dX1_isAhead_56 rfl ?_
        refine aw_if_ne (tgt := 76) dX1_isAhead_58 rfl (by first | assumption | (unfold ab_In at *; omega)) (fun c_58 => ?_) (fun c_58 => ?_)
        · refine aw_iconst dX1_isAhead_76 ?_
          refine aw_breturn dX1_isAhead_77 rfl (by omega) ?_
          refine ⟨?_, rfl⟩
          by_cases e9 : ah ord (n4 (I 8)) (tup I p) (tup I q) = true
          · first | (rw [if_pos e9]; done) | (exfalso; rw [ah_iff] at e9; simp only [tup] at e9; rw [n4_lt hsp, n4_lt hsq] at e9; omega)
          · first | (rw [if_neg e9]; done) | (exfalso; apply e9; rw [ah_iff]; simp only [tup]; rw [n4_lt hsp, n4_lt hsq]; omega)
        · refine aw_aload_n dX1_isAhead_61 rfl (by omega) ?_
          refine aw_geti dX1_isAhead_62 fX1_103 ⟨by omega, by omega⟩ (sh_p23 hp) rfl ?_
          refine aw_aload_n dX1_isAhead_65 rfl (by omega) ?_
          refine aw_geti dX1_isAhead_66 fX1_103 ⟨by omega, by omega⟩ (sh_p23 hq) rfl ?_
          refine aw_icmp_ge (tgt := 76) dX1_isAhead_69 rfl (by first | assumption | (unfold ab_In at *; omega)) (by first | assumption | (unfold ab_In at *; omega)) (fun c_69 => ?_) (fun c_69 => ?_)
          · refine aw_iconst dX1_isAhead_76 ?_
            refine aw_breturn dX1_isAhead_77 rfl (by omega) ?_
            refine ⟨?_, rfl⟩
            by_cases e9 : ah ord (n4 (I 8)) (tup I p) (tup I q) = true
            · first | (rw [if_pos e9]; done) | (exfalso; rw [ah_iff] at e9; simp only [tup] at e9; rw [n4_lt hsp, n4_lt hsq] at e9; omega)
            · first | (rw [if_neg e9]; done) | (exfalso; apply e9; rw [ah_iff]; simp only [tup]; rw [n4_lt hsp, n4_lt hsq]; omega)
          · refine aw_iconst dX1_isAhead_72 ?_
            refine aw_goto (tgt := 77) dX1_isAhead_73 rfl ?_
            refine aw_breturn dX1_isAhead_77 rfl (by omega) ?_
            refine ⟨?_, rfl⟩
            by_cases e9 : ah ord (n4 (I 8)) (tup I p) (tup I q) = true
            · first | (rw [if_pos e9]; done) | (exfalso; rw [ah_iff] at e9; simp only [tup] at e9; rw [n4_lt hsp, n4_lt hsq] at e9; omega)
            · first | (rw [if_neg e9]; done) | (exfalso; apply e9; rw [ah_iff]; simp only [tup]; rw [n4_lt hsp, n4_lt hsq]; omega)
  · refine aw_aload_n dX1_isAhead_8 rfl (by decide) ?_
    refine aw_getrv (r := 2) dX1_isAhead_9 fX1_35 ⟨Nat.le_of_ble_eq_true rfl, Nat.le_of_ble_eq_true rfl⟩ rfl rfl (hF.at 23 0 2 rfl rfl rfl) ?_
    refine aw_getrv (r := 8) dX1_isAhead_12 fX1_93 ⟨Nat.le_of_ble_eq_true rfl, Nat.le_of_ble_eq_true rfl⟩ rfl rfl (hF.at 2 1 8 rfl rfl rfl) ?_
    refine aw_aload_n dX1_isAhead_15 rfl (by omega) ?_
    refine aw_geti dX1_isAhead_16 fX1_97 ⟨by omega, by omega⟩ (sh_p23 hp) rfl ?_
    refine aw_ialdq (q := (I p 0).toNat) (v := I 8 (I p 0).toNat) dX1_isAhead_19 ⟨Nat.le_of_ble_eq_true rfl, Nat.le_of_ble_eq_true rfl⟩ rfl (by omega) (by omega) (by decide) rfl rfl ?_
    refine aw_aload_n dX1_isAhead_20 rfl (by decide) ?_
    refine aw_getrv (r := 2) dX1_isAhead_21 fX1_35 ⟨Nat.le_of_ble_eq_true rfl, Nat.le_of_ble_eq_true rfl⟩ rfl rfl (hF.at 23 0 2 rfl rfl rfl) ?_
    refine aw_getrv (r := 8) dX1_isAhead_24 fX1_93 ⟨Nat.le_of_ble_eq_true rfl, Nat.le_of_ble_eq_true rfl⟩ rfl rfl (hF.at 2 1 8 rfl rfl rfl) ?_
    refine aw_aload_n dX1_isAhead_27 rfl (by omega) ?_
    refine aw_geti dX1_isAhead_28 fX1_97 ⟨by omega, by omega⟩ (sh_p23 hq) rfl ?_
    refine aw_ialdq (q := (I q 0).toNat) (v := I 8 (I q 0).toNat) dX1_isAhead_31 ⟨Nat.le_of_ble_eq_true rfl, Nat.le_of_ble_eq_true rfl⟩ rfl (by omega) (by omega) (by decide) rfl rfl ?_
    refine aw_isub dX1_isAhead_32 ?_
    refine aw_istore (ls' := [some (ab_r 23), some (ab_r p), some (ab_r q), some (ab_i ord), some (ab_i ((I 8 (I p 0).toNat) - (I 8 (I q 0).toNat)))]) dX1_isAhead_33 (by decide) rfl ?_
    refine aw_iload_n dX1_isAhead_35 rfl ?_
    refine aw_iconst dX1_isAhead_36 ?_
    refine aw_icmp_ne (tgt := 51) dX1_isAhead_37 rfl (by first | assumption | (unfold ab_In at *; omega)) (by first | assumption | (unfold ab_In at *; omega)) (fun c_37 => ?_) (fun c_37 => ?_)
    · refine aw_iload dX1_isAhead_51 rfl ?_
      refine aw_if_gt (tgt := 72) dX1_isAhead_53 rfl (by first | assumption | (unfold ab_In at *; omega)) (fun c_53 => ?_) (fun c_53 => ?_)
      · refine aw_iconst dX1_isAhead_72 ?_
        refine aw_goto (tgt := 77) dX1_isAhead_73 rfl ?_
        refine aw_breturn dX1_isAhead_77 rfl (by omega) ?_
        refine ⟨?_, rfl⟩
        by_cases e9 : ah ord (n4 (I 8)) (tup I p) (tup I q) = true
        · first | (rw [if_pos e9]; done) | (exfalso; rw [ah_iff] at e9; simp only [tup] at e9; rw [n4_lt hsp, n4_lt hsq] at e9; omega)
        · first | (rw [if_neg e9]; done) | (exfalso; apply e9; rw [ah_iff]; simp only [tup]; rw [n4_lt hsp, n4_lt hsq]; omega)
      · refine aw_iload dX1_isAhead_56 rfl ?_
        refine aw_if_ne (tgt := 76) dX1_isAhead_58 rfl (by first | assumption | (unfold ab_In at *; omega)) (fun c_58 => ?_) (fun c_58 => ?_)
        · refine aw_iconst dX1_isAhead_76 ?_
          refine aw_breturn dX1_isAhead_77 rfl (by omega) ?_
          refine ⟨?_, rfl⟩
          by_cases e9 : ah ord (n4 (I 8)) (tup I p) (tup I q) = true
          · first | (rw [if_pos e9]; done) | (exfalso; rw [ah_iff] at e9; simp only [tup] at e9; rw [n4_lt hsp, n4_lt hsq] at e9; omega)
          · first | (rw [if_neg e9]; done) | (exfalso; apply e9; rw [ah_iff]; simp only [tup]; rw [n4_lt hsp, n4_lt hsq]; omega)
        · refine aw_aload_n dX1_isAhead_61 rfl (by omega) ?_
          refine aw_geti dX1_isAhead_62 fX1_103 ⟨by omega, by omega⟩ (sh_p23 hp) rfl ?_
          refine aw_aload_n dX1_isAhead_65 rfl (by omega) ?_
          refine aw_geti dX1_isAhead_66 fX1_103 ⟨by omega, by omega⟩ (sh_p23 hq) rfl ?_
          refine aw_icmp_ge (tgt := 76) dX1_isAhead_69 rfl (by first | assumption | (unfold ab_In at *; omega)) (by first | assumption | (unfold ab_In at *; omega)) (fun c_69 => ?_) (fun c_69 => ?_)
          · refine aw_iconst dX1_isAhead_76 ?_
            refine aw_breturn dX1_isAhead_77 rfl (by omega) ?_
            refine ⟨?_, rfl⟩
            by_cases e9 : ah ord (n4 (I 8)) (tup I p) (tup I q) = true
            · first | (rw [if_pos e9]; done) | (exfalso; rw [ah_iff] at e9; simp only [tup] at e9; rw [n4_lt hsp, n4_lt hsq] at e9; omega)
            · first | (rw [if_neg e9]; done) | (exfalso; apply e9; rw [ah_iff]; simp only [tup]; rw [n4_lt hsp, n4_lt hsq]; omega)
          · refine aw_iconst dX1_isAhead_72 ?_
            refine aw_goto (tgt := 77) dX1_isAhead_73 rfl ?_
            refine aw_breturn dX1_isAhead_77 rfl (by omega) ?_
            refine ⟨?_, rfl⟩
            by_cases e9 : ah ord (n4 (I 8)) (tup I p) (tup I q) = true
            · first | (rw [if_pos e9]; done) | (exfalso; rw [ah_iff] at e9; simp only [tup] at e9; rw [n4_lt hsp, n4_lt hsq] at e9; omega)
            · first | (rw [if_neg e9]; done) | (exfalso; apply e9; rw [ah_iff]; simp only [tup]; rw [n4_lt hsp, n4_lt hsq]; omega)
    · refine aw_aload_n dX1_isAhead_40 rfl (by omega) ?_
      refine aw_geti dX1_isAhead_41 fX1_100 ⟨by omega, by omega⟩ (sh_p23 hp) rfl ?_
      refine aw_aload_n dX1_isAhead_44 rfl (by omega) ?_
      refine aw_geti dX1_isAhead_45 fX1_100 ⟨by omega, by omega⟩ (sh_p23 hq) rfl ?_
      refine aw_isub dX1_isAhead_48 ?_
      refine aw_istore (ls' := [some (ab_r 23), some (ab_r p), some (ab_r q), some (ab_i ord), some (ab_i ((I p 2) - (I q 2)))]) dX1_isAhead_49 (by decide) rfl ?_
      refine aw_iload dX1_isAhead_51 rfl ?_
      refine aw_if_gt (tgt := 72) dX1_isAhead_53 rfl (by first | assumption | (unfold ab_In at *; omega)) (fun c_53 => ?_) (fun c_53 => ?_)
      · refine aw_iconst dX1_isAhead_72 ?_
        refine aw_goto (tgt := 77) dX1_isAhead_73 rfl ?_
        refine aw_breturn dX1_isAhead_77 rfl (by omega) ?_
        refine ⟨?_, rfl⟩
        by_cases e9 : ah ord (n4 (I 8)) (tup I p) (tup I q) = true
        · first | (rw [if_pos e9]; done) | (exfalso; rw [ah_iff] at e9; simp only [tup] at e9; rw [n4_lt hsp, n4_lt hsq] at e9; omega)
        · first | (rw [if_neg e9]; done) | (exfalso; apply e9; rw [ah_iff]; simp only [tup]; rw [n4_lt hsp, n4_lt hsq]; omega)
      · refine aw_iload dX1_isAhead_56 rfl ?_
        refine aw_if_ne (tgt := 76) dX1_isAhead_58 rfl (by first | assumption | (unfold ab_In at *; omega)) (fun c_58 => ?_) (fun c_58 => ?_)
        · refine aw_iconst dX1_isAhead_76 ?_
          refine aw_breturn dX1_isAhead_77 rfl (by omega) ?_
          refine ⟨?_, rfl⟩
          by_cases e9 : ah ord (n4 (I 8)) (tup I p) (tup I q) = true
          · first | (rw [if_pos e9]; done) | (exfalso; rw [ah_iff] at e9; simp only [tup] at e9; rw [n4_lt hsp, n4_lt hsq] at e9; omega)
          · first | (rw [if_neg e9]; done) | (exfalso; apply e9; rw [ah_iff]; simp only [tup]; rw [n4_lt hsp, n4_lt hsq]; omega)
        · refine aw_aload_n dX1_isAhead_61 rfl (by omega) ?_
          refine aw_geti dX1_isAhead_62 fX1_103 ⟨by omega, by omega⟩ (sh_p23 hp) rfl ?_
          refine aw_aload_n dX1_isAhead_65 rfl (by omega) ?_
          refine aw_geti dX1_isAhead_66 fX1_103 ⟨by omega, by omega⟩ (sh_p23 hq) rfl ?_
          refine aw_icmp_ge (tgt := 76) dX1_isAhead_69 rfl (by first | assumption | (unfold ab_In at *; omega)) (by first | assumption | (unfold ab_In at *; omega)) (fun c_69 => ?_) (fun c_69 => ?_)
          · refine aw_iconst dX1_isAhead_76 ?_
            refine aw_breturn dX1_isAhead_77 rfl (by omega) ?_
            refine ⟨?_, rfl⟩
            by_cases e9 : ah ord (n4 (I 8)) (tup I p) (tup I q) = true
            · first | (rw [if_pos e9]; done) | (exfalso; rw [ah_iff] at e9; simp only [tup] at e9; rw [n4_lt hsp, n4_lt hsq] at e9; omega)
            · first | (rw [if_neg e9]; done) | (exfalso; apply e9; rw [ah_iff]; simp only [tup]; rw [n4_lt hsp, n4_lt hsq]; omega)
          · refine aw_iconst dX1_isAhead_72 ?_
            refine aw_goto (tgt := 77) dX1_isAhead_73 rfl ?_
            refine aw_breturn dX1_isAhead_77 rfl (by omega) ?_
            refine ⟨?_, rfl⟩
            by_cases e9 : ah ord (n4 (I 8)) (tup I p) (tup I q) = true
            · first | (rw [if_pos e9]; done) | (exfalso; rw [ah_iff] at e9; simp only [tup] at e9; rw [n4_lt hsp, n4_lt hsq] at e9; omega)
            · first | (rw [if_neg e9]; done) | (exfalso; apply e9; rw [ah_iff]; simp only [tup]; rw [n4_lt hsp, n4_lt hsq]; omega)
set_option maxHeartbeats 4000000 in
set_option maxRecDepth 100000 in
theorem ct_X1_stand_23 (G : ab_G) (I : Nat → Nat → Int) (F : Nat → Nat → Nat) (hF : ab_FB F) (wk nx : Int) (hb : ∀ p, 32 ≤ p → p ≤ 43 → PB wk nx (tup I p)) (hwk : wk ≤ 6000) (hnx : nx ≤ 100000) (hn : ∀ s, s < 4 → 1 ≤ I 8 s ∧ I 8 s ≤ 9) (ord : Int) (ho : ab_In ord) (N : Nat) (hN : I 23 2 = N) (hN12 : N ≤ 12) (hP : ∀ j, j < 12 → 32 ≤ F 24 j ∧ F 24 j ≤ 43) : Ct G 1 0 0 YX1_stand [ab_r 23, ab_i ord] (104, I, F) (fun r h => r = none ∧ h = (104, I, rw_ F 24 (sd (fun a b => ah ord (n4 (I 8)) (tup I a) (tup I b)) (F 24) N))) := by
  refine Ct.ofW kX1_stand (ls := [some (ab_r 23), some (ab_i ord), none, none, none]) (Nat.le_of_ble_eq_true rfl) rfl ?_
  generalize hZ : ab_Z G (fun r h => r = none ∧ h = (104, I, rw_ F 24 (sd (fun a b => ah ord (n4 (I 8)) (tup I a) (tup I b)) (F 24) N))) 0 0 = Z
  generalize hRd : (fun a b => ah ord (n4 (I 8)) (tup I a) (tup I b)) = Rd at *
  have outer : ∀ (m k : Nat), N + 1 ≤ k + m → 1 ≤ k → k ≤ N + 1 → aW G YX1_stand (ab_rm 1 0 0) Z 0 0 (104, I, rw_ F 24 (sd Rd (F 24) (if k ≤ N then k else N))) 2 [some (ab_r 23), some (ab_i ord), some (ab_i (k : Int)), none, none] [] := by
    intro m
    induction m with
    | zero =>
      intro k hk h1 h2
      have hk2 : k = N + 1 := by omega
      have hF2 : ab_FB (rw_ F 24 (sd Rd (F 24) (if k ≤ N then k else N))) := hF.rw 24 _ (by omega)
      subst hZ
      refine aw_iload_n dX1_stand_2 rfl ?_
      refine aw_aload_n dX1_stand_3 rfl (by decide) ?_
      refine aw_geti dX1_stand_4 fX1_17 ⟨Nat.le_of_ble_eq_true rfl, Nat.le_of_ble_eq_true rfl⟩ rfl rfl ?_
      refine aw_icmp_ge (tgt := 79) dX1_stand_7 rfl (by first | assumption | (unfold ab_In at *; omega)) (by first | assumption | (unfold ab_In at *; omega)) (fun c_7 => ?_) (fun c_7 => ?_)
      · refine aw_return dX1_stand_79 rfl ?_
        refine ⟨rfl, ?_⟩
        rw [if_neg (by omega)]
      · exfalso; omega
    | succ m ih =>
      intro k hk h1 h2
      have hF2 : ab_FB (rw_ F 24 (sd Rd (F 24) (if k ≤ N then k else N))) := hF.rw 24 _ (by omega)
      refine aw_iload_n dX1_stand_2 rfl ?_
      refine aw_aload_n dX1_stand_3 rfl (by decide) ?_
      refine aw_geti dX1_stand_4 fX1_17 ⟨Nat.le_of_ble_eq_true rfl, Nat.le_of_ble_eq_true rfl⟩ rfl rfl ?_
      refine aw_icmp_ge (tgt := 79) dX1_stand_7 rfl (by first | assumption | (unfold ab_In at *; omega)) (by first | assumption | (unfold ab_In at *; omega)) (fun c_7 => ?_) (fun c_7 => ?_)
      · rw [← hZ]
        refine aw_return dX1_stand_79 rfl ?_
        refine ⟨rfl, ?_⟩
        have hkN : ¬ k ≤ N ∨ k = N := by omega
        rcases hkN with q | q
        · rw [if_neg q]
        · rw [if_pos (by omega), q]
      · have hkN : k < N := by omega
        rw [if_pos (by omega)] at *
        generalize hg : sd Rd (F 24) k = g at *
        have hgP : ∀ j, j < 12 → 32 ≤ g j ∧ g j ≤ 43 := by rw [← hg]; exact sd_all Rd (fun p => 32 ≤ p ∧ p ≤ 43) hP k (by omega)
        refine aw_aload_n dX1_stand_10 rfl (by decide) ?_
        refine aw_getrv (r := 24) dX1_stand_11 fX1_11 ⟨Nat.le_of_ble_eq_true rfl, Nat.le_of_ble_eq_true rfl⟩ rfl rfl (hF2.at 23 1 24 rfl rfl rfl) ?_
        refine aw_iload_n dX1_stand_14 rfl ?_
        refine aw_aaldv (r := g k) dX1_stand_15 ⟨Nat.le_of_ble_eq_true rfl, Nat.le_of_ble_eq_true rfl⟩ rfl (by decide) (by omega) (by omega) (by decide) (rw_s _ _ _ _) ?_
        have hone := hgP k (by omega)
        generalize hone9 : g k = one at *
        have hF3 : ∀ p, ab_FB (rw_ F 24 (sd_g g p k)) := fun p => hF.rw 24 _ (by omega)
        have inner : ∀ p, p ≤ k → aW G YX1_stand (ab_rm 1 0 0) Z 0 0 (104, I, rw_ F 24 (sd_s g (sd_f Rd g one p) k one)) 73 [some (ab_r 23), some (ab_i ord), some (ab_i (k : Int)), some (ab_r one), some (ab_i ((sd_f Rd g one p : Nat) : Int))] [] → aW G YX1_stand (ab_rm 1 0 0) Z 0 0 (104, I, rw_ F 24 (sd_g g p k)) 20 [some (ab_r 23), some (ab_i ord), some (ab_i (k : Int)), some (ab_r one), some (ab_i (p : Int))] [] := by
          intro p
          induction p with
          | zero =>
            intro hp0 hk9
            refine aw_iload dX1_stand_20 rfl ?_
            refine aw_if_le (tgt := 65) dX1_stand_22 rfl (by first | assumption | (unfold ab_In at *; omega)) (fun c_22 => ?_) (fun c_22 => ?_)
            · refine aw_aload_n dX1_stand_65 rfl (by decide) ?_
              refine aw_getrv (r := 24) dX1_stand_66 fX1_11 ⟨Nat.le_of_ble_eq_true rfl, Nat.le_of_ble_eq_true rfl⟩ rfl rfl ((hF3 _).at 23 1 24 rfl rfl rfl) ?_
              refine aw_iload dX1_stand_69 rfl ?_
              refine aw_aload_n dX1_stand_71 rfl (by omega) ?_
              refine aw_aastv (q := (0)) kc4 dX1_stand_72 ⟨Nat.le_of_ble_eq_true rfl, Nat.le_of_ble_eq_true rfl⟩ rfl (by omega) (by omega) (by decide) ⟨by omega, by omega⟩ (sh_p23 hone) rfl ?_
              rw [rw_w, sd_g_put g (by omega)]
              exact hk9
            · exact absurd (Int.le_refl 0) c_22
          | succ p ihp =>
            intro hp0 hk9
            have hpp := hgP p (by omega)
            have e1 : ∀ z : Int, z = ((p + 1 : Nat) : Int) - 1 → z.toNat = p := fun z hz => by omega
            refine aw_iload dX1_stand_20 rfl ?_
            refine aw_if_le (tgt := 65) dX1_stand_22 rfl (by first | assumption | (unfold ab_In at *; omega)) (fun c_22 => ?_) (fun c_22 => ?_)
            · exfalso; omega
            · refine aw_aload_n dX1_stand_25 rfl (by decide) ?_
              refine aw_aload_n dX1_stand_26 rfl (by omega) ?_
              refine aw_aload_n dX1_stand_27 rfl (by decide) ?_
              refine aw_getrv (r := 24) dX1_stand_28 fX1_11 ⟨Nat.le_of_ble_eq_true rfl, Nat.le_of_ble_eq_true rfl⟩ rfl rfl ((hF3 _).at 23 1 24 rfl rfl rfl) ?_
              refine aw_iload dX1_stand_31 rfl ?_
              refine aw_iconst dX1_stand_33 ?_
              refine aw_isub dX1_stand_34 ?_
              refine aw_aaldv (r := g p) dX1_stand_35 ⟨Nat.le_of_ble_eq_true rfl, Nat.le_of_ble_eq_true rfl⟩ rfl (by decide) (by omega) (by omega) (by decide) (by rw [rw_s]; unfold sd_g; rw [show (((p + 1 : Nat) : Int) - 1).toNat = p by omega, if_pos (by omega)]) ?_
              refine aw_iload_n dX1_stand_36 rfl ?_
              refine aw_callV (as := [ab_r one, ab_r (g p), ab_i ord]) (rest := []) dX1_stand_37 (ct_X1_isAhead_23 G I _ (hF3 _) wk nx hb hwk hnx hn one (g p) hone hpp ord ho) ⟨Nat.le_of_ble_eq_true rfl, Nat.le_of_ble_eq_true rfl⟩ rfl kc1 rfl kX1_isAhead iX1_isAhead eX1_isAhead lX1_89 rfl (Nat.le_of_ble_eq_true rfl) (by decide) (by decide) (by decide) (by decide) ?_
              rintro _ _ ⟨rfl, rfl⟩
              rw [show ah ord (n4 (I 8)) (tup I one) (tup I (g p)) = Rd one (g p) from congrFun (congrFun hRd one) (g p)]
              refine aw_if_eq (tgt := 65) dX1_stand_40 rfl (by split <;> (unfold ab_In; omega)) (fun c_40 => ?_) (fun c_40 => ?_)
              · have hq : ¬ Rd one (g p) = true := fun e => by rw [if_pos e] at c_40; omega
                have hs : sd_f Rd g one (p + 1) = p + 1 := by unfold sd_f; rw [if_neg hq]
                rw [hs] at hk9
                refine aw_aload_n dX1_stand_65 rfl (by decide) ?_
                refine aw_getrv (r := 24) dX1_stand_66 fX1_11 ⟨Nat.le_of_ble_eq_true rfl, Nat.le_of_ble_eq_true rfl⟩ rfl rfl ((hF3 _).at 23 1 24 rfl rfl rfl) ?_
                refine aw_iload dX1_stand_69 rfl ?_
                refine aw_aload_n dX1_stand_71 rfl (by omega) ?_
                refine aw_aastv (q := (p + 1)) kc4 dX1_stand_72 ⟨Nat.le_of_ble_eq_true rfl, Nat.le_of_ble_eq_true rfl⟩ rfl (by omega) (by omega) (by decide) ⟨by omega, by omega⟩ (sh_p23 hone) rfl ?_
                rw [rw_w, sd_g_put g (by omega)]
                exact hk9
              · refine aw_aload_n dX1_stand_43 rfl (by decide) ?_
                refine aw_getrv (r := 24) dX1_stand_44 fX1_11 ⟨Nat.le_of_ble_eq_true rfl, Nat.le_of_ble_eq_true rfl⟩ rfl rfl ((hF3 _).at 23 1 24 rfl rfl rfl) ?_
                refine aw_iload dX1_stand_47 rfl ?_
                refine aw_aload_n dX1_stand_49 rfl (by decide) ?_
                refine aw_getrv (r := 24) dX1_stand_50 fX1_11 ⟨Nat.le_of_ble_eq_true rfl, Nat.le_of_ble_eq_true rfl⟩ rfl rfl ((hF3 _).at 23 1 24 rfl rfl rfl) ?_
                refine aw_iload dX1_stand_53 rfl ?_
                refine aw_iconst dX1_stand_55 ?_
                refine aw_isub dX1_stand_56 ?_
                refine aw_aaldv (r := g p) dX1_stand_57 ⟨Nat.le_of_ble_eq_true rfl, Nat.le_of_ble_eq_true rfl⟩ rfl (by decide) (by omega) (by omega) (by decide) (by rw [rw_s]; unfold sd_g; rw [show (((p + 1 : Nat) : Int) - 1).toNat = p by omega, if_pos (by omega)]) ?_
                refine aw_aastv (q := (p + 1)) kc4 dX1_stand_58 ⟨Nat.le_of_ble_eq_true rfl, Nat.le_of_ble_eq_true rfl⟩ rfl (by omega) (by omega) (by decide) ⟨by omega, by omega⟩ (sh_p23 hpp) rfl ?_
                refine aw_iinc (ls' := [some (ab_r 23), some (ab_i ord), some (ab_i (k : Int)), some (ab_r one), some (ab_i (((p + 1 : Nat) : Int) + (-1)))]) dX1_stand_59 (by decide) rfl rfl ?_
                refine aw_goto (tgt := 20) dX1_stand_62 rfl ?_
                have hq : Rd one (g p) = true := Decidable.byContradiction (fun e => c_40 (by rw [if_neg e]))
                have hs : sd_f Rd g one (p + 1) = sd_f Rd g one p := by rw [sd_f, if_pos hq]
                rw [hs] at hk9
                have ih9 := ihp (by omega) hk9
                rw [rw_w, sd_g_dn2 g (by omega)]
                refine aw_ls ?_ ih9
                rw [show (((p + 1 : Nat) : Int) + (-1)) = (p : Int) by omega]
        refine aw_astore_n (ls' := [some (ab_r 23), some (ab_i ord), some (ab_i (k : Int)), some (ab_r one), none]) dX1_stand_16 (by decide) (by omega) rfl ?_
        refine aw_iload_n dX1_stand_17 rfl ?_
        refine aw_istore (ls' := [some (ab_r 23), some (ab_i ord), some (ab_i (k : Int)), some (ab_r one), some (ab_i (k : Int))]) dX1_stand_18 (by decide) rfl ?_
        have hst := inner k (Nat.le_refl k) ?_
        · rw [sd_g_i] at hst; exact hst
        refine aw_iinc (ls' := [some (ab_r 23), some (ab_i ord), some (ab_i ((k : Int) + 1)), some (ab_r one), some (ab_i ((sd_f Rd g one k : Nat) : Int))]) dX1_stand_73 (by decide) rfl rfl ?_
        refine aw_goto (tgt := 2) dX1_stand_76 rfl ?_
        have ih9 := ih (k + 1) (by omega) (by omega) (by omega)
        rw [if_pos (by omega)] at ih9
        have e3 : sd Rd (F 24) (k + 1) = sd_s g (sd_f Rd g one k) k one := by rw [sd_succ Rd (F 24) h1, hg, hone9]
        rw [e3] at ih9
        exact aw_le (ab_le_c (ab_le_c (ab_le_c (ab_le_n (ab_le_n ab_le_nil))))) ih9
  refine aw_iconst dX1_stand_0 ?_
  refine aw_istore_n (ls' := [some (ab_r 23), some (ab_i ord), some (ab_i 1), none, none]) dX1_stand_1 (by decide) rfl ?_
  have h9 := outer N 1 (by omega) (by omega) (by omega)
  have e9 : sd Rd (F 24) (if 1 ≤ N then 1 else N) = F 24 := sd_le1 _ _ (by split <;> omega)
  rw [e9, rw_id] at h9
  exact h9
set_option maxHeartbeats 4000000 in
set_option maxRecDepth 100000 in
theorem ct_X1_isAhead_44 (G : ab_G) (I : Nat → Nat → Int) (F : Nat → Nat → Nat) (hF : ab_FB F) (wk nx : Int) (hb : ∀ p, 53 ≤ p → p ≤ 64 → PB wk nx (tup I p)) (hwk : wk ≤ 6000) (hnx : nx ≤ 100000) (hn : ∀ s, s < 4 → 1 ≤ I 8 s ∧ I 8 s ≤ 9) (p q : Nat) (hp : 53 ≤ p ∧ p ≤ 64) (hq : 53 ≤ q ∧ q ≤ 64) (ord : Int) (ho : ab_In ord) : Ct G 0 0 0 YX1_isAhead [ab_r 44, ab_r p, ab_r q, ab_i ord] (104, I, F) (fun r h => r = some (ab_i (if ah ord (n4 (I 8)) (tup I p) (tup I q) = true then 1 else 0)) ∧ h = (104, I, F)) := by
  refine Ct.ofW kX1_isAhead (ls := [some (ab_r 44), some (ab_r p), some (ab_r q), some (ab_i ord), none]) (Nat.le_of_ble_eq_true rfl) rfl ?_
  have hpb := hb p hp.1 hp.2
  have hqb := hb q hq.1 hq.2
  simp only [PB, tup] at hpb hqb
  have hsp : (I p 0).toNat < 4 := by omega
  have hsq : (I q 0).toNat < 4 := by omega
  have hn1 := hn _ hsp
  have hn2 := hn _ hsq
  refine aw_iconst dX1_isAhead_0 ?_
  refine aw_istore (ls' := [some (ab_r 44), some (ab_r p), some (ab_r q), some (ab_i ord), some (ab_i 0)]) dX1_isAhead_1 (by decide) rfl ?_
  refine aw_iload_n dX1_isAhead_3 rfl ?_
  refine aw_iconst dX1_isAhead_4 ?_
  refine aw_icmp_ne (tgt := 35) dX1_isAhead_5 rfl (by first | assumption | (unfold ab_In at *; omega)) (by first | assumption | (unfold ab_In at *; omega)) (fun c_5 => ?_) (fun c_5 => ?_)
  · refine aw_iload_n dX1_isAhead_35 rfl ?_
    refine aw_iconst dX1_isAhead_36 ?_
    refine aw_icmp_ne (tgt := 51) dX1_isAhead_37 rfl (by first | assumption | (unfold ab_In at *; omega)) (by first | assumption | (unfold ab_In at *; omega)) (fun c_37 => ?_) (fun c_37 => ?_)
    · refine aw_iload dX1_isAhead_51 rfl ?_
      refine aw_if_gt (tgt := 72) dX1_isAhead_53 rfl ⟨by decide, by decide⟩ (fun c9 => absurd c9 (by decide)) (fun _ => ?_)
      refine aw_iload dX1_isAhead_56 rfl ?_
      refine aw_if_ne (tgt := 76) dX1_isAhead_58 rfl ⟨by decide, by decide⟩ (fun c9 => absurd rfl c9) (fun _ => ?_)
      refine aw_aload_n dX1_isAhead_61 rfl (by omega) ?_
      refine aw_geti dX1_isAhead_62 fX1_103 ⟨by omega, by omega⟩ (sh_p44 hp) rfl ?_
      refine aw_aload_n dX1_isAhead_65 rfl (by omega) ?_
      refine aw_geti dX1_isAhead_66 fX1_103 ⟨by omega, by omega⟩ (sh_p44 hq) rfl ?_
      refine aw_icmp_ge (tgt := 76) dX1_isAhead_69 rfl (by first | assumption | (unfold ab_In at *; omega)) (by first | assumption | (unfold ab_In at *; omega)) (fun c_69 => ?_) (fun c_69 => ?_)
      · refine aw_iconst dX1_isAhead_76 ?_
        refine aw_breturn dX1_isAhead_77 rfl (by omega) ?_
        refine ⟨?_, rfl⟩
        by_cases e9 : ah ord (n4 (I 8)) (tup I p) (tup I q) = true
        · first | (rw [if_pos e9]; done) | (exfalso; rw [ah_iff] at e9; simp only [tup] at e9; rw [n4_lt hsp, n4_lt hsq] at e9; omega)
        · first | (rw [if_neg e9]; done) | (exfalso; apply e9; rw [ah_iff]; simp only [tup]; rw [n4_lt hsp, n4_lt hsq]; omega)
      · refine aw_iconst dX1_isAhead_72 ?_
        refine aw_goto (tgt := 77) dX1_isAhead_73 rfl ?_
        refine aw_breturn dX1_isAhead_77 rfl (by omega) ?_
        refine ⟨?_, rfl⟩
        by_cases e9 : ah ord (n4 (I 8)) (tup I p) (tup I q) = true
        · first | (rw [if_pos e9]; done) | (exfalso; rw [ah_iff] at e9; simp only [tup] at e9; rw [n4_lt hsp, n4_lt hsq] at e9; omega)
        · first | (rw [if_neg e9]; done) | (exfalso; apply e9; rw [ah_iff]; simp only [tup]; rw [n4_lt hsp, n4_lt hsq]; omega)
    · refine aw_aload_n dX1_isAhead_40 rfl (by omega) ?_
      refine aw_geti dX1_isAhead_41 fX1_100 ⟨by omega, by omega⟩ (sh_p44 hp) rfl ?_
      refine aw_aload_n dX1_isAhead_44 rfl (by omega) ?_
      refine aw_geti dX1_isAhead_45 fX1_100 ⟨by omega, by omega⟩ (sh_p44 hq) rfl ?_
      refine aw_isub dX1_isAhead_48 ?_
      refine aw_istore (ls' := [some (ab_r 44), some (ab_r p), some (ab_r q), some (ab_i ord), some (ab_i ((I p 2) - (I q 2)))]) dX1_isAhead_49 (by decide) rfl ?_
      refine aw_iload dX1_isAhead_51 rfl ?_
      refine aw_if_gt (tgt := 72) dX1_isAhead_53 rfl (by first | assumption | (unfold ab_In at *; omega)) (fun c_53 => ?_) (fun c_53 => ?_)
      · refine aw_iconst dX1_isAhead_72 ?_
        refine aw_goto (tgt := 77) dX1_isAhead_73 rfl ?_
        refine aw_breturn dX1_isAhead_77 rfl (by omega) ?_
        refine ⟨?_, rfl⟩
        by_cases e9 : ah ord (n4 (I 8)) (tup I p) (tup I q) = true
        · first | (rw [if_pos e9]; done) | (exfalso; rw [ah_iff] at e9; simp only [tup] at e9; rw [n4_lt hsp, n4_lt hsq] at e9; omega)
        · first | (rw [if_neg e9]; done) | (exfalso; apply e9; rw [ah_iff]; simp only [tup]; rw [n4_lt hsp, n4_lt hsq]; omega)
      · refine aw_iload dX1_isAhead_56 rfl ?_
        refine aw_if_ne (tgt := 76) dX1_isAhead_58 rfl (by first | assumption | (unfold ab_In at *; omega)) (fun c_58 => ?_) (fun c_58 => ?_)
        · refine aw_iconst dX1_isAhead_76 ?_
          refine aw_breturn dX1_isAhead_77 rfl (by omega) ?_
          refine ⟨?_, rfl⟩
          by_cases e9 : ah ord (n4 (I 8)) (tup I p) (tup I q) = true
          · first | (rw [if_pos e9]; done) | (exfalso; rw [ah_iff] at e9; simp only [tup] at e9; rw [n4_lt hsp, n4_lt hsq] at e9; omega)
          · first | (rw [if_neg e9]; done) | (exfalso; apply e9; rw [ah_iff]; simp only [tup]; rw [n4_lt hsp, n4_lt hsq]; omega)
        · refine aw_aload_n dX1_isAhead_61 rfl (by omega) ?_
          refine aw_geti dX1_isAhead_62 fX1_103 ⟨by omega, by omega⟩ (sh_p44 hp) rfl ?_
          refine aw_aload_n dX1_isAhead_65 rfl (by omega) ?_
          refine aw_geti dX1_isAhead_66 fX1_103 ⟨by omega, by omega⟩ (sh_p44 hq) rfl ?_
          refine aw_icmp_ge (tgt := 76) dX1_isAhead_69 rfl (by first | assumption | (unfold ab_In at *; omega)) (by first | assumption | (unfold ab_In at *; omega)) (fun c_69 => ?_) (fun c_69 => ?_)
          · refine aw_iconst dX1_isAhead_76 ?_
            refine aw_breturn dX1_isAhead_77 rfl (by omega) ?_
            refine ⟨?_, rfl⟩
            by_cases e9 : ah ord (n4 (I 8)) (tup I p) (tup I q) = true
            · first | (rw [if_pos e9]; done) | (exfalso; rw [ah_iff] at e9; simp only [tup] at e9; rw [n4_lt hsp, n4_lt hsq] at e9; omega)
            · first | (rw [if_neg e9]; done) | (exfalso; apply e9; rw [ah_iff]; simp only [tup]; rw [n4_lt hsp, n4_lt hsq]; omega)
          · refine aw_iconst dX1_isAhead_72 ?_
            refine aw_goto (tgt := 77) dX1_isAhead_73 rfl ?_
            refine aw_breturn dX1_isAhead_77 rfl (by omega) ?_
            refine ⟨?_, rfl⟩
            by_cases e9 : ah ord (n4 (I 8)) (tup I p) (tup I q) = true
            · first | (rw [if_pos e9]; done) | (exfalso; rw [ah_iff] at e9; simp only [tup] at e9; rw [n4_lt hsp, n4_lt hsq] at e9; omega)
            · first | (rw [if_neg e9]; done) | (exfalso; apply e9; rw [ah_iff]; simp only [tup]; rw [n4_lt hsp, n4_lt hsq]; omega)
  · refine aw_aload_n dX1_isAhead_8 rfl (by decide) ?_
    refine aw_getrv (r := 2) dX1_isAhead_9 fX1_35 ⟨Nat.le_of_ble_eq_true rfl, Nat.le_of_ble_eq_true rfl⟩ rfl rfl (hF.at 44 0 2 rfl rfl rfl) ?_
    refine aw_getrv (r := 8) dX1_isAhead_12 fX1_93 ⟨Nat.le_of_ble_eq_true rfl, Nat.le_of_ble_eq_true rfl⟩ rfl rfl (hF.at 2 1 8 rfl rfl rfl) ?_
    refine aw_aload_n dX1_isAhead_15 rfl (by omega) ?_
    refine aw_geti dX1_isAhead_16 fX1_97 ⟨by omega, by omega⟩ (sh_p44 hp) rfl ?_
    refine aw_ialdq (q := (I p 0).toNat) (v := I 8 (I p 0).toNat) dX1_isAhead_19 ⟨Nat.le_of_ble_eq_true rfl, Nat.le_of_ble_eq_true rfl⟩ rfl (by omega) (by omega) (by decide) rfl rfl ?_
    refine aw_aload_n dX1_isAhead_20 rfl (by decide) ?_
    refine aw_getrv (r := 2) dX1_isAhead_21 fX1_35 ⟨Nat.le_of_ble_eq_true rfl, Nat.le_of_ble_eq_true rfl⟩ rfl rfl (hF.at 44 0 2 rfl rfl rfl) ?_
    refine aw_getrv (r := 8) dX1_isAhead_24 fX1_93 ⟨Nat.le_of_ble_eq_true rfl, Nat.le_of_ble_eq_true rfl⟩ rfl rfl (hF.at 2 1 8 rfl rfl rfl) ?_
    refine aw_aload_n dX1_isAhead_27 rfl (by omega) ?_
    refine aw_geti dX1_isAhead_28 fX1_97 ⟨by omega, by omega⟩ (sh_p44 hq) rfl ?_
    refine aw_ialdq (q := (I q 0).toNat) (v := I 8 (I q 0).toNat) dX1_isAhead_31 ⟨Nat.le_of_ble_eq_true rfl, Nat.le_of_ble_eq_true rfl⟩ rfl (by omega) (by omega) (by decide) rfl rfl ?_
    refine aw_isub dX1_isAhead_32 ?_
    refine aw_istore (ls' := [some (ab_r 44), some (ab_r p), some (ab_r q), some (ab_i ord), some (ab_i ((I 8 (I p 0).toNat) - (I 8 (I q 0).toNat)))]) dX1_isAhead_33 (by decide) rfl ?_
    refine aw_iload_n dX1_isAhead_35 rfl ?_
    refine aw_iconst dX1_isAhead_36 ?_
    refine aw_icmp_ne (tgt := 51) dX1_isAhead_37 rfl (by first | assumption | (unfold ab_In at *; omega)) (by first | assumption | (unfold ab_In at *; omega)) (fun c_37 => ?_) (fun c_37 => ?_)
    · refine aw_iload dX1_isAhead_51 rfl ?_
      refine aw_if_gt (tgt := 72) dX1_isAhead_53 rfl (by first | assumption | (unfold ab_In at *; omega)) (fun c_53 => ?_) (fun c_53 => ?_)
      · refine aw_iconst dX1_isAhead_72 ?_
        refine aw_goto (tgt := 77) dX1_isAhead_73 rfl ?_
        refine aw_breturn dX1_isAhead_77 rfl (by omega) ?_
        refine ⟨?_, rfl⟩
        by_cases e9 : ah ord (n4 (I 8)) (tup I p) (tup I q) = true
        · first | (rw [if_pos e9]; done) | (exfalso; rw [ah_iff] at e9; simp only [tup] at e9; rw [n4_lt hsp, n4_lt hsq] at e9; omega)
        · first | (rw [if_neg e9]; done) | (exfalso; apply e9; rw [ah_iff]; simp only [tup]; rw [n4_lt hsp, n4_lt hsq]; omega)
      · refine aw_iload dX1_isAhead_56 rfl ?_
        refine aw_if_ne (tgt := 76) dX1_isAhead_58 rfl (by first | assumption | (unfold ab_In at *; omega)) (fun c_58 => ?_) (fun c_58 => ?_)
        · refine aw_iconst dX1_isAhead_76 ?_
          refine aw_breturn dX1_isAhead_77 rfl (by omega) ?_
          refine ⟨?_, rfl⟩
          by_cases e9 : ah ord (n4 (I 8)) (tup I p) (tup I q) = true
          · first | (rw [if_pos e9]; done) | (exfalso; rw [ah_iff] at e9; simp only [tup] at e9; rw [n4_lt hsp, n4_lt hsq] at e9; omega)
          · first | (rw [if_neg e9]; done) | (exfalso; apply e9; rw [ah_iff]; simp only [tup]; rw [n4_lt hsp, n4_lt hsq]; omega)
        · refine aw_aload_n dX1_isAhead_61 rfl (by omega) ?_
          refine aw_geti dX1_isAhead_62 fX1_103 ⟨by omega, by omega⟩ (sh_p44 hp) rfl ?_
          refine aw_aload_n dX1_isAhead_65 rfl (by omega) ?_
          refine aw_geti dX1_isAhead_66 fX1_103 ⟨by omega, by omega⟩ (sh_p44 hq) rfl ?_
          refine aw_icmp_ge (tgt := 76) dX1_isAhead_69 rfl (by first | assumption | (unfold ab_In at *; omega)) (by first | assumption | (unfold ab_In at *; omega)) (fun c_69 => ?_) (fun c_69 => ?_)
          · refine aw_iconst dX1_isAhead_76 ?_
            refine aw_breturn dX1_isAhead_77 rfl (by omega) ?_
            refine ⟨?_, rfl⟩
            by_cases e9 : ah ord (n4 (I 8)) (tup I p) (tup I q) = true
            · first | (rw [if_pos e9]; done) | (exfalso; rw [ah_iff] at e9; simp only [tup] at e9; rw [n4_lt hsp, n4_lt hsq] at e9; omega)
            · first | (rw [if_neg e9]; done) | (exfalso; apply e9; rw [ah_iff]; simp only [tup]; rw [n4_lt hsp, n4_lt hsq]; omega)
          · refine aw_iconst dX1_isAhead_72 ?_
            refine aw_goto (tgt := 77) dX1_isAhead_73 rfl ?_
            refine aw_breturn dX1_isAhead_77 rfl (by omega) ?_
            refine ⟨?_, rfl⟩
            by_cases e9 : ah ord (n4 (I 8)) (tup I p) (tup I q) = true
            · first | (rw [if_pos e9]; done) | (exfalso; rw [ah_iff] at e9; simp only [tup] at e9; rw [n4_lt hsp, n4_lt hsq] at e9; omega)
            · first | (rw [if_neg e9]; done) | (exfalso; apply e9; rw [ah_iff]; simp only [tup]; rw [n4_lt hsp, n4_lt hsq]; omega)
    · refine aw_aload_n dX1_isAhead_40 rfl (by omega) ?_
      refine aw_geti dX1_isAhead_41 fX1_100 ⟨by omega, by omega⟩ (sh_p44 hp) rfl ?_
      refine aw_aload_n dX1_isAhead_44 rfl (by omega) ?_
      refine aw_geti dX1_isAhead_45 fX1_100 ⟨by omega, by omega⟩ (sh_p44 hq) rfl ?_
      refine aw_isub dX1_isAhead_48 ?_
      refine aw_istore (ls' := [some (ab_r 44), some (ab_r p), some (ab_r q), some (ab_i ord), some (ab_i ((I p 2) - (I q 2)))]) dX1_isAhead_49 (by decide) rfl ?_
      refine aw_iload dX1_isAhead_51 rfl ?_
      refine aw_if_gt (tgt := 72) dX1_isAhead_53 rfl (by first | assumption | (unfold ab_In at *; omega)) (fun c_53 => ?_) (fun c_53 => ?_)
      · refine aw_iconst dX1_isAhead_72 ?_
        refine aw_goto (tgt := 77) dX1_isAhead_73 rfl ?_
        refine aw_breturn dX1_isAhead_77 rfl (by omega) ?_
        refine ⟨?_, rfl⟩
        by_cases e9 : ah ord (n4 (I 8)) (tup I p) (tup I q) = true
        · first | (rw [if_pos e9]; done) | (exfalso; rw [ah_iff] at e9; simp only [tup] at e9; rw [n4_lt hsp, n4_lt hsq] at e9; omega)
        · first | (rw [if_neg e9]; done) | (exfalso; apply e9; rw [ah_iff]; simp only [tup]; rw [n4_lt hsp, n4_lt hsq]; omega)
      · refine aw_iload dX1_isAhead_56 rfl ?_
        refine aw_if_ne (tgt := 76) dX1_isAhead_58 rfl (by first | assumption | (unfold ab_In at *; omega)) (fun c_58 => ?_) (fun c_58 => ?_)
        · refine aw_iconst dX1_isAhead_76 ?_
          refine aw_breturn dX1_isAhead_77 rfl (by omega) ?_
          refine ⟨?_, rfl⟩
          by_cases e9 : ah ord (n4 (I 8)) (tup I p) (tup I q) = true
          · first | (rw [if_pos e9]; done) | (exfalso; rw [ah_iff] at e9; simp only [tup] at e9; rw [n4_lt hsp, n4_lt hsq] at e9; omega)
          · first | (rw [if_neg e9]; done) | (exfalso; apply e9; rw [ah_iff]; simp only [tup]; rw [n4_lt hsp, n4_lt hsq]; omega)
        · refine aw_aload_n dX1_isAhead_61 rfl (by omega) ?_
          refine aw_geti dX1_isAhead_62 fX1_103 ⟨by omega, by omega⟩ (sh_p44 hp) rfl ?_
          refine aw_aload_n dX1_isAhead_65 rfl (by omega) ?_
          refine aw_geti dX1_isAhead_66 fX1_103 ⟨by omega, by omega⟩ (sh_p44 hq) rfl ?_
          refine aw_icmp_ge (tgt := 76) dX1_isAhead_69 rfl (by first | assumption | (unfold ab_In at *; omega)) (by first | assumption | (unfold ab_In at *; omega)) (fun c_69 => ?_) (fun c_69 => ?_)
          · refine aw_iconst dX1_isAhead_76 ?_
            refine aw_breturn dX1_isAhead_77 rfl (by omega) ?_
            refine ⟨?_, rfl⟩
            by_cases e9 : ah ord (n4 (I 8)) (tup I p) (tup I q) = true
            · first | (rw [if_pos e9]; done) | (exfalso; rw [ah_iff] at e9; simp only [tup] at e9; rw [n4_lt hsp, n4_lt hsq] at e9; omega)
            · first | (rw [if_neg e9]; done) | (exfalso; apply e9; rw [ah_iff]; simp only [tup]; rw [n4_lt hsp, n4_lt hsq]; omega)
          · refine aw_iconst dX1_isAhead_72 ?_
            refine aw_goto (tgt := 77) dX1_isAhead_73 rfl ?_
            refine aw_breturn dX1_isAhead_77 rfl (by omega) ?_
            refine ⟨?_, rfl⟩
            by_cases e9 : ah ord (n4 (I 8)) (tup I p) (tup I q) = true
            · first | (rw [if_pos e9]; done) | (exfalso; rw [ah_iff] at e9; simp only [tup] at e9; rw [n4_lt hsp, n4_lt hsq] at e9; omega)
            · first | (rw [if_neg e9]; done) | (exfalso; apply e9; rw [ah_iff]; simp only [tup]; rw [n4_lt hsp, n4_lt hsq]; omega)
set_option maxHeartbeats 4000000 in
set_option maxRecDepth 100000 in
theorem ct_X1_stand_44 (G : ab_G) (I : Nat → Nat → Int) (F : Nat → Nat → Nat) (hF : ab_FB F) (wk nx : Int) (hb : ∀ p, 53 ≤ p → p ≤ 64 → PB wk nx (tup I p)) (hwk : wk ≤ 6000) (hnx : nx ≤ 100000) (hn : ∀ s, s < 4 → 1 ≤ I 8 s ∧ I 8 s ≤ 9) (ord : Int) (ho : ab_In ord) (N : Nat) (hN : I 44 2 = N) (hN12 : N ≤ 12) (hP : ∀ j, j < 12 → 53 ≤ F 45 j ∧ F 45 j ≤ 64) : Ct G 1 0 0 YX1_stand [ab_r 44, ab_i ord] (104, I, F) (fun r h => r = none ∧ h = (104, I, rw_ F 45 (sd (fun a b => ah ord (n4 (I 8)) (tup I a) (tup I b)) (F 45) N))) := by
  refine Ct.ofW kX1_stand (ls := [some (ab_r 44), some (ab_i ord), none, none, none]) (Nat.le_of_ble_eq_true rfl) rfl ?_
  generalize hZ : ab_Z G (fun r h => r = none ∧ h = (104, I, rw_ F 45 (sd (fun a b => ah ord (n4 (I 8)) (tup I a) (tup I b)) (F 45) N))) 0 0 = Z
  generalize hRd : (fun a b => ah ord (n4 (I 8)) (tup I a) (tup I b)) = Rd at *
  have outer : ∀ (m k : Nat), N + 1 ≤ k + m → 1 ≤ k → k ≤ N + 1 → aW G YX1_stand (ab_rm 1 0 0) Z 0 0 (104, I, rw_ F 45 (sd Rd (F 45) (if k ≤ N then k else N))) 2 [some (ab_r 44), some (ab_i ord), some (ab_i (k : Int)), none, none] [] := by
    intro m
    induction m with
    | zero =>
      intro k hk h1 h2
      have hk2 : k = N + 1 := by omega
      have hF2 : ab_FB (rw_ F 45 (sd Rd (F 45) (if k ≤ N then k else N))) := hF.rw 45 _ (by omega)
      subst hZ
      refine aw_iload_n dX1_stand_2 rfl ?_
      refine aw_aload_n dX1_stand_3 rfl (by decide) ?_
      refine aw_geti dX1_stand_4 fX1_17 ⟨Nat.le_of_ble_eq_true rfl, Nat.le_of_ble_eq_true rfl⟩ rfl rfl ?_
      refine aw_icmp_ge (tgt := 79) dX1_stand_7 rfl (by first | assumption | (unfold ab_In at *; omega)) (by first | assumption | (unfold ab_In at *; omega)) (fun c_7 => ?_) (fun c_7 => ?_)
      · refine aw_return dX1_stand_79 rfl ?_
        refine ⟨rfl, ?_⟩
        rw [if_neg (by omega)]
      · exfalso; omega
    | succ m ih =>
      intro k hk h1 h2
      have hF2 : ab_FB (rw_ F 45 (sd Rd (F 45) (if k ≤ N then k else N))) := hF.rw 45 _ (by omega)
      refine aw_iload_n dX1_stand_2 rfl ?_
      refine aw_aload_n dX1_stand_3 rfl (by decide) ?_
      refine aw_geti dX1_stand_4 fX1_17 ⟨Nat.le_of_ble_eq_true rfl, Nat.le_of_ble_eq_true rfl⟩ rfl rfl ?_
      refine aw_icmp_ge (tgt := 79) dX1_stand_7 rfl (by first | assumption | (unfold ab_In at *; omega)) (by first | assumption | (unfold ab_In at *; omega)) (fun c_7 => ?_) (fun c_7 => ?_)
      · rw [← hZ]
        refine aw_return dX1_stand_79 rfl ?_
        refine ⟨rfl, ?_⟩
        have hkN : ¬ k ≤ N ∨ k = N := by omega
        rcases hkN with q | q
        · rw [if_neg q]
        · rw [if_pos (by omega), q]
      · have hkN : k < N := by omega
        rw [if_pos (by omega)] at *
        generalize hg : sd Rd (F 45) k = g at *
        have hgP : ∀ j, j < 12 → 53 ≤ g j ∧ g j ≤ 64 := by rw [← hg]; exact sd_all Rd (fun p => 53 ≤ p ∧ p ≤ 64) hP k (by omega)
        refine aw_aload_n dX1_stand_10 rfl (by decide) ?_
        refine aw_getrv (r := 45) dX1_stand_11 fX1_11 ⟨Nat.le_of_ble_eq_true rfl, Nat.le_of_ble_eq_true rfl⟩ rfl rfl (hF2.at 44 1 45 rfl rfl rfl) ?_
        refine aw_iload_n dX1_stand_14 rfl ?_
        refine aw_aaldv (r := g k) dX1_stand_15 ⟨Nat.le_of_ble_eq_true rfl, Nat.le_of_ble_eq_true rfl⟩ rfl (by decide) (by omega) (by omega) (by decide) (rw_s _ _ _ _) ?_
        have hone := hgP k (by omega)
        generalize hone9 : g k = one at *
        have hF3 : ∀ p, ab_FB (rw_ F 45 (sd_g g p k)) := fun p => hF.rw 45 _ (by omega)
        have inner : ∀ p, p ≤ k → aW G YX1_stand (ab_rm 1 0 0) Z 0 0 (104, I, rw_ F 45 (sd_s g (sd_f Rd g one p) k one)) 73 [some (ab_r 44), some (ab_i ord), some (ab_i (k : Int)), some (ab_r one), some (ab_i ((sd_f Rd g one p : Nat) : Int))] [] → aW G YX1_stand (ab_rm 1 0 0) Z 0 0 (104, I, rw_ F 45 (sd_g g p k)) 20 [some (ab_r 44), some (ab_i ord), some (ab_i (k : Int)), some (ab_r one), some (ab_i (p : Int))] [] := by
          intro p
          induction p with
          | zero =>
            intro hp0 hk9
            refine aw_iload dX1_stand_20 rfl ?_
            refine aw_if_le (tgt := 65) dX1_stand_22 rfl (by first | assumption | (unfold ab_In at *; omega)) (fun c_22 => ?_) (fun c_22 => ?_)
            · refine aw_aload_n dX1_stand_65 rfl (by decide) ?_
              refine aw_getrv (r := 45) dX1_stand_66 fX1_11 ⟨Nat.le_of_ble_eq_true rfl, Nat.le_of_ble_eq_true rfl⟩ rfl rfl ((hF3 _).at 44 1 45 rfl rfl rfl) ?_
              refine aw_iload dX1_stand_69 rfl ?_
              refine aw_aload_n dX1_stand_71 rfl (by omega) ?_
              refine aw_aastv (q := (0)) kc4 dX1_stand_72 ⟨Nat.le_of_ble_eq_true rfl, Nat.le_of_ble_eq_true rfl⟩ rfl (by omega) (by omega) (by decide) ⟨by omega, by omega⟩ (sh_p44 hone) rfl ?_
              rw [rw_w, sd_g_put g (by omega)]
              exact hk9
            · exact absurd (Int.le_refl 0) c_22
          | succ p ihp =>
            intro hp0 hk9
            have hpp := hgP p (by omega)
            have e1 : ∀ z : Int, z = ((p + 1 : Nat) : Int) - 1 → z.toNat = p := fun z hz => by omega
            refine aw_iload dX1_stand_20 rfl ?_
            refine aw_if_le (tgt := 65) dX1_stand_22 rfl (by first | assumption | (unfold ab_In at *; omega)) (fun c_22 => ?_) (fun c_22 => ?_)
            · exfalso; omega
            · refine aw_aload_n dX1_stand_25 rfl (by decide) ?_
              refine aw_aload_n dX1_stand_26 rfl (by omega) ?_
              refine aw_aload_n dX1_stand_27 rfl (by decide) ?_
              refine aw_getrv (r := 45) dX1_stand_28 fX1_11 ⟨Nat.le_of_ble_eq_true rfl, Nat.le_of_ble_eq_true rfl⟩ rfl rfl ((hF3 _).at 44 1 45 rfl rfl rfl) ?_
              refine aw_iload dX1_stand_31 rfl ?_
              refine aw_iconst dX1_stand_33 ?_
              refine aw_isub dX1_stand_34 ?_
              refine aw_aaldv (r := g p) dX1_stand_35 ⟨Nat.le_of_ble_eq_true rfl, Nat.le_of_ble_eq_true rfl⟩ rfl (by decide) (by omega) (by omega) (by decide) (by rw [rw_s]; unfold sd_g; rw [show (((p + 1 : Nat) : Int) - 1).toNat = p by omega, if_pos (by omega)]) ?_
              refine aw_iload_n dX1_stand_36 rfl ?_
              refine aw_callV (as := [ab_r one, ab_r (g p), ab_i ord]) (rest := []) dX1_stand_37 (ct_X1_isAhead_44 G I _ (hF3 _) wk nx hb hwk hnx hn one (g p) hone hpp ord ho) ⟨Nat.le_of_ble_eq_true rfl, Nat.le_of_ble_eq_true rfl⟩ rfl kc1 rfl kX1_isAhead iX1_isAhead eX1_isAhead lX1_89 rfl (Nat.le_of_ble_eq_true rfl) (by decide) (by decide) (by decide) (by decide) ?_
              rintro _ _ ⟨rfl, rfl⟩
              rw [show ah ord (n4 (I 8)) (tup I one) (tup I (g p)) = Rd one (g p) from congrFun (congrFun hRd one) (g p)]
              refine aw_if_eq (tgt := 65) dX1_stand_40 rfl (by split <;> (unfold ab_In; omega)) (fun c_40 => ?_) (fun c_40 => ?_)
              · have hq : ¬ Rd one (g p) = true := fun e => by rw [if_pos e] at c_40; omega
                have hs : sd_f Rd g one (p + 1) = p + 1 := by unfold sd_f; rw [if_neg hq]
                rw [hs] at hk9
                refine aw_aload_n dX1_stand_65 rfl (by decide) ?_
                refine aw_getrv (r := 45) dX1_stand_66 fX1_11 ⟨Nat.le_of_ble_eq_true rfl, Nat.le_of_ble_eq_true rfl⟩ rfl rfl ((hF3 _).at 44 1 45 rfl rfl rfl) ?_
                refine aw_iload dX1_stand_69 rfl ?_
                refine aw_aload_n dX1_stand_71 rfl (by omega) ?_
                refine aw_aastv (q := (p + 1)) kc4 dX1_stand_72 ⟨Nat.le_of_ble_eq_true rfl, Nat.le_of_ble_eq_true rfl⟩ rfl (by omega) (by omega) (by decide) ⟨by omega, by omega⟩ (sh_p44 hone) rfl ?_
                rw [rw_w, sd_g_put g (by omega)]
                exact hk9
              · refine aw_aload_n dX1_stand_43 rfl (by decide) ?_
                refine aw_getrv (r := 45) dX1_stand_44 fX1_11 ⟨Nat.le_of_ble_eq_true rfl, Nat.le_of_ble_eq_true rfl⟩ rfl rfl ((hF3 _).at 44 1 45 rfl rfl rfl) ?_
                refine aw_iload dX1_stand_47 rfl ?_
                refine aw_aload_n dX1_stand_49 rfl (by decide) ?_
                refine aw_getrv (r := 45) dX1_stand_50 fX1_11 ⟨Nat.le_of_ble_eq_true rfl, Nat.le_of_ble_eq_true rfl⟩ rfl rfl ((hF3 _).at 44 1 45 rfl rfl rfl) ?_
                refine aw_iload dX1_stand_53 rfl ?_
                refine aw_iconst dX1_stand_55 ?_
                refine aw_isub dX1_stand_56 ?_
                refine aw_aaldv (r := g p) dX1_stand_57 ⟨Nat.le_of_ble_eq_true rfl, Nat.le_of_ble_eq_true rfl⟩ rfl (by decide) (by omega) (by omega) (by decide) (by rw [rw_s]; unfold sd_g; rw [show (((p + 1 : Nat) : Int) - 1).toNat = p by omega, if_pos (by omega)]) ?_
                refine aw_aastv (q := (p + 1)) kc4 dX1_stand_58 ⟨Nat.le_of_ble_eq_true rfl, Nat.le_of_ble_eq_true rfl⟩ rfl (by omega) (by omega) (by decide) ⟨by omega, by omega⟩ (sh_p44 hpp) rfl ?_
                refine aw_iinc (ls' := [some (ab_r 44), some (ab_i ord), some (ab_i (k : Int)), some (ab_r one), some (ab_i (((p + 1 : Nat) : Int) + (-1)))]) dX1_stand_59 (by decide) rfl rfl ?_
                refine aw_goto (tgt := 20) dX1_stand_62 rfl ?_
                have hq : Rd one (g p) = true := Decidable.byContradiction (fun e => c_40 (by rw [if_neg e]))
                have hs : sd_f Rd g one (p + 1) = sd_f Rd g one p := by rw [sd_f, if_pos hq]
                rw [hs] at hk9
                have ih9 := ihp (by omega) hk9
                rw [rw_w, sd_g_dn2 g (by omega)]
                refine aw_ls ?_ ih9
                rw [show (((p + 1 : Nat) : Int) + (-1)) = (p : Int) by omega]
        refine aw_astore_n (ls' := [some (ab_r 44), some (ab_i ord), some (ab_i (k : Int)), some (ab_r one), none]) dX1_stand_16 (by decide) (by omega) rfl ?_
        refine aw_iload_n dX1_stand_17 rfl ?_
        refine aw_istore (ls' := [some (ab_r 44), some (ab_i ord), some (ab_i (k : Int)), some (ab_r one), some (ab_i (k : Int))]) dX1_stand_18 (by decide) rfl ?_
        have hst := inner k (Nat.le_refl k) ?_
        · rw [sd_g_i] at hst; exact hst
        refine aw_iinc (ls' := [some (ab_r 44), some (ab_i ord), some (ab_i ((k : Int) + 1)), some (ab_r one), some (ab_i ((sd_f Rd g one k : Nat) : Int))]) dX1_stand_73 (by decide) rfl rfl ?_
        refine aw_goto (tgt := 2) dX1_stand_76 rfl ?_
        have ih9 := ih (k + 1) (by omega) (by omega) (by omega)
        rw [if_pos (by omega)] at ih9
        have e3 : sd Rd (F 45) (k + 1) = sd_s g (sd_f Rd g one k) k one := by rw [sd_succ Rd (F 45) h1, hg, hone9]
        rw [e3] at ih9
        exact aw_le (ab_le_c (ab_le_c (ab_le_c (ab_le_n (ab_le_n ab_le_nil))))) ih9
  refine aw_iconst dX1_stand_0 ?_
  refine aw_istore_n (ls' := [some (ab_r 44), some (ab_i ord), some (ab_i 1), none, none]) dX1_stand_1 (by decide) rfl ?_
  have h9 := outer N 1 (by omega) (by omega) (by omega)
  have e9 : sd Rd (F 45) (if 1 ≤ N then 1 else N) = F 45 := sd_le1 _ _ (by split <;> omega)
  rw [e9, rw_id] at h9
  exact h9
