theorem pl_at {I : Nat → Nat → Int} {x y : Nat} (h : tup I x = rt (I 89) y) {w : Nat} (hw : w ≤ 4) : I 89 (12 * w + y) = I x ((w : Int).toNat) := by
  unfold tup rt at h
  simp only [Prod.mk.injEq] at h
  rcases (show w = 0 ∨ w = 1 ∨ w = 2 ∨ w = 3 ∨ w = 4 by omega) with rfl | rfl | rfl | rfl | rfl
  · rw [show 12 * 0 + y = y by omega]; exact h.1.symm
  · exact h.2.1.symm
  · exact h.2.2.1.symm
  · exact h.2.2.2.1.symm
  · exact h.2.2.2.2.symm
set_option maxHeartbeats 4000000 in
set_option maxRecDepth 100000 in
theorem ct_X11_person_bad (G : ab_G) (I : Nat → Nat → Int) (F : Nat → Nat → Nat) (hF : ab_FB F) (a : Int) (ha : ab_In a) (b : Int) (hb : ab_In b) (hr : 0 ≤ I 23 2 ∧ I 23 2 ≤ 12) (hbad : ¬ (0 ≤ a ∧ a ≤ I 23 2 - 1)) : Ct G 2 0 0 YX11_person [ab_r 1, ab_i a, ab_i b] (104, I, F) (fun r h => r = some (ab_i (-2)) ∧ h = (104, I, F)) := by
  refine Ct.ofW kX11_person (ls := [some (ab_r 1), some (ab_i a), some (ab_i b), none]) (Nat.le_of_ble_eq_true rfl) rfl ?_
  refine aw_iload_n dX11_person_0 rfl ?_
  refine aw_iconst dX11_person_1 ?_
  refine aw_aload_n dX11_person_2 rfl (by decide) ?_
  refine aw_getrv (r := 23) dX11_person_3 fX11_38 ⟨Nat.le_of_ble_eq_true rfl, Nat.le_of_ble_eq_true rfl⟩ rfl rfl (hF.at 1 4 23 rfl rfl rfl) ?_
  refine aw_geti dX11_person_6 fX11_125 ⟨Nat.le_of_ble_eq_true rfl, Nat.le_of_ble_eq_true rfl⟩ rfl rfl ?_
  refine aw_iconst dX11_person_9 ?_
  refine aw_isub dX11_person_10 ?_
  refine aw_callS (as := [ab_i a, ab_i 0, ab_i ((I 23 2) - 1)]) (rest := []) dX11_person_11 (ct_X11_within G (104, I, F) a 0 (I 23 2 - 1) (by first | assumption | (unfold ab_In at *; omega)) (by first | assumption | (unfold ab_In at *; omega)) (by first | assumption | (unfold ab_In at *; omega))) kX11_within sX11_within lX11_89 rfl (Nat.le_of_ble_eq_true rfl) (by decide) (by decide) (by decide) (by decide) ?_
  rintro r9 _ ⟨e9, rfl⟩
  by_cases q1 : 0 ≤ a ∧ a ≤ I 23 2 - 1
  · rw [if_pos q1] at e9
    subst e9
    refine aw_if_ne (tgt := 20) dX11_person_14 rfl ⟨by decide, by decide⟩ (fun _ => ?_) (fun c9 => absurd c9 (by decide))
    exfalso; omega
  · rw [if_neg q1] at e9
    subst e9
    refine aw_if_ne (tgt := 20) dX11_person_14 rfl ⟨by decide, by decide⟩ (fun c9 => absurd rfl c9) (fun _ => ?_)
    refine aw_bipush dX11_person_17 rfl ?_
    refine aw_ireturn dX11_person_19 rfl ?_
    exact ⟨by first | rw [if_pos (by omega)] | rw [if_neg (by omega)] | rfl, rfl⟩
set_option maxHeartbeats 4000000 in
set_option maxRecDepth 100000 in
theorem ct_X12_person_bad (G : ab_G) (I : Nat → Nat → Int) (F : Nat → Nat → Nat) (hF : ab_FB F) (a : Int) (ha : ab_In a) (b : Int) (hb : ab_In b) (hr : 0 ≤ I 89 84 ∧ I 89 84 ≤ 12) (hbad : ¬ ((0 ≤ a ∧ a ≤ I 89 84 - 1) ∧ (0 ≤ b ∧ b ≤ 4))) : Ct G 2 0 0 YX12_person [ab_r 84, ab_i a, ab_i b] (104, I, F) (fun r h => r = some (ab_i (if 0 ≤ a ∧ a ≤ I 89 84 - 1 then -3 else -2)) ∧ h = (104, I, F)) := by
  refine Ct.ofW kX12_person (ls := [some (ab_r 84), some (ab_i a), some (ab_i b)]) (Nat.le_of_ble_eq_true rfl) rfl ?_
  refine aw_iload_n dX12_person_0 rfl ?_
  refine aw_iconst dX12_person_1 ?_
  refine aw_aload_n dX12_person_2 rfl (by decide) ?_
  refine aw_getrv (r := 89) dX12_person_3 fX12_22 ⟨Nat.le_of_ble_eq_true rfl, Nat.le_of_ble_eq_true rfl⟩ rfl rfl (hF.at 84 6 89 rfl rfl rfl) ?_
  refine aw_bipush dX12_person_6 rfl ?_
  refine aw_ialdq (q := 84) (v := I 89 84) dX12_person_8 ⟨Nat.le_of_ble_eq_true rfl, Nat.le_of_ble_eq_true rfl⟩ rfl (by omega) (by omega) (by decide) rfl rfl ?_
  refine aw_iconst dX12_person_9 ?_
  refine aw_isub dX12_person_10 ?_
  refine aw_callS (as := [ab_i a, ab_i 0, ab_i ((I 89 84) - 1)]) (rest := []) dX12_person_11 (ct_X12_in G (104, I, F) a 0 (I 89 84 - 1) (by first | assumption | (unfold ab_In at *; omega)) (by first | assumption | (unfold ab_In at *; omega)) (by first | assumption | (unfold ab_In at *; omega))) kX12_in sX12_in lX12_75 rfl (Nat.le_of_ble_eq_true rfl) (by decide) (by decide) (by decide) (by decide) ?_
  rintro r9 _ ⟨e9, rfl⟩
  by_cases q1 : 0 ≤ a ∧ a ≤ I 89 84 - 1
  · rw [if_pos q1] at e9
    subst e9
    refine aw_if_ne (tgt := 20) dX12_person_14 rfl ⟨by decide, by decide⟩ (fun _ => ?_) (fun c9 => absurd c9 (by decide))
    refine aw_iload_n dX12_person_20 rfl ?_
    refine aw_iconst dX12_person_21 ?_
    refine aw_iconst dX12_person_22 ?_
    refine aw_callS (as := [ab_i b, ab_i 0, ab_i 4]) (rest := []) dX12_person_23 (ct_X12_in G (104, I, F) b 0 4 (by first | assumption | (unfold ab_In at *; omega)) (by first | assumption | (unfold ab_In at *; omega)) (by first | assumption | (unfold ab_In at *; omega))) kX12_in sX12_in lX12_75 rfl (Nat.le_of_ble_eq_true rfl) (by decide) (by decide) (by decide) (by decide) ?_
    rintro r9 _ ⟨e9, rfl⟩
    by_cases q2 : 0 ≤ b ∧ b ≤ 4
    · rw [if_pos q2] at e9
      subst e9
      refine aw_if_ne (tgt := 32) dX12_person_26 rfl ⟨by decide, by decide⟩ (fun _ => ?_) (fun c9 => absurd c9 (by decide))
      exfalso; omega
    · rw [if_neg q2] at e9
      subst e9
      refine aw_if_ne (tgt := 32) dX12_person_26 rfl ⟨by decide, by decide⟩ (fun c9 => absurd rfl c9) (fun _ => ?_)
      refine aw_bipush dX12_person_29 rfl ?_
      refine aw_ireturn dX12_person_31 rfl ?_
      exact ⟨by first | rw [if_pos (by omega)] | rw [if_neg (by omega)] | rfl, rfl⟩
  · rw [if_neg q1] at e9
    subst e9
    refine aw_if_ne (tgt := 20) dX12_person_14 rfl ⟨by decide, by decide⟩ (fun c9 => absurd rfl c9) (fun _ => ?_)
    refine aw_bipush dX12_person_17 rfl ?_
    refine aw_ireturn dX12_person_19 rfl ?_
    exact ⟨by first | rw [if_pos (by omega)] | rw [if_neg (by omega)] | rfl, rfl⟩
set_option maxHeartbeats 4000000 in
set_option maxRecDepth 100000 in
theorem ct_X11_person (G : ab_G) (I : Nat → Nat → Int) (F : Nat → Nat → Nat) (hF : ab_FB F) (N q : Nat) (hq : q < N) (b : Int) (hb9 : ab_In b) (hb : ∀ p, 32 ≤ p → p ≤ 43 → PB 6000 100000 (tup I p)) (hn : ∀ s, s < 4 → 1 ≤ I 8 s ∧ I 8 s ≤ 9) (ho : ab_In (I 13 0)) (hN : I 23 2 = N) (hN12 : N ≤ 12) (hP : ∀ j, j < 12 → 32 ≤ F 24 j ∧ F 24 j ≤ 43) : Ct G 2 0 0 YX11_person [ab_r 1, ab_i (q : Int), ab_i b] (104, I, F) (fun r h => r = some (ab_i (if 0 ≤ b ∧ b ≤ 4 then I ((rw_ F 24 (sd (fun a b => ah (I 13 0) (n4 (I 8)) (tup I a) (tup I b)) (F 24) N)) 24 q) b.toNat else -3)) ∧ h = (104, I, (rw_ F 24 (sd (fun a b => ah (I 13 0) (n4 (I 8)) (tup I a) (tup I b)) (F 24) N)))) := by
  refine Ct.ofW kX11_person (ls := [some (ab_r 1), some (ab_i (q : Int)), some (ab_i b), none]) (Nat.le_of_ble_eq_true rfl) rfl ?_
  have hp : 32 ≤ (rw_ F 24 (sd (fun a b => ah (I 13 0) (n4 (I 8)) (tup I a) (tup I b)) (F 24) N)) 24 q ∧ (rw_ F 24 (sd (fun a b => ah (I 13 0) (n4 (I 8)) (tup I a) (tup I b)) (F 24) N)) 24 q ≤ 43 := by rw [rw_s]; exact sd_all _ (fun x => 32 ≤ x ∧ x ≤ 43) hP N hN12 q (by omega)
  have hF2 : ab_FB (rw_ F 24 (sd (fun a b => ah (I 13 0) (n4 (I 8)) (tup I a) (tup I b)) (F 24) N)) := hF.rw 24 _ (Or.inl rfl)
  refine aw_iload_n dX11_person_0 rfl ?_
  refine aw_iconst dX11_person_1 ?_
  refine aw_aload_n dX11_person_2 rfl (by decide) ?_
  refine aw_getrv (r := 23) dX11_person_3 fX11_38 ⟨Nat.le_of_ble_eq_true rfl, Nat.le_of_ble_eq_true rfl⟩ rfl rfl (by first | exact (hF.at 1 4 23 rfl rfl rfl) | exact (hF2.at 1 4 23 rfl rfl rfl)) ?_
  refine aw_getiv (v := (N : Int)) dX11_person_6 fX11_125 ⟨Nat.le_of_ble_eq_true rfl, Nat.le_of_ble_eq_true rfl⟩ rfl rfl hN ?_
  refine aw_iconst dX11_person_9 ?_
  refine aw_isub dX11_person_10 ?_
  refine aw_callS (as := [ab_i (q : Int), ab_i 0, ab_i ((N : Int) - 1)]) (rest := []) dX11_person_11 (ct_X11_within G (104, I, F) (q : Int) 0 ((N : Int) - 1) (by first | assumption | (unfold ab_In at *; omega)) (by first | assumption | (unfold ab_In at *; omega)) (by first | assumption | (unfold ab_In at *; omega))) kX11_within sX11_within lX11_89 rfl (Nat.le_of_ble_eq_true rfl) (by decide) (by decide) (by decide) (by decide) ?_
  rintro r9 _ ⟨e9, rfl⟩
  rw [if_pos (by omega)] at e9
  subst e9
  refine aw_if_ne (tgt := 20) dX11_person_14 rfl ⟨by decide, by decide⟩ (fun _ => ?_) (fun c9 => absurd c9 (by decide))
  refine aw_aload_n dX11_person_20 rfl (by decide) ?_
  refine aw_getrv (r := 23) dX11_person_21 fX11_38 ⟨Nat.le_of_ble_eq_true rfl, Nat.le_of_ble_eq_true rfl⟩ rfl rfl (by first | exact (hF.at 1 4 23 rfl rfl rfl) | exact (hF2.at 1 4 23 rfl rfl rfl)) ?_
  refine aw_aload_n dX11_person_24 rfl (by decide) ?_
  refine aw_getrv (r := 13) dX11_person_25 fX11_19 ⟨Nat.le_of_ble_eq_true rfl, Nat.le_of_ble_eq_true rfl⟩ rfl rfl (by first | exact (hF.at 1 1 13 rfl rfl rfl) | exact (hF2.at 1 1 13 rfl rfl rfl)) ?_
  refine aw_geti dX11_person_28 fX11_136 ⟨Nat.le_of_ble_eq_true rfl, Nat.le_of_ble_eq_true rfl⟩ rfl rfl ?_
  refine aw_callV (as := [ab_i (I 13 0)]) (rest := []) dX11_person_31 (ct_X1_stand_23 G I F hF 6000 100000 hb (by omega) (by omega) hn (I 13 0) ho N hN hN12 hP) ⟨Nat.le_of_ble_eq_true rfl, Nat.le_of_ble_eq_true rfl⟩ rfl kc1 rfl kX1_stand iX1_stand eX1_stand lX11_139 rfl (Nat.le_of_ble_eq_true rfl) (by decide) (by decide) (by decide) (by decide) ?_
  rintro _ _ ⟨rfl, rfl⟩
  generalize hpe : (rw_ F 24 (sd (fun a b => ah (I 13 0) (n4 (I 8)) (tup I a) (tup I b)) (F 24) N)) 24 q = p at *
  generalize hF2e : (rw_ F 24 (sd (fun a b => ah (I 13 0) (n4 (I 8)) (tup I a) (tup I b)) (F 24) N)) = F2 at *
  refine aw_aload_n dX11_person_34 rfl (by decide) ?_
  refine aw_getrv (r := 23) dX11_person_35 fX11_38 ⟨Nat.le_of_ble_eq_true rfl, Nat.le_of_ble_eq_true rfl⟩ rfl rfl (by first | exact (hF.at 1 4 23 rfl rfl rfl) | exact (hF2.at 1 4 23 rfl rfl rfl)) ?_
  refine aw_getrv (r := 24) dX11_person_38 fX11_142 ⟨Nat.le_of_ble_eq_true rfl, Nat.le_of_ble_eq_true rfl⟩ rfl rfl (by first | exact (hF.at 23 1 24 rfl rfl rfl) | exact (hF2.at 23 1 24 rfl rfl rfl)) ?_
  refine aw_iload_n dX11_person_41 rfl ?_
  refine aw_aaldv (r := p) dX11_person_42 ⟨Nat.le_of_ble_eq_true rfl, Nat.le_of_ble_eq_true rfl⟩ rfl (by decide) (by omega) (by omega) (by decide) hpe ?_
  refine aw_astore_n (ls' := [some (ab_r 1), some (ab_i (q : Int)), some (ab_i b), some (ab_r p)]) dX11_person_43 (by decide) (by omega) rfl ?_
  refine aw_iload_n dX11_person_44 rfl ?_
  rcases (show b = 0 ∨ b = 1 ∨ b = 2 ∨ b = 3 ∨ b = 4 ∨ (b < 0 ∨ 4 < b) by omega) with c_45 | c_45 | c_45 | c_45 | c_45 | c_45
  · refine aw_tabIn (off := 35) (tgt := 80) dX11_person_45 (by first | assumption | (unfold ab_In at *; omega)) (by omega) (by omega) (by rw [c_45]; rfl) rfl ?_
    refine aw_aload_n dX11_person_80 rfl (by omega) ?_
    refine aw_geti dX11_person_81 fX11_146 ⟨by omega, by omega⟩ (sh_p23 hp) rfl ?_
    refine aw_ireturn dX11_person_84 rfl ?_
    exact ⟨by first | (rw [if_pos (by omega), c_45]; rfl) | rw [if_neg (by omega)], rfl⟩
  · refine aw_tabIn (off := 40) (tgt := 85) dX11_person_45 (by first | assumption | (unfold ab_In at *; omega)) (by omega) (by omega) (by rw [c_45]; rfl) rfl ?_
    refine aw_aload_n dX11_person_85 rfl (by omega) ?_
    refine aw_geti dX11_person_86 fX11_151 ⟨by omega, by omega⟩ (sh_p23 hp) rfl ?_
    refine aw_ireturn dX11_person_89 rfl ?_
    exact ⟨by first | (rw [if_pos (by omega), c_45]; rfl) | rw [if_neg (by omega)], rfl⟩
  · refine aw_tabIn (off := 45) (tgt := 90) dX11_person_45 (by first | assumption | (unfold ab_In at *; omega)) (by omega) (by omega) (by rw [c_45]; rfl) rfl ?_
    refine aw_aload_n dX11_person_90 rfl (by omega) ?_
    refine aw_geti dX11_person_91 fX11_154 ⟨by omega, by omega⟩ (sh_p23 hp) rfl ?_
    refine aw_ireturn dX11_person_94 rfl ?_
    exact ⟨by first | (rw [if_pos (by omega), c_45]; rfl) | rw [if_neg (by omega)], rfl⟩
  · refine aw_tabIn (off := 50) (tgt := 95) dX11_person_45 (by first | assumption | (unfold ab_In at *; omega)) (by omega) (by omega) (by rw [c_45]; rfl) rfl ?_
    refine aw_aload_n dX11_person_95 rfl (by omega) ?_
    refine aw_geti dX11_person_96 fX11_157 ⟨by omega, by omega⟩ (sh_p23 hp) rfl ?_
    refine aw_ireturn dX11_person_99 rfl ?_
    exact ⟨by first | (rw [if_pos (by omega), c_45]; rfl) | rw [if_neg (by omega)], rfl⟩
  · refine aw_tabIn (off := 55) (tgt := 100) dX11_person_45 (by first | assumption | (unfold ab_In at *; omega)) (by omega) (by omega) (by rw [c_45]; rfl) rfl ?_
    refine aw_aload_n dX11_person_100 rfl (by omega) ?_
    refine aw_geti dX11_person_101 fX11_160 ⟨by omega, by omega⟩ (sh_p23 hp) rfl ?_
    refine aw_ireturn dX11_person_104 rfl ?_
    exact ⟨by first | (rw [if_pos (by omega), c_45]; rfl) | rw [if_neg (by omega)], rfl⟩
  · refine aw_tabOut (tgt := 105) dX11_person_45 (by first | assumption | (unfold ab_In at *; omega)) c_45 rfl ?_
    refine aw_bipush dX11_person_105 rfl ?_
    refine aw_ireturn dX11_person_107 rfl ?_
    exact ⟨by first | (rw [if_pos (by omega), c_45]; rfl) | rw [if_neg (by omega)], rfl⟩
set_option maxHeartbeats 4000000 in
set_option maxRecDepth 100000 in
theorem ct_X12_person (G : ab_G) (I : Nat → Nat → Int) (F : Nat → Nat → Nat) (hF : ab_FB F) (N q w : Nat) (hq : q < N) (hw : w ≤ 4) (W nx : Int) (hb : ∀ p, p < N → PB W nx (rt (I 89) p)) (hW : W ≤ 6000) (hnx : nx ≤ 100000) (hN12 : N ≤ 12) (hn : ∀ s, s < 4 → 1 ≤ I 86 s ∧ I 86 s ≤ 9) (ho : ab_In (I 95 0)) (hN : I 89 84 = N) (hnm : ∀ a b, a < N → b < N → a ≠ b → I 89 (12 + a) ≠ I 89 (12 + b)) : Ct G 2 0 0 YX12_person [ab_r 84, ab_i (q : Int), ab_i (w : Int)] (104, I, F) (fun r h => r = some (ab_i (I 89 (12 * w + (sd (fun a b => ah (I 95 0) (n4 (I 86)) (rt (I 89) a) (rt (I 89) b)) id N q)))) ∧ ∃ I2, h = (104, I2, F) ∧ ∀ i b, i ≠ 91 → I2 i b = I i b) := by
  refine Ct.ofW kX12_person (ls := [some (ab_r 84), some (ab_i (q : Int)), some (ab_i (w : Int))]) (Nat.le_of_ble_eq_true rfl) rfl ?_
  refine aw_iload_n dX12_person_0 rfl ?_
  refine aw_iconst dX12_person_1 ?_
  refine aw_aload_n dX12_person_2 rfl (by decide) ?_
  refine aw_getrv (r := 89) dX12_person_3 fX12_22 ⟨Nat.le_of_ble_eq_true rfl, Nat.le_of_ble_eq_true rfl⟩ rfl rfl (hF.at 84 6 89 rfl rfl rfl) ?_
  refine aw_bipush dX12_person_6 rfl ?_
  refine aw_ialdq (q := 84) (v := (N : Int)) dX12_person_8 ⟨Nat.le_of_ble_eq_true rfl, Nat.le_of_ble_eq_true rfl⟩ rfl (by omega) (by omega) (by decide) rfl hN ?_
  refine aw_iconst dX12_person_9 ?_
  refine aw_isub dX12_person_10 ?_
  refine aw_callS (as := [ab_i (q : Int), ab_i 0, ab_i ((N : Int) - 1)]) (rest := []) dX12_person_11 (ct_X12_in G (104, I, F) (q : Int) 0 ((N : Int) - 1) (by first | assumption | (unfold ab_In at *; omega)) (by first | assumption | (unfold ab_In at *; omega)) (by first | assumption | (unfold ab_In at *; omega))) kX12_in sX12_in lX12_75 rfl (Nat.le_of_ble_eq_true rfl) (by decide) (by decide) (by decide) (by decide) ?_
  rintro r9 _ ⟨e9, rfl⟩
  rw [if_pos (by omega)] at e9
  subst e9
  refine aw_if_ne (tgt := 20) dX12_person_14 rfl ⟨by decide, by decide⟩ (fun _ => ?_) (fun c9 => absurd c9 (by decide))
  refine aw_iload_n dX12_person_20 rfl ?_
  refine aw_iconst dX12_person_21 ?_
  refine aw_iconst dX12_person_22 ?_
  refine aw_callS (as := [ab_i (w : Int), ab_i 0, ab_i 4]) (rest := []) dX12_person_23 (ct_X12_in G (104, I, F) (w : Int) 0 4 (by first | assumption | (unfold ab_In at *; omega)) (by first | assumption | (unfold ab_In at *; omega)) (by first | assumption | (unfold ab_In at *; omega))) kX12_in sX12_in lX12_75 rfl (Nat.le_of_ble_eq_true rfl) (by decide) (by decide) (by decide) (by decide) ?_
  rintro r9 _ ⟨e9, rfl⟩
  rw [if_pos (by omega)] at e9
  subst e9
  refine aw_if_ne (tgt := 32) dX12_person_26 rfl ⟨by decide, by decide⟩ (fun _ => ?_) (fun c9 => absurd c9 (by decide))
  refine aw_aload_n dX12_person_32 rfl (by decide) ?_
  refine aw_callV (as := []) (rest := []) dX12_person_33 (ct_X12_findOrder G I F hF N W nx hb hW hnx hN12 hn ho hN hnm) ⟨Nat.le_of_ble_eq_true rfl, Nat.le_of_ble_eq_true rfl⟩ rfl kc12 rfl kX12_findOrder iX12_findOrder eX12_findOrder lX12_98 rfl (Nat.le_of_ble_eq_true rfl) (by decide) (by decide) (by decide) (by decide) ?_
  rintro _ _ ⟨rfl, I2, rfl, h2, h91⟩
  have e91 := h91 q hq
  have hpl := sd_ltN (fun a b => ah (I 95 0) (n4 (I 86)) (rt (I 89) a) (rt (I 89) b)) N hq
  generalize hpe : (sd (fun a b => ah (I 95 0) (n4 (I 86)) (rt (I 89) a) (rt (I 89) b)) id N q) = p at *
  refine aw_aload_n dX12_person_36 rfl (by decide) ?_
  refine aw_getrv (r := 89) dX12_person_37 fX12_22 ⟨Nat.le_of_ble_eq_true rfl, Nat.le_of_ble_eq_true rfl⟩ rfl rfl (hF.at 84 6 89 rfl rfl rfl) ?_
  refine aw_bipush dX12_person_40 rfl ?_
  refine aw_iload_n dX12_person_42 rfl ?_
  refine aw_imul dX12_person_43 ?_
  refine aw_aload_n dX12_person_44 rfl (by decide) ?_
  refine aw_getrv (r := 91) dX12_person_45 fX12_28 ⟨Nat.le_of_ble_eq_true rfl, Nat.le_of_ble_eq_true rfl⟩ rfl rfl (hF.at 84 8 91 rfl rfl rfl) ?_
  refine aw_iload_n dX12_person_48 rfl ?_
  refine aw_ialdq (q := q) (v := (p : Int)) dX12_person_49 ⟨Nat.le_of_ble_eq_true rfl, Nat.le_of_ble_eq_true rfl⟩ rfl (by omega) (by omega) (by decide) rfl e91 ?_
  refine aw_iadd dX12_person_50 ?_
  refine aw_ialdq (q := (12 * w + p)) (v := I2 89 (12 * w + p)) dX12_person_51 ⟨Nat.le_of_ble_eq_true rfl, Nat.le_of_ble_eq_true rfl⟩ rfl (by omega) (by omega) (by decide) (by omega) rfl ?_
  refine aw_ireturn dX12_person_52 rfl ?_
  exact ⟨by rw [h2 89 _ (by decide)], I2, rfl, h2⟩
set_option maxHeartbeats 4000000 in
set_option maxRecDepth 100000 in
theorem pr_person (G : ab_G) (I : Nat → Nat → Int) (F : Nat → Nat → Nat) (c : Nat) (h : INV c I F) (hc : c ≤ 600) (a : Int) (ha : ab_In a) (b : Int) (hb : ab_In b) : Pair G 2 2 YX11_person YX12_person [ab_i a, ab_i b] ab_i c I F := by
  obtain ⟨L, M, wk, nx, hC, hM⟩ := id h.2.2.2.2.2.2.2.2
  obtain ⟨c1, c2, c3, c4, c5, c6, c7, c8⟩ := id hC
  have hl := c3.length_eq
  have hL12 := c1.1
  have e2 : I 23 2 = (L.length : Int) := c1.2.1.1
  have e3 : I 89 84 = (L.length : Int) := by rw [c2.2.1.1, hl]
  have hro := h.2.2.2.1.1
  have hrm := h.rbm.1
  have hOrd : ∀ J : Nat → Nat → Int, (∀ i b, i ≠ 91 → J i b = I i b) → INV (c + 1) J (rw_ F 24 (sd (fun a b => ah (I 13 0) (n4 (I 8)) (tup I a) (tup I b)) (F 24) L.length)) := fun J hJ => h.order (fun i b q => hJ i b (by omega)) (h.2.2.2.2.2.2.2.1.of (fun i b q => hJ i b (by omega))) (fun i b q => rw_n q) (fun L9 wk9 nx9 W9 h9 hq9 => ⟨srt (I 13 0) (n4 (I 8)) L9, srt_perm _ _ _, (show L9.length = L.length by have := h9.2.1.1; omega) ▸ CS_sd h9 hq9 _ _⟩)
  by_cases hv9 : 0 ≤ a ∧ a ≤ I 23 2 - 1
  · obtain ⟨q, rfl⟩ : ∃ q : Nat, a = q := ⟨a.toNat, by omega⟩
    have hq : q < L.length := by omega
    refine (ct_X11_person G I F h.1 L.length q hq b hb c1.2.2.2.2.2.2 h.2.1.1 (by unfold ab_In; omega) e2 hL12 c1.2.2.1).mono ?_
    rintro _ _ ⟨rfl, rfl⟩
    refine ⟨_, _, _, rfl, rfl, ?_⟩
    have hF2 : ab_FB (rw_ F 24 (sd (fun a b => ah (I 13 0) (n4 (I 8)) (tup I a) (tup I b)) (F 24) L.length)) := h.1.rw 24 _ (Or.inl rfl)
    by_cases hw9 : 0 ≤ b ∧ b ≤ 4
    · obtain ⟨w, rfl⟩ : ∃ w : Nat, b = w := ⟨b.toNat, by omega⟩
      rw [if_pos hw9]
      have hnm : ∀ a b, a < L.length → b < L.length → a ≠ b → I 89 (12 + a) ≠ I 89 (12 + b) := fun a b ha hb2 hab e => by have hq9 := (c4.perm c3).1; rw [c2.tup] at hq9; exact hab ((List.getElem_inj (i := a) (j := b) (h₀ := by simp; omega) (h₁ := by simp; omega) hq9).mp (by simpa [rt] using e))
      refine (ct_X12_person G I _ hF2 L.length q w hq (by omega) (2 * wk) nx (fun p hp => c2.2.2.2 _ (List.mem_of_getElem? (c2.2.2.1 p (by omega)))) (by omega) (by omega) hL12 h.tbm.1 (by unfold ab_In; omega) e3 hnm).mono ?_
      rintro _ _ ⟨rfl, I2, rfl, h2⟩
      have hpl := place_eq c1 c2 c3 c4 (I 13 0) (n4 (I 8)) hq
      rw [show n4 (I 86) = n4 (I 8) from (n4_congr h.2.2.1.1).symm, ← h.2.2.2.2.1.1.1]
      refine ⟨?_, _, _, rfl, hOrd I2 h2⟩
      rw [rw_s]
      generalize sd (fun a b => ah (I 13 0) (n4 (I 8)) (tup I a) (tup I b)) (F 24) L.length q = x at *
      generalize sd (fun a b => ah (I 13 0) (n4 (I 8)) (rt (I 89) a) (rt (I 89) b)) id L.length q = y at *
      exact congrArg (fun z => some (ab_i z)) (pl_at hpl (by omega))
    · rw [if_neg hw9]
      refine (ct_X12_person_bad G I _ hF2 (q : Int) ha b hb (by omega) (by omega)).mono ?_
      rintro _ _ ⟨rfl, rfl⟩
      rw [if_pos (by omega)]
      exact ⟨rfl, _, _, rfl, hOrd I (fun _ _ _ => rfl)⟩
  · refine (ct_X11_person_bad G I F h.1 a ha b hb (by omega) hv9).mono ?_
    rintro _ _ ⟨rfl, rfl⟩
    refine ⟨_, _, _, rfl, rfl, ?_⟩
    refine (ct_X12_person_bad G I F h.1 a ha b hb (by omega) (by omega)).mono ?_
    rintro _ _ ⟨rfl, rfl⟩
    rw [if_neg (by omega)]
    exact ⟨rfl, _, _, rfl, h.up (by omega)⟩
set_option maxHeartbeats 4000000 in
set_option maxRecDepth 100000 in
theorem ct_X11_of_bad (G : ab_G) (I : Nat → Nat → Int) (F : Nat → Nat → Nat) (hF : ab_FB F) (a : Int) (ha : ab_In a) (b : Int) (hb : ab_In b)  (hbad : ¬ ((0 ≤ a ∧ a ≤ 3) ∧ (0 ≤ b ∧ b ≤ 5))) : Ct G 2 0 0 YX11_of [ab_r 1, ab_i a, ab_i b] (104, I, F) (fun r h => r = some (ab_i (if 0 ≤ a ∧ a ≤ 3 then -3 else -2)) ∧ h = (104, I, F)) := by
  refine Ct.ofW kX11_of (ls := [some (ab_r 1), some (ab_i a), some (ab_i b)]) (Nat.le_of_ble_eq_true rfl) rfl ?_
  refine aw_iload_n dX11_of_0 rfl ?_
  refine aw_callS (as := [ab_i a]) (rest := []) dX11_of_1 (ct_X11_isSort G (104, I, F) a (by first | assumption | (unfold ab_In at *; omega))) kX11_isSort sX11_isSort lX11_82 rfl (Nat.le_of_ble_eq_true rfl) (by decide) (by decide) (by decide) (by decide) ?_
  rintro r9 _ ⟨e9, rfl⟩
  by_cases q1 : 0 ≤ a ∧ a ≤ 3
  · rw [if_pos q1] at e9
    subst e9
    refine aw_if_ne (tgt := 10) dX11_of_4 rfl ⟨by decide, by decide⟩ (fun _ => ?_) (fun c9 => absurd c9 (by decide))
    refine aw_iload_n dX11_of_10 rfl ?_
    refine aw_iconst dX11_of_11 ?_
    refine aw_iconst dX11_of_12 ?_
    refine aw_callS (as := [ab_i b, ab_i 0, ab_i 5]) (rest := []) dX11_of_13 (ct_X11_within G (104, I, F) b 0 5 (by first | assumption | (unfold ab_In at *; omega)) (by first | assumption | (unfold ab_In at *; omega)) (by first | assumption | (unfold ab_In at *; omega))) kX11_within sX11_within lX11_89 rfl (Nat.le_of_ble_eq_true rfl) (by decide) (by decide) (by decide) (by decide) ?_
    rintro r9 _ ⟨e9, rfl⟩
    by_cases q2 : 0 ≤ b ∧ b ≤ 5
    · rw [if_pos q2] at e9
      subst e9
      refine aw_if_ne (tgt := 22) dX11_of_16 rfl ⟨by decide, by decide⟩ (fun _ => ?_) (fun c9 => absurd c9 (by decide))
      exfalso; omega
    · rw [if_neg q2] at e9
      subst e9
      refine aw_if_ne (tgt := 22) dX11_of_16 rfl ⟨by decide, by decide⟩ (fun c9 => absurd rfl c9) (fun _ => ?_)
      refine aw_bipush dX11_of_19 rfl ?_
      refine aw_ireturn dX11_of_21 rfl ?_
      exact ⟨by first | rw [if_pos (by omega)] | rw [if_neg (by omega)] | rfl, rfl⟩
  · rw [if_neg q1] at e9
    subst e9
    refine aw_if_ne (tgt := 10) dX11_of_4 rfl ⟨by decide, by decide⟩ (fun c9 => absurd rfl c9) (fun _ => ?_)
    refine aw_bipush dX11_of_7 rfl ?_
    refine aw_ireturn dX11_of_9 rfl ?_
    exact ⟨by first | rw [if_pos (by omega)] | rw [if_neg (by omega)] | rfl, rfl⟩
set_option maxHeartbeats 4000000 in
set_option maxRecDepth 100000 in
theorem ct_X12_of_bad (G : ab_G) (I : Nat → Nat → Int) (F : Nat → Nat → Nat) (hF : ab_FB F) (a : Int) (ha : ab_In a) (b : Int) (hb : ab_In b)  (hbad : ¬ ((0 ≤ a ∧ a ≤ 3) ∧ (0 ≤ b ∧ b ≤ 5))) : Ct G 2 0 0 YX12_of [ab_r 84, ab_i a, ab_i b] (104, I, F) (fun r h => r = some (ab_i (if 0 ≤ a ∧ a ≤ 3 then -3 else -2)) ∧ h = (104, I, F)) := by
  refine Ct.ofW kX12_of (ls := [some (ab_r 84), some (ab_i a), some (ab_i b)]) (Nat.le_of_ble_eq_true rfl) rfl ?_
  refine aw_iload_n dX12_of_0 rfl ?_
  refine aw_callS (as := [ab_i a]) (rest := []) dX12_of_1 (ct_X12_isFour G (104, I, F) a (by first | assumption | (unfold ab_In at *; omega))) kX12_isFour sX12_isFour lX12_79 rfl (Nat.le_of_ble_eq_true rfl) (by decide) (by decide) (by decide) (by decide) ?_
  rintro r9 _ ⟨e9, rfl⟩
  by_cases q1 : 0 ≤ a ∧ a ≤ 3
  · rw [if_pos q1] at e9
    subst e9
    refine aw_if_ne (tgt := 10) dX12_of_4 rfl ⟨by decide, by decide⟩ (fun _ => ?_) (fun c9 => absurd c9 (by decide))
    refine aw_iload_n dX12_of_10 rfl ?_
    refine aw_iconst dX12_of_11 ?_
    refine aw_iconst dX12_of_12 ?_
    refine aw_callS (as := [ab_i b, ab_i 0, ab_i 5]) (rest := []) dX12_of_13 (ct_X12_in G (104, I, F) b 0 5 (by first | assumption | (unfold ab_In at *; omega)) (by first | assumption | (unfold ab_In at *; omega)) (by first | assumption | (unfold ab_In at *; omega))) kX12_in sX12_in lX12_75 rfl (Nat.le_of_ble_eq_true rfl) (by decide) (by decide) (by decide) (by decide) ?_
    rintro r9 _ ⟨e9, rfl⟩
    by_cases q2 : 0 ≤ b ∧ b ≤ 5
    · rw [if_pos q2] at e9
      subst e9
      refine aw_if_eq (tgt := 35) dX12_of_16 rfl ⟨by decide, by decide⟩ (fun c9 => absurd c9 (by decide)) (fun _ => ?_)
      exfalso; omega
    · rw [if_neg q2] at e9
      subst e9
      refine aw_if_eq (tgt := 35) dX12_of_16 rfl ⟨by decide, by decide⟩ (fun _ => ?_) (fun c9 => absurd (by decide) c9)
      refine aw_bipush dX12_of_35 rfl ?_
      refine aw_ireturn dX12_of_37 rfl ?_
      exact ⟨by first | rw [if_pos (by omega)] | rw [if_neg (by omega)] | rfl, rfl⟩
  · rw [if_neg q1] at e9
    subst e9
    refine aw_if_ne (tgt := 10) dX12_of_4 rfl ⟨by decide, by decide⟩ (fun c9 => absurd rfl c9) (fun _ => ?_)
    refine aw_bipush dX12_of_7 rfl ?_
    refine aw_ireturn dX12_of_9 rfl ?_
    exact ⟨by first | rw [if_pos (by omega)] | rw [if_neg (by omega)] | rfl, rfl⟩
set_option maxHeartbeats 4000000 in
set_option maxRecDepth 100000 in
theorem ct_X11_of (G : ab_G) (I : Nat → Nat → Int) (F : Nat → Nat → Nat) (hF : ab_FB F) (s w : Nat) (hs : s < 4) (hw : w < 6) : Ct G 2 0 0 YX11_of [ab_r 1, ab_i (s : Int), ab_i (w : Int)] (104, I, F) (fun r h => r = some (ab_i (I (26 + w) s)) ∧ h = (104, I, F)) := by
  refine Ct.ofW kX11_of (ls := [some (ab_r 1), some (ab_i (s : Int)), some (ab_i (w : Int))]) (Nat.le_of_ble_eq_true rfl) rfl ?_
  refine aw_iload_n dX11_of_0 rfl ?_
  refine aw_callS (as := [ab_i (s : Int)]) (rest := []) dX11_of_1 (ct_X11_isSort G (104, I, F) (s : Int) (by first | assumption | (unfold ab_In at *; omega))) kX11_isSort sX11_isSort lX11_82 rfl (Nat.le_of_ble_eq_true rfl) (by decide) (by decide) (by decide) (by decide) ?_
  rintro r9 _ ⟨e9, rfl⟩
  rw [if_pos (by omega)] at e9
  subst e9
  refine aw_if_ne (tgt := 10) dX11_of_4 rfl ⟨by decide, by decide⟩ (fun _ => ?_) (fun c9 => absurd c9 (by decide))
  refine aw_iload_n dX11_of_10 rfl ?_
  refine aw_iconst dX11_of_11 ?_
  refine aw_iconst dX11_of_12 ?_
  refine aw_callS (as := [ab_i (w : Int), ab_i 0, ab_i 5]) (rest := []) dX11_of_13 (ct_X11_within G (104, I, F) (w : Int) 0 5 (by first | assumption | (unfold ab_In at *; omega)) (by first | assumption | (unfold ab_In at *; omega)) (by first | assumption | (unfold ab_In at *; omega))) kX11_within sX11_within lX11_89 rfl (Nat.le_of_ble_eq_true rfl) (by decide) (by decide) (by decide) (by decide) ?_
  rintro r9 _ ⟨e9, rfl⟩
  rw [if_pos (by omega)] at e9
  subst e9
  refine aw_if_ne (tgt := 22) dX11_of_16 rfl ⟨by decide, by decide⟩ (fun _ => ?_) (fun c9 => absurd c9 (by decide))
  refine aw_aload_n dX11_of_22 rfl (by decide) ?_
  refine aw_getrv (r := 23) dX11_of_23 fX11_38 ⟨Nat.le_of_ble_eq_true rfl, Nat.le_of_ble_eq_true rfl⟩ rfl rfl (hF.at 1 4 23 rfl rfl rfl) ?_
  refine aw_getrv (r := 25) dX11_of_26 fX11_163 ⟨Nat.le_of_ble_eq_true rfl, Nat.le_of_ble_eq_true rfl⟩ rfl rfl (hF.at 23 6 25 rfl rfl rfl) ?_
  refine aw_iload_n dX11_of_29 rfl ?_
  refine aw_aaldv (r := 26 + w) dX11_of_30 ⟨Nat.le_of_ble_eq_true rfl, Nat.le_of_ble_eq_true rfl⟩ rfl (by decide) (by omega) (by omega) (by decide) (hF.t23 hw) ?_
  refine aw_iload_n dX11_of_31 rfl ?_
  refine aw_ialdq (q := s) (v := I (26 + w) s) dX11_of_32 ⟨by omega, by omega⟩ (sh_t23 hw) (by omega) (by omega) (by decide) rfl rfl ?_
  refine aw_ireturn dX11_of_33 rfl ?_
  exact ⟨rfl, rfl⟩
set_option maxHeartbeats 4000000 in
set_option maxRecDepth 100000 in
theorem ct_X12_of (G : ab_G) (I : Nat → Nat → Int) (F : Nat → Nat → Nat) (hF : ab_FB F) (s w : Nat) (hs : s < 4) (hw : w < 6) : Ct G 2 0 0 YX12_of [ab_r 84, ab_i (s : Int), ab_i (w : Int)] (104, I, F) (fun r h => r = some (ab_i (I 89 (60 + 4 * w + s))) ∧ h = (104, I, F)) := by
  refine Ct.ofW kX12_of (ls := [some (ab_r 84), some (ab_i (s : Int)), some (ab_i (w : Int))]) (Nat.le_of_ble_eq_true rfl) rfl ?_
  refine aw_iload_n dX12_of_0 rfl ?_
  refine aw_callS (as := [ab_i (s : Int)]) (rest := []) dX12_of_1 (ct_X12_isFour G (104, I, F) (s : Int) (by first | assumption | (unfold ab_In at *; omega))) kX12_isFour sX12_isFour lX12_79 rfl (Nat.le_of_ble_eq_true rfl) (by decide) (by decide) (by decide) (by decide) ?_
  rintro r9 _ ⟨e9, rfl⟩
  rw [if_pos (by omega)] at e9
  subst e9
  refine aw_if_ne (tgt := 10) dX12_of_4 rfl ⟨by decide, by decide⟩ (fun _ => ?_) (fun c9 => absurd c9 (by decide))
  refine aw_iload_n dX12_of_10 rfl ?_
  refine aw_iconst dX12_of_11 ?_
  refine aw_iconst dX12_of_12 ?_
  refine aw_callS (as := [ab_i (w : Int), ab_i 0, ab_i 5]) (rest := []) dX12_of_13 (ct_X12_in G (104, I, F) (w : Int) 0 5 (by first | assumption | (unfold ab_In at *; omega)) (by first | assumption | (unfold ab_In at *; omega)) (by first | assumption | (unfold ab_In at *; omega))) kX12_in sX12_in lX12_75 rfl (Nat.le_of_ble_eq_true rfl) (by decide) (by decide) (by decide) (by decide) ?_
  rintro r9 _ ⟨e9, rfl⟩
  rw [if_pos (by omega)] at e9
  subst e9
  refine aw_if_eq (tgt := 35) dX12_of_16 rfl ⟨by decide, by decide⟩ (fun c9 => absurd c9 (by decide)) (fun _ => ?_)
  refine aw_aload_n dX12_of_19 rfl (by decide) ?_
  refine aw_getrv (r := 89) dX12_of_20 fX12_22 ⟨Nat.le_of_ble_eq_true rfl, Nat.le_of_ble_eq_true rfl⟩ rfl rfl (hF.at 84 6 89 rfl rfl rfl) ?_
  refine aw_bipush dX12_of_23 rfl ?_
  refine aw_iconst dX12_of_25 ?_
  refine aw_iload_n dX12_of_26 rfl ?_
  refine aw_imul dX12_of_27 ?_
  refine aw_iadd dX12_of_28 ?_
  refine aw_iload_n dX12_of_29 rfl ?_
  refine aw_iadd dX12_of_30 ?_
  refine aw_ialdq (q := (60 + 4 * w + s)) (v := I 89 (60 + 4 * w + s)) dX12_of_31 ⟨Nat.le_of_ble_eq_true rfl, Nat.le_of_ble_eq_true rfl⟩ rfl (by omega) (by omega) (by decide) (by omega) rfl ?_
  refine aw_goto (tgt := 37) dX12_of_32 rfl ?_
  refine aw_ireturn dX12_of_37 rfl ?_
  exact ⟨rfl, rfl⟩
set_option maxHeartbeats 4000000 in
set_option maxRecDepth 100000 in
theorem pr_of (G : ab_G) (I : Nat → Nat → Int) (F : Nat → Nat → Nat) (c : Nat) (h : INV c I F) (hc : c ≤ 600) (a : Int) (ha : ab_In a) (b : Int) (hb : ab_In b) : Pair G 2 2 YX11_of YX12_of [ab_i a, ab_i b] ab_i c I F := by
  obtain ⟨L, M, wk, nx, hC, hM⟩ := id h.2.2.2.2.2.2.2.2
  by_cases hv9 : (0 ≤ a ∧ a ≤ 3) ∧ (0 ≤ b ∧ b ≤ 5)
  · obtain ⟨s, rfl⟩ : ∃ s : Nat, a = s := ⟨a.toNat, by omega⟩
    obtain ⟨w, rfl⟩ : ∃ w : Nat, b = w := ⟨b.toNat, by omega⟩
    refine (ct_X11_of G I F h.1 s w (by omega) (by omega)).mono ?_
    rintro _ _ ⟨rfl, rfl⟩
    refine ⟨_, _, _, rfl, rfl, ?_⟩
    refine (ct_X12_of G I F h.1 s w (by omega) (by omega)).mono ?_
    rintro _ _ ⟨rfl, rfl⟩
    exact ⟨by rw [hC.2.2.2.2.2.2.1 w s (by omega) (by omega)], _, _, rfl, h.up (by omega)⟩
  · refine (ct_X11_of_bad G I F h.1 a ha b hb hv9).mono ?_
    rintro _ _ ⟨rfl, rfl⟩
    refine ⟨_, _, _, rfl, rfl, ?_⟩
    refine (ct_X12_of_bad G I F h.1 a ha b hb hv9).mono ?_
    rintro _ _ ⟨rfl, rfl⟩
    exact ⟨rfl, _, _, rfl, h.up (by omega)⟩
set_option maxHeartbeats 4000000 in
set_option maxRecDepth 100000 in
theorem ct_X11_empty (G : ab_G) (I : Nat → Nat → Int) (F : Nat → Nat → Nat) (hF : ab_FB F) : Ct G 0 0 0 YX11_empty [ab_r 1] (104, I, F) (fun r h => r = some (ab_i (I 23 5)) ∧ h = (104, I, F)) := by
  refine Ct.ofW kX11_empty (ls := [some (ab_r 1)]) (Nat.le_of_ble_eq_true rfl) rfl ?_
  refine aw_aload_n dX11_empty_0 rfl (by decide) ?_
  refine aw_getrv (r := 23) dX11_empty_1 fX11_38 ⟨Nat.le_of_ble_eq_true rfl, Nat.le_of_ble_eq_true rfl⟩ rfl rfl (hF.at 1 4 23 rfl rfl rfl) ?_
  refine aw_geti dX11_empty_4 fX11_166 ⟨Nat.le_of_ble_eq_true rfl, Nat.le_of_ble_eq_true rfl⟩ rfl rfl ?_
  refine aw_ireturn dX11_empty_7 rfl ?_
  exact ⟨rfl, rfl⟩
set_option maxHeartbeats 4000000 in
set_option maxRecDepth 100000 in
theorem ct_X12_empty (G : ab_G) (I : Nat → Nat → Int) (F : Nat → Nat → Nat) (hF : ab_FB F) : Ct G 0 0 0 YX12_empty [ab_r 84] (104, I, F) (fun r h => r = some (ab_i (I 89 87)) ∧ h = (104, I, F)) := by
  refine Ct.ofW kX12_empty (ls := [some (ab_r 84)]) (Nat.le_of_ble_eq_true rfl) rfl ?_
  refine aw_aload_n dX12_empty_0 rfl (by decide) ?_
  refine aw_getrv (r := 89) dX12_empty_1 fX12_22 ⟨Nat.le_of_ble_eq_true rfl, Nat.le_of_ble_eq_true rfl⟩ rfl rfl (hF.at 84 6 89 rfl rfl rfl) ?_
  refine aw_bipush dX12_empty_4 rfl ?_
  refine aw_ialdq (q := 87) (v := I 89 87) dX12_empty_6 ⟨Nat.le_of_ble_eq_true rfl, Nat.le_of_ble_eq_true rfl⟩ rfl (by omega) (by omega) (by decide) rfl rfl ?_
  refine aw_ireturn dX12_empty_7 rfl ?_
  exact ⟨rfl, rfl⟩
set_option maxHeartbeats 4000000 in
set_option maxRecDepth 100000 in
theorem pr_empty (G : ab_G) (I : Nat → Nat → Int) (F : Nat → Nat → Nat) (c : Nat) (h : INV c I F) (hc : c ≤ 600)  : Pair G 0 0 YX11_empty YX12_empty [] ab_i c I F := by
  obtain ⟨L, M, wk, nx, hC, hM⟩ := id h.2.2.2.2.2.2.2.2
  refine (ct_X11_empty G I F h.1).mono ?_
  rintro _ _ ⟨rfl, rfl⟩
  refine ⟨_, _, _, rfl, rfl, ?_⟩
  refine (ct_X12_empty G I F h.1).mono ?_
  rintro _ _ ⟨rfl, rfl⟩
  exact ⟨by rw [hC.2.2.2.2.2.2.2], _, _, rfl, h.up (by omega)⟩
set_option maxHeartbeats 4000000 in
set_option maxRecDepth 100000 in
theorem ct_X11_erase (G : ab_G) (I : Nat → Nat → Int) (F : Nat → Nat → Nat) (hF : ab_FB F) : Ct G 0 0 0 YX11_erase [ab_r 1] (104, I, F) (fun r h => r = some (ab_i (I 21 1)) ∧ h = (104, ab_u I 21 1 0, F)) := by
  refine Ct.ofW kX11_erase (ls := [some (ab_r 1), none]) (Nat.le_of_ble_eq_true rfl) rfl ?_
  refine aw_aload_n dX11_erase_0 rfl (by decide) ?_
  refine aw_getrv (r := 21) dX11_erase_1 fX11_29 ⟨Nat.le_of_ble_eq_true rfl, Nat.le_of_ble_eq_true rfl⟩ rfl rfl (hF.at 1 3 21 rfl rfl rfl) ?_
  refine aw_geti dX11_erase_4 fX11_169 ⟨Nat.le_of_ble_eq_true rfl, Nat.le_of_ble_eq_true rfl⟩ rfl rfl ?_
  refine aw_istore_n (ls' := [some (ab_r 1), some (ab_i (I 21 1))]) dX11_erase_7 (by decide) rfl ?_
  refine aw_aload_n dX11_erase_8 rfl (by decide) ?_
  refine aw_getrv (r := 21) dX11_erase_9 fX11_29 ⟨Nat.le_of_ble_eq_true rfl, Nat.le_of_ble_eq_true rfl⟩ rfl rfl (hF.at 1 3 21 rfl rfl rfl) ?_
  refine aw_iconst dX11_erase_12 ?_
  refine aw_puti dX11_erase_13 fX11_169 ⟨Nat.le_of_ble_eq_true rfl, Nat.le_of_ble_eq_true rfl⟩ rfl rfl ?_
  refine aw_iload_n dX11_erase_16 rfl ?_
  refine aw_ireturn dX11_erase_17 rfl ?_
  exact ⟨rfl, rfl⟩
set_option maxHeartbeats 4000000 in
set_option maxRecDepth 100000 in
theorem ct_X12_erase (G : ab_G) (I : Nat → Nat → Int) (F : Nat → Nat → Nat) (hF : ab_FB F) : Ct G 0 0 0 YX12_erase [ab_r 84] (104, I, F) (fun r h => r = some (ab_i (I 84 10)) ∧ h = (104, ab_u I 84 10 0, F)) := by
  refine Ct.ofW kX12_erase (ls := [some (ab_r 84), none]) (Nat.le_of_ble_eq_true rfl) rfl ?_
  refine aw_aload_n dX12_erase_0 rfl (by decide) ?_
  refine aw_geti dX12_erase_1 fX12_110 ⟨Nat.le_of_ble_eq_true rfl, Nat.le_of_ble_eq_true rfl⟩ rfl rfl ?_
  refine aw_istore_n (ls' := [some (ab_r 84), some (ab_i (I 84 10))]) dX12_erase_4 (by decide) rfl ?_
  refine aw_aload_n dX12_erase_5 rfl (by decide) ?_
  refine aw_iconst dX12_erase_6 ?_
  refine aw_puti dX12_erase_7 fX12_110 ⟨Nat.le_of_ble_eq_true rfl, Nat.le_of_ble_eq_true rfl⟩ rfl rfl ?_
  refine aw_iload_n dX12_erase_10 rfl ?_
  refine aw_ireturn dX12_erase_11 rfl ?_
  exact ⟨rfl, rfl⟩
set_option maxHeartbeats 4000000 in
set_option maxRecDepth 100000 in
theorem pr_erase (G : ab_G) (I : Nat → Nat → Int) (F : Nat → Nat → Nat) (c : Nat) (h : INV c I F) (hc : c ≤ 600)  : Pair G 0 0 YX11_erase YX12_erase [] ab_i c I F := by
  refine (ct_X11_erase G I F h.1).mono ?_
  rintro _ _ ⟨rfl, rfl⟩
  refine ⟨_, _, _, rfl, rfl, ?_⟩
  refine (ct_X12_erase G _ F h.1).mono ?_
  rintro _ _ ⟨rfl, rfl⟩
  refine ⟨by rw [ab_u_i (by decide), h.2.2.2.2.2.1.2.1], _, _, rfl, h.text ⟨?_, ?_, fun j hj hj2 => ?_⟩ (fun i b q => by rw [ab_u_o (by omega), ab_u_o (by omega)])⟩
  · rw [ab_u_o (by omega), ab_u_s]; omega
  · rw [ab_u_s, ab_u_o (by omega), ab_u_s]
  · rw [ab_u_o (by omega), ab_u_s] at hj2; omega
set_option maxHeartbeats 4000000 in
set_option maxRecDepth 100000 in
theorem ct_X11_rule (G : ab_G) (I : Nat → Nat → Int) (F : Nat → Nat → Nat) (hF : ab_FB F) (a : Int) (ha : ab_In a) : Ct G 0 0 0 YX11_rule [ab_r 1, ab_i a] (104, I, F) (fun r h => r = some (ab_i (if 0 ≤ a ∧ a ≤ 3 then I 13 a.toNat else -3)) ∧ h = (104, I, F)) := by
  refine Ct.ofW kX11_rule (ls := [some (ab_r 1), some (ab_i a)]) (Nat.le_of_ble_eq_true rfl) rfl ?_
  refine aw_iload_n dX11_rule_0 rfl ?_
  rcases (show a = 0 ∨ a = 1 ∨ a = 2 ∨ a = 3 ∨ (a < 0 ∨ 3 < a) by omega) with c_1 | c_1 | c_1 | c_1 | c_1
  · refine aw_tabIn (off := 31) (tgt := 32) dX11_rule_1 (by first | assumption | (unfold ab_In at *; omega)) (by omega) (by omega) (by rw [c_1]; rfl) rfl ?_
    refine aw_aload_n dX11_rule_32 rfl (by decide) ?_
    refine aw_getrv (r := 13) dX11_rule_33 fX11_19 ⟨Nat.le_of_ble_eq_true rfl, Nat.le_of_ble_eq_true rfl⟩ rfl rfl (hF.at 1 1 13 rfl rfl rfl) ?_
    refine aw_geti dX11_rule_36 fX11_136 ⟨Nat.le_of_ble_eq_true rfl, Nat.le_of_ble_eq_true rfl⟩ rfl rfl ?_
    refine aw_ireturn dX11_rule_39 rfl ?_
    exact ⟨by first | (rw [if_pos (by omega), c_1]; rfl) | rw [if_neg (by omega)], rfl⟩
  · refine aw_tabIn (off := 39) (tgt := 40) dX11_rule_1 (by first | assumption | (unfold ab_In at *; omega)) (by omega) (by omega) (by rw [c_1]; rfl) rfl ?_
    refine aw_aload_n dX11_rule_40 rfl (by decide) ?_
    refine aw_getrv (r := 13) dX11_rule_41 fX11_19 ⟨Nat.le_of_ble_eq_true rfl, Nat.le_of_ble_eq_true rfl⟩ rfl rfl (hF.at 1 1 13 rfl rfl rfl) ?_
    refine aw_geti dX11_rule_44 fX11_188 ⟨Nat.le_of_ble_eq_true rfl, Nat.le_of_ble_eq_true rfl⟩ rfl rfl ?_
    refine aw_ireturn dX11_rule_47 rfl ?_
    exact ⟨by first | (rw [if_pos (by omega), c_1]; rfl) | rw [if_neg (by omega)], rfl⟩
  · refine aw_tabIn (off := 47) (tgt := 48) dX11_rule_1 (by first | assumption | (unfold ab_In at *; omega)) (by omega) (by omega) (by rw [c_1]; rfl) rfl ?_
    refine aw_aload_n dX11_rule_48 rfl (by decide) ?_
    refine aw_getrv (r := 13) dX11_rule_49 fX11_19 ⟨Nat.le_of_ble_eq_true rfl, Nat.le_of_ble_eq_true rfl⟩ rfl rfl (hF.at 1 1 13 rfl rfl rfl) ?_
    refine aw_geti dX11_rule_52 fX11_189 ⟨Nat.le_of_ble_eq_true rfl, Nat.le_of_ble_eq_true rfl⟩ rfl rfl ?_
    refine aw_ireturn dX11_rule_55 rfl ?_
    exact ⟨by first | (rw [if_pos (by omega), c_1]; rfl) | rw [if_neg (by omega)], rfl⟩
  · refine aw_tabIn (off := 55) (tgt := 56) dX11_rule_1 (by first | assumption | (unfold ab_In at *; omega)) (by omega) (by omega) (by rw [c_1]; rfl) rfl ?_
    refine aw_aload_n dX11_rule_56 rfl (by decide) ?_
    refine aw_getrv (r := 13) dX11_rule_57 fX11_19 ⟨Nat.le_of_ble_eq_true rfl, Nat.le_of_ble_eq_true rfl⟩ rfl rfl (hF.at 1 1 13 rfl rfl rfl) ?_
    refine aw_geti dX11_rule_60 fX11_192 ⟨Nat.le_of_ble_eq_true rfl, Nat.le_of_ble_eq_true rfl⟩ rfl rfl ?_
    refine aw_ireturn dX11_rule_63 rfl ?_
    exact ⟨by first | (rw [if_pos (by omega), c_1]; rfl) | rw [if_neg (by omega)], rfl⟩
  · refine aw_tabOut (tgt := 64) dX11_rule_1 (by first | assumption | (unfold ab_In at *; omega)) c_1 rfl ?_
    refine aw_bipush dX11_rule_64 rfl ?_
    refine aw_ireturn dX11_rule_66 rfl ?_
    exact ⟨by first | (rw [if_pos (by omega), c_1]; rfl) | rw [if_neg (by omega)], rfl⟩
set_option maxHeartbeats 4000000 in
set_option maxRecDepth 100000 in
theorem ct_X12_rule (G : ab_G) (I : Nat → Nat → Int) (F : Nat → Nat → Nat) (hF : ab_FB F) (a : Int) (ha : ab_In a) : Ct G 2 0 0 YX12_rule [ab_r 84, ab_i a] (104, I, F) (fun r h => r = some (ab_i (if 0 ≤ a ∧ a ≤ 3 then I 95 a.toNat else -3)) ∧ h = (104, I, F)) := by
  refine Ct.ofW kX12_rule (ls := [some (ab_r 84), some (ab_i a)]) (Nat.le_of_ble_eq_true rfl) rfl ?_
  refine aw_iload_n dX12_rule_0 rfl ?_
  refine aw_callS (as := [ab_i a]) (rest := []) dX12_rule_1 (ct_X12_isFour G (104, I, F) a (by first | assumption | (unfold ab_In at *; omega))) kX12_isFour sX12_isFour lX12_79 rfl (Nat.le_of_ble_eq_true rfl) (by decide) (by decide) (by decide) (by decide) ?_
  rintro r9 _ ⟨e9, rfl⟩
  by_cases q1 : 0 ≤ a ∧ a ≤ 3
  · rw [if_pos q1] at e9
    subst e9
    refine aw_if_eq (tgt := 16) dX12_rule_4 rfl ⟨by decide, by decide⟩ (fun c9 => absurd c9 (by decide)) (fun _ => ?_)
    refine aw_aload_n dX12_rule_7 rfl (by decide) ?_
    refine aw_getrv (r := 95) dX12_rule_8 fX12_41 ⟨Nat.le_of_ble_eq_true rfl, Nat.le_of_ble_eq_true rfl⟩ rfl rfl (hF.at 84 20 95 rfl rfl rfl) ?_
    refine aw_iload_n dX12_rule_11 rfl ?_
    refine aw_ialdq (q := a.toNat) (v := I 95 a.toNat) dX12_rule_12 ⟨Nat.le_of_ble_eq_true rfl, Nat.le_of_ble_eq_true rfl⟩ rfl (by omega) (by omega) (by decide) rfl rfl ?_
    refine aw_goto (tgt := 18) dX12_rule_13 rfl ?_
    refine aw_ireturn dX12_rule_18 rfl ?_
    exact ⟨by first | rw [if_pos (by omega)] | rw [if_neg (by omega)], rfl⟩
  · rw [if_neg q1] at e9
    subst e9
    refine aw_if_eq (tgt := 16) dX12_rule_4 rfl ⟨by decide, by decide⟩ (fun _ => ?_) (fun c9 => absurd (by decide) c9)
    refine aw_bipush dX12_rule_16 rfl ?_
    refine aw_ireturn dX12_rule_18 rfl ?_
    exact ⟨by first | rw [if_pos (by omega)] | rw [if_neg (by omega)], rfl⟩
set_option maxHeartbeats 4000000 in
set_option maxRecDepth 100000 in
theorem pr_rule (G : ab_G) (I : Nat → Nat → Int) (F : Nat → Nat → Nat) (c : Nat) (h : INV c I F) (hc : c ≤ 600) (a : Int) (ha : ab_In a) : Pair G 0 2 YX11_rule YX12_rule [ab_i a] ab_i c I F := by
  refine (ct_X11_rule G I F h.1 a ha).mono ?_
  rintro _ _ ⟨rfl, rfl⟩
  refine ⟨_, _, _, rfl, rfl, ?_⟩
  refine (ct_X12_rule G _ F h.1 a ha).mono ?_
  rintro _ _ ⟨rfl, rfl⟩
  refine ⟨?_, _, _, rfl, h.up (by omega)⟩
  have hr := h.2.2.2.2.1.1
  by_cases q : 0 ≤ a ∧ a ≤ 3
  · rw [if_pos q, if_pos q]
    rcases (show a = 0 ∨ a = 1 ∨ a = 2 ∨ a = 3 by omega) with rfl | rfl | rfl | rfl
    · exact congrArg (fun z => some (ab_i z)) hr.1.symm
    · exact congrArg (fun z => some (ab_i z)) hr.2.1.symm
    · exact congrArg (fun z => some (ab_i z)) hr.2.2.1.symm
    · exact congrArg (fun z => some (ab_i z)) hr.2.2.2.symm
  · rw [if_neg q, if_neg q]
set_option maxHeartbeats 4000000 in
set_option maxRecDepth 100000 in
theorem ct_X11_way (G : ab_G) (I : Nat → Nat → Int) (F : Nat → Nat → Nat) (hF : ab_FB F) (a b : Int) (ha : ab_In a) (hb : ab_In b) : Ct G 2 0 0 YX11_way [ab_r 1, ab_i a, ab_i b] (104, I, F) (fun r h => r = some (ab_i (if 0 ≤ a ∧ a ≤ 3 then (if b = 0 then I 14 a.toNat else if b = 1 then I 15 a.toNat else if b = 2 then I 16 a.toNat else -3) else -2)) ∧ h = (104, I, F)) := by
  refine Ct.ofW kX11_way (ls := [some (ab_r 1), some (ab_i a), some (ab_i b)]) (Nat.le_of_ble_eq_true rfl) rfl ?_
  refine aw_iload_n dX11_way_0 rfl ?_
  refine aw_callS (as := [ab_i a]) (rest := []) dX11_way_1 (ct_X11_isSort G (104, I, F) a (by first | assumption | (unfold ab_In at *; omega))) kX11_isSort sX11_isSort lX11_82 rfl (Nat.le_of_ble_eq_true rfl) (by decide) (by decide) (by decide) (by decide) ?_
  rintro r9 _ ⟨e9, rfl⟩
  by_cases q1 : 0 ≤ a ∧ a ≤ 3
  · rw [if_pos q1] at e9
    subst e9
    refine aw_if_ne (tgt := 10) dX11_way_4 rfl ⟨by decide, by decide⟩ (fun _ => ?_) (fun c9 => absurd c9 (by decide))
    refine aw_iload_n dX11_way_10 rfl ?_
    rcases (show b = 0 ∨ b = 1 ∨ b = 2 ∨ (b < 0 ∨ 2 < b) by omega) with c_11 | c_11 | c_11 | c_11
    · refine aw_tabIn (off := 25) (tgt := 36) dX11_way_11 (by first | assumption | (unfold ab_In at *; omega)) (by omega) (by omega) (by rw [c_11]; rfl) rfl ?_
      refine aw_aload_n dX11_way_36 rfl (by decide) ?_
      refine aw_getrv (r := 13) dX11_way_37 fX11_19 ⟨Nat.le_of_ble_eq_true rfl, Nat.le_of_ble_eq_true rfl⟩ rfl rfl (hF.at 1 1 13 rfl rfl rfl) ?_
      refine aw_getrv (r := 14) dX11_way_40 fX11_195 ⟨Nat.le_of_ble_eq_true rfl, Nat.le_of_ble_eq_true rfl⟩ rfl rfl (hF.at 13 4 14 rfl rfl rfl) ?_
      refine aw_iload_n dX11_way_43 rfl ?_
      refine aw_ialdq (q := a.toNat) (v := I 14 a.toNat) dX11_way_44 ⟨Nat.le_of_ble_eq_true rfl, Nat.le_of_ble_eq_true rfl⟩ rfl (by omega) (by omega) (by decide) rfl rfl ?_
      refine aw_ireturn dX11_way_45 rfl ?_
      refine ⟨?_, rfl⟩
      first | rw [if_pos q1] | rw [if_neg q1]
      try ((repeat' split) <;> first | rfl | (exfalso; omega))
    · refine aw_tabIn (off := 35) (tgt := 46) dX11_way_11 (by first | assumption | (unfold ab_In at *; omega)) (by omega) (by omega) (by rw [c_11]; rfl) rfl ?_
      refine aw_aload_n dX11_way_46 rfl (by decide) ?_
      refine aw_getrv (r := 13) dX11_way_47 fX11_19 ⟨Nat.le_of_ble_eq_true rfl, Nat.le_of_ble_eq_true rfl⟩ rfl rfl (hF.at 1 1 13 rfl rfl rfl) ?_
      refine aw_getrv (r := 15) dX11_way_50 fX11_198 ⟨Nat.le_of_ble_eq_true rfl, Nat.le_of_ble_eq_true rfl⟩ rfl rfl (hF.at 13 5 15 rfl rfl rfl) ?_
      refine aw_iload_n dX11_way_53 rfl ?_
      refine aw_ialdq (q := a.toNat) (v := I 15 a.toNat) dX11_way_54 ⟨Nat.le_of_ble_eq_true rfl, Nat.le_of_ble_eq_true rfl⟩ rfl (by omega) (by omega) (by decide) rfl rfl ?_
      refine aw_ireturn dX11_way_55 rfl ?_
      refine ⟨?_, rfl⟩
      first | rw [if_pos q1] | rw [if_neg q1]
      try ((repeat' split) <;> first | rfl | (exfalso; omega))
    · refine aw_tabIn (off := 45) (tgt := 56) dX11_way_11 (by first | assumption | (unfold ab_In at *; omega)) (by omega) (by omega) (by rw [c_11]; rfl) rfl ?_
      refine aw_aload_n dX11_way_56 rfl (by decide) ?_
      refine aw_getrv (r := 13) dX11_way_57 fX11_19 ⟨Nat.le_of_ble_eq_true rfl, Nat.le_of_ble_eq_true rfl⟩ rfl rfl (hF.at 1 1 13 rfl rfl rfl) ?_
      refine aw_getrv (r := 16) dX11_way_60 fX11_201 ⟨Nat.le_of_ble_eq_true rfl, Nat.le_of_ble_eq_true rfl⟩ rfl rfl (hF.at 13 6 16 rfl rfl rfl) ?_
      refine aw_iload_n dX11_way_63 rfl ?_
      refine aw_ialdq (q := a.toNat) (v := I 16 a.toNat) dX11_way_64 ⟨Nat.le_of_ble_eq_true rfl, Nat.le_of_ble_eq_true rfl⟩ rfl (by omega) (by omega) (by decide) rfl rfl ?_
      refine aw_ireturn dX11_way_65 rfl ?_
      refine ⟨?_, rfl⟩
      first | rw [if_pos q1] | rw [if_neg q1]
      try ((repeat' split) <;> first | rfl | (exfalso; omega))
    · refine aw_tabOut (tgt := 66) dX11_way_11 (by first | assumption | (unfold ab_In at *; omega)) c_11 rfl ?_
      refine aw_bipush dX11_way_66 rfl ?_
      refine aw_ireturn dX11_way_68 rfl ?_
      refine ⟨?_, rfl⟩
      first | rw [if_pos q1] | rw [if_neg q1]
      try ((repeat' split) <;> first | rfl | (exfalso; omega))
  · rw [if_neg q1] at e9
    subst e9
    refine aw_if_ne (tgt := 10) dX11_way_4 rfl ⟨by decide, by decide⟩ (fun c9 => absurd rfl c9) (fun _ => ?_)
    refine aw_bipush dX11_way_7 rfl ?_
    refine aw_ireturn dX11_way_9 rfl ?_
    refine ⟨?_, rfl⟩
    first | rw [if_pos q1] | rw [if_neg q1]
    try ((repeat' split) <;> first | rfl | (exfalso; omega))
set_option maxHeartbeats 4000000 in
set_option maxRecDepth 100000 in
theorem ct_X12_way_bad (G : ab_G) (I : Nat → Nat → Int) (F : Nat → Nat → Nat) (hF : ab_FB F) (a : Int) (ha : ab_In a) (b : Int) (hb : ab_In b)  (hbad : ¬ ((0 ≤ a ∧ a ≤ 3) ∧ (0 ≤ b ∧ b ≤ 2))) : Ct G 2 0 0 YX12_way [ab_r 84, ab_i a, ab_i b] (104, I, F) (fun r h => r = some (ab_i (if 0 ≤ a ∧ a ≤ 3 then -3 else -2)) ∧ h = (104, I, F)) := by
  refine Ct.ofW kX12_way (ls := [some (ab_r 84), some (ab_i a), some (ab_i b)]) (Nat.le_of_ble_eq_true rfl) rfl ?_
  refine aw_iload_n dX12_way_0 rfl ?_
  refine aw_callS (as := [ab_i a]) (rest := []) dX12_way_1 (ct_X12_isFour G (104, I, F) a (by first | assumption | (unfold ab_In at *; omega))) kX12_isFour sX12_isFour lX12_79 rfl (Nat.le_of_ble_eq_true rfl) (by decide) (by decide) (by decide) (by decide) ?_
  rintro r9 _ ⟨e9, rfl⟩
  by_cases q1 : 0 ≤ a ∧ a ≤ 3
  · rw [if_pos q1] at e9
    subst e9
    refine aw_if_ne (tgt := 10) dX12_way_4 rfl ⟨by decide, by decide⟩ (fun _ => ?_) (fun c9 => absurd c9 (by decide))
    refine aw_iload_n dX12_way_10 rfl ?_
    refine aw_iconst dX12_way_11 ?_
    refine aw_iconst dX12_way_12 ?_
    refine aw_callS (as := [ab_i b, ab_i 0, ab_i 2]) (rest := []) dX12_way_13 (ct_X12_in G (104, I, F) b 0 2 (by first | assumption | (unfold ab_In at *; omega)) (by first | assumption | (unfold ab_In at *; omega)) (by first | assumption | (unfold ab_In at *; omega))) kX12_in sX12_in lX12_75 rfl (Nat.le_of_ble_eq_true rfl) (by decide) (by decide) (by decide) (by decide) ?_
    rintro r9 _ ⟨e9, rfl⟩
    by_cases q2 : 0 ≤ b ∧ b ≤ 2
    · rw [if_pos q2] at e9
      subst e9
      refine aw_if_eq (tgt := 34) dX12_way_16 rfl ⟨by decide, by decide⟩ (fun c9 => absurd c9 (by decide)) (fun _ => ?_)
      exfalso; omega
    · rw [if_neg q2] at e9
      subst e9
      refine aw_if_eq (tgt := 34) dX12_way_16 rfl ⟨by decide, by decide⟩ (fun _ => ?_) (fun c9 => absurd (by decide) c9)
      refine aw_bipush dX12_way_34 rfl ?_
      refine aw_ireturn dX12_way_36 rfl ?_
      exact ⟨by first | rw [if_pos (by omega)] | rw [if_neg (by omega)] | rfl, rfl⟩
  · rw [if_neg q1] at e9
    subst e9
    refine aw_if_ne (tgt := 10) dX12_way_4 rfl ⟨by decide, by decide⟩ (fun c9 => absurd rfl c9) (fun _ => ?_)
    refine aw_bipush dX12_way_7 rfl ?_
    refine aw_ireturn dX12_way_9 rfl ?_
    exact ⟨by first | rw [if_pos (by omega)] | rw [if_neg (by omega)] | rfl, rfl⟩
set_option maxHeartbeats 4000000 in
set_option maxRecDepth 100000 in
theorem ct_X12_way (G : ab_G) (I : Nat → Nat → Int) (F : Nat → Nat → Nat) (hF : ab_FB F) (s w : Nat) (hs : s < 4) (hw : w < 3) : Ct G 2 0 0 YX12_way [ab_r 84, ab_i (s : Int), ab_i (w : Int)] (104, I, F) (fun r h => r = some (ab_i (I 95 (4 + 3 * s + w))) ∧ h = (104, I, F)) := by
  refine Ct.ofW kX12_way (ls := [some (ab_r 84), some (ab_i (s : Int)), some (ab_i (w : Int))]) (Nat.le_of_ble_eq_true rfl) rfl ?_
  refine aw_iload_n dX12_way_0 rfl ?_
  refine aw_callS (as := [ab_i (s : Int)]) (rest := []) dX12_way_1 (ct_X12_isFour G (104, I, F) (s : Int) (by first | assumption | (unfold ab_In at *; omega))) kX12_isFour sX12_isFour lX12_79 rfl (Nat.le_of_ble_eq_true rfl) (by decide) (by decide) (by decide) (by decide) ?_
  rintro r9 _ ⟨e9, rfl⟩
  rw [if_pos (by omega)] at e9
  subst e9
  refine aw_if_ne (tgt := 10) dX12_way_4 rfl ⟨by decide, by decide⟩ (fun _ => ?_) (fun c9 => absurd c9 (by decide))
  refine aw_iload_n dX12_way_10 rfl ?_
  refine aw_iconst dX12_way_11 ?_
  refine aw_iconst dX12_way_12 ?_
  refine aw_callS (as := [ab_i (w : Int), ab_i 0, ab_i 2]) (rest := []) dX12_way_13 (ct_X12_in G (104, I, F) (w : Int) 0 2 (by first | assumption | (unfold ab_In at *; omega)) (by first | assumption | (unfold ab_In at *; omega)) (by first | assumption | (unfold ab_In at *; omega))) kX12_in sX12_in lX12_75 rfl (Nat.le_of_ble_eq_true rfl) (by decide) (by decide) (by decide) (by decide) ?_
  rintro r9 _ ⟨e9, rfl⟩
  rw [if_pos (by omega)] at e9
  subst e9
  refine aw_if_eq (tgt := 34) dX12_way_16 rfl ⟨by decide, by decide⟩ (fun c9 => absurd c9 (by decide)) (fun _ => ?_)
  refine aw_aload_n dX12_way_19 rfl (by decide) ?_
  refine aw_getrv (r := 95) dX12_way_20 fX12_41 ⟨Nat.le_of_ble_eq_true rfl, Nat.le_of_ble_eq_true rfl⟩ rfl rfl (hF.at 84 20 95 rfl rfl rfl) ?_
  refine aw_iconst dX12_way_23 ?_
  refine aw_iconst dX12_way_24 ?_
  refine aw_iload_n dX12_way_25 rfl ?_
  refine aw_imul dX12_way_26 ?_
  refine aw_iadd dX12_way_27 ?_
  refine aw_iload_n dX12_way_28 rfl ?_
  refine aw_iadd dX12_way_29 ?_
  refine aw_ialdq (q := (4 + 3 * s + w)) (v := I 95 (4 + 3 * s + w)) dX12_way_30 ⟨Nat.le_of_ble_eq_true rfl, Nat.le_of_ble_eq_true rfl⟩ rfl (by omega) (by omega) (by decide) (by omega) rfl ?_
  refine aw_goto (tgt := 36) dX12_way_31 rfl ?_
  refine aw_ireturn dX12_way_36 rfl ?_
  exact ⟨rfl, rfl⟩
set_option maxHeartbeats 4000000 in
set_option maxRecDepth 100000 in
theorem pr_way (G : ab_G) (I : Nat → Nat → Int) (F : Nat → Nat → Nat) (c : Nat) (h : INV c I F) (hc : c ≤ 600) (a : Int) (ha : ab_In a) (b : Int) (hb : ab_In b) : Pair G 2 2 YX11_way YX12_way [ab_i a, ab_i b] ab_i c I F := by
  refine (ct_X11_way G I F h.1 a b ha hb).mono ?_
  rintro _ _ ⟨rfl, rfl⟩
  refine ⟨_, _, _, rfl, rfl, ?_⟩
  by_cases hv9 : (0 ≤ a ∧ a ≤ 3) ∧ (0 ≤ b ∧ b ≤ 2)
  · obtain ⟨s, rfl⟩ : ∃ s : Nat, a = s := ⟨a.toNat, by omega⟩
    obtain ⟨w, rfl⟩ : ∃ w : Nat, b = w := ⟨b.toNat, by omega⟩
    refine (ct_X12_way G _ F h.1 s w (by omega) (by omega)).mono ?_
    rintro _ _ ⟨rfl, rfl⟩
    refine ⟨?_, _, _, rfl, h.up (by omega)⟩
    have hr := h.2.2.2.2.1.2 s (by omega)
    rw [if_pos hv9.1, Int.toNat_natCast]
    rcases (show w = 0 ∨ w = 1 ∨ w = 2 by omega) with rfl | rfl | rfl
    · rw [if_pos (by omega), hr.1]; rfl
    · rw [if_neg (by omega), if_pos (by omega), hr.2.1, show 4 + 3 * s + 1 = 5 + 3 * s by omega]
    · rw [if_neg (by omega), if_neg (by omega), if_pos (by omega), hr.2.2, show 4 + 3 * s + 2 = 6 + 3 * s by omega]
  · refine (ct_X12_way_bad G _ F h.1 a ha b hb hv9).mono ?_
    rintro _ _ ⟨rfl, rfl⟩
    refine ⟨?_, _, _, rfl, h.up (by omega)⟩
    by_cases q : 0 ≤ a ∧ a ≤ 3
    · rw [if_pos q, if_pos q, if_neg (by omega), if_neg (by omega), if_neg (by omega)]
    · rw [if_neg q, if_neg q]
set_option maxHeartbeats 4000000 in
set_option maxRecDepth 100000 in
theorem ct_X11_count (G : ab_G) (I : Nat → Nat → Int) (F : Nat → Nat → Nat) (hF : ab_FB F) (a : Int) (ha : ab_In a) : Ct G 0 0 0 YX11_count [ab_r 1, ab_i a] (104, I, F) (fun r h => r = some (ab_i (if a = 0 then I 23 3 else if a = 1 then I 23 2 else if a = 2 then I 9 1 else if a = 3 then I 11 1 else if a = 4 then I 21 1 else if a = 5 then I 76 3 else if a = 6 then I 23 4 else -3)) ∧ h = (104, I, F)) := by
  refine Ct.ofW kX11_count (ls := [some (ab_r 1), some (ab_i a)]) (Nat.le_of_ble_eq_true rfl) rfl ?_
  refine aw_iload_n dX11_count_0 rfl ?_
  rcases (show a = 0 ∨ a = 1 ∨ a = 2 ∨ a = 3 ∨ a = 4 ∨ a = 5 ∨ a = 6 ∨ (a < 0 ∨ 6 < a) by omega) with c_1 | c_1 | c_1 | c_1 | c_1 | c_1 | c_1 | c_1
  · refine aw_tabIn (off := 43) (tgt := 44) dX11_count_1 (by first | assumption | (unfold ab_In at *; omega)) (by omega) (by omega) (by rw [c_1]; rfl) rfl ?_
    refine aw_aload_n dX11_count_44 rfl (by decide) ?_
    refine aw_getrv (r := 23) dX11_count_45 fX11_38 ⟨Nat.le_of_ble_eq_true rfl, Nat.le_of_ble_eq_true rfl⟩ rfl rfl (hF.at 1 4 23 rfl rfl rfl) ?_
    refine aw_geti dX11_count_48 fX11_129 ⟨Nat.le_of_ble_eq_true rfl, Nat.le_of_ble_eq_true rfl⟩ rfl rfl ?_
    refine aw_ireturn dX11_count_51 rfl ?_
    exact ⟨by (repeat' split) <;> first | rfl | (exfalso; omega), rfl⟩
  · refine aw_tabIn (off := 51) (tgt := 52) dX11_count_1 (by first | assumption | (unfold ab_In at *; omega)) (by omega) (by omega) (by rw [c_1]; rfl) rfl ?_
    refine aw_aload_n dX11_count_52 rfl (by decide) ?_
    refine aw_getrv (r := 23) dX11_count_53 fX11_38 ⟨Nat.le_of_ble_eq_true rfl, Nat.le_of_ble_eq_true rfl⟩ rfl rfl (hF.at 1 4 23 rfl rfl rfl) ?_
    refine aw_geti dX11_count_56 fX11_125 ⟨Nat.le_of_ble_eq_true rfl, Nat.le_of_ble_eq_true rfl⟩ rfl rfl ?_
    refine aw_ireturn dX11_count_59 rfl ?_
    exact ⟨by (repeat' split) <;> first | rfl | (exfalso; omega), rfl⟩
  · refine aw_tabIn (off := 59) (tgt := 60) dX11_count_1 (by first | assumption | (unfold ab_In at *; omega)) (by omega) (by omega) (by rw [c_1]; rfl) rfl ?_
    refine aw_aload_n dX11_count_60 rfl (by decide) ?_
    refine aw_getrv (r := 2) dX11_count_61 fX11_10 ⟨Nat.le_of_ble_eq_true rfl, Nat.le_of_ble_eq_true rfl⟩ rfl rfl (hF.at 1 0 2 rfl rfl rfl) ?_
    refine aw_getrv (r := 9) dX11_count_64 fX11_104 ⟨Nat.le_of_ble_eq_true rfl, Nat.le_of_ble_eq_true rfl⟩ rfl rfl (hF.at 2 2 9 rfl rfl rfl) ?_
    refine aw_geti dX11_count_67 fX11_275 ⟨Nat.le_of_ble_eq_true rfl, Nat.le_of_ble_eq_true rfl⟩ rfl rfl ?_
    refine aw_ireturn dX11_count_70 rfl ?_
    exact ⟨by (repeat' split) <;> first | rfl | (exfalso; omega), rfl⟩
  · refine aw_tabIn (off := 70) (tgt := 71) dX11_count_1 (by first | assumption | (unfold ab_In at *; omega)) (by omega) (by omega) (by rw [c_1]; rfl) rfl ?_
    refine aw_aload_n dX11_count_71 rfl (by decide) ?_
    refine aw_getrv (r := 2) dX11_count_72 fX11_10 ⟨Nat.le_of_ble_eq_true rfl, Nat.le_of_ble_eq_true rfl⟩ rfl rfl (hF.at 1 0 2 rfl rfl rfl) ?_
    refine aw_getrv (r := 11) dX11_count_75 fX11_118 ⟨Nat.le_of_ble_eq_true rfl, Nat.le_of_ble_eq_true rfl⟩ rfl rfl (hF.at 2 3 11 rfl rfl rfl) ?_
    refine aw_geti dX11_count_78 fX11_275 ⟨Nat.le_of_ble_eq_true rfl, Nat.le_of_ble_eq_true rfl⟩ rfl rfl ?_
    refine aw_ireturn dX11_count_81 rfl ?_
    exact ⟨by (repeat' split) <;> first | rfl | (exfalso; omega), rfl⟩
  · refine aw_tabIn (off := 81) (tgt := 82) dX11_count_1 (by first | assumption | (unfold ab_In at *; omega)) (by omega) (by omega) (by rw [c_1]; rfl) rfl ?_
    refine aw_aload_n dX11_count_82 rfl (by decide) ?_
    refine aw_getrv (r := 21) dX11_count_83 fX11_29 ⟨Nat.le_of_ble_eq_true rfl, Nat.le_of_ble_eq_true rfl⟩ rfl rfl (hF.at 1 3 21 rfl rfl rfl) ?_
    refine aw_geti dX11_count_86 fX11_169 ⟨Nat.le_of_ble_eq_true rfl, Nat.le_of_ble_eq_true rfl⟩ rfl rfl ?_
    refine aw_ireturn dX11_count_89 rfl ?_
    exact ⟨by (repeat' split) <;> first | rfl | (exfalso; omega), rfl⟩
  · refine aw_tabIn (off := 89) (tgt := 90) dX11_count_1 (by first | assumption | (unfold ab_In at *; omega)) (by omega) (by omega) (by rw [c_1]; rfl) rfl ?_
    refine aw_aload_n dX11_count_90 rfl (by decide) ?_
    refine aw_getrv (r := 76) dX11_count_91 fX11_62 ⟨Nat.le_of_ble_eq_true rfl, Nat.le_of_ble_eq_true rfl⟩ rfl rfl (hF.at 1 8 76 rfl rfl rfl) ?_
    refine aw_geti dX11_count_94 fX11_251 ⟨Nat.le_of_ble_eq_true rfl, Nat.le_of_ble_eq_true rfl⟩ rfl rfl ?_
    refine aw_ireturn dX11_count_97 rfl ?_
    exact ⟨by (repeat' split) <;> first | rfl | (exfalso; omega), rfl⟩
  · refine aw_tabIn (off := 97) (tgt := 98) dX11_count_1 (by first | assumption | (unfold ab_In at *; omega)) (by omega) (by omega) (by rw [c_1]; rfl) rfl ?_
    refine aw_aload_n dX11_count_98 rfl (by decide) ?_
    refine aw_getrv (r := 23) dX11_count_99 fX11_38 ⟨Nat.le_of_ble_eq_true rfl, Nat.le_of_ble_eq_true rfl⟩ rfl rfl (hF.at 1 4 23 rfl rfl rfl) ?_
    refine aw_geti dX11_count_102 fX11_276 ⟨Nat.le_of_ble_eq_true rfl, Nat.le_of_ble_eq_true rfl⟩ rfl rfl ?_
    refine aw_ireturn dX11_count_105 rfl ?_
    exact ⟨by (repeat' split) <;> first | rfl | (exfalso; omega), rfl⟩
  · refine aw_tabOut (tgt := 106) dX11_count_1 (by first | assumption | (unfold ab_In at *; omega)) c_1 rfl ?_
    refine aw_bipush dX11_count_106 rfl ?_
    refine aw_ireturn dX11_count_108 rfl ?_
    exact ⟨by (repeat' split) <;> first | rfl | (exfalso; omega), rfl⟩
set_option maxHeartbeats 4000000 in
set_option maxRecDepth 100000 in
theorem ct_X12_count (G : ab_G) (I : Nat → Nat → Int) (F : Nat → Nat → Nat) (hF : ab_FB F) (a : Int) (ha : ab_In a) : Ct G 0 0 0 YX12_count [ab_r 84, ab_i a] (104, I, F) (fun r h => r = some (ab_i (if a = 0 then I 89 86 else if a = 1 then I 89 84 else if a = 2 then I 84 2 else if a = 3 then I 84 4 else if a = 4 then I 84 10 else if a = 5 then I 84 25 else if a = 6 then I 89 85 else -3)) ∧ h = (104, I, F)) := by
  refine Ct.ofW kX12_count (ls := [some (ab_r 84), some (ab_i a)]) (Nat.le_of_ble_eq_true rfl) rfl ?_
  refine aw_iload_n dX12_count_0 rfl ?_
  rcases (show a = 0 ∨ a = 1 ∨ a = 2 ∨ a = 3 ∨ a = 4 ∨ a = 5 ∨ a = 6 ∨ (a < 0 ∨ 6 < a) by omega) with c_1 | c_1 | c_1 | c_1 | c_1 | c_1 | c_1 | c_1
  · refine aw_tabIn (off := 43) (tgt := 44) dX12_count_1 (by first | assumption | (unfold ab_In at *; omega)) (by omega) (by omega) (by rw [c_1]; rfl) rfl ?_
    refine aw_aload_n dX12_count_44 rfl (by decide) ?_
    refine aw_getrv (r := 89) dX12_count_45 fX12_22 ⟨Nat.le_of_ble_eq_true rfl, Nat.le_of_ble_eq_true rfl⟩ rfl rfl (hF.at 84 6 89 rfl rfl rfl) ?_
    refine aw_bipush dX12_count_48 rfl ?_
    refine aw_ialdq (q := 86) (v := I 89 86) dX12_count_50 ⟨Nat.le_of_ble_eq_true rfl, Nat.le_of_ble_eq_true rfl⟩ rfl (by omega) (by omega) (by decide) rfl rfl ?_
    refine aw_ireturn dX12_count_51 rfl ?_
    exact ⟨by (repeat' split) <;> first | rfl | (exfalso; omega), rfl⟩
  · refine aw_tabIn (off := 51) (tgt := 52) dX12_count_1 (by first | assumption | (unfold ab_In at *; omega)) (by omega) (by omega) (by rw [c_1]; rfl) rfl ?_
    refine aw_aload_n dX12_count_52 rfl (by decide) ?_
    refine aw_getrv (r := 89) dX12_count_53 fX12_22 ⟨Nat.le_of_ble_eq_true rfl, Nat.le_of_ble_eq_true rfl⟩ rfl rfl (hF.at 84 6 89 rfl rfl rfl) ?_
    refine aw_bipush dX12_count_56 rfl ?_
    refine aw_ialdq (q := 84) (v := I 89 84) dX12_count_58 ⟨Nat.le_of_ble_eq_true rfl, Nat.le_of_ble_eq_true rfl⟩ rfl (by omega) (by omega) (by decide) rfl rfl ?_
    refine aw_ireturn dX12_count_59 rfl ?_
    exact ⟨by (repeat' split) <;> first | rfl | (exfalso; omega), rfl⟩
  · refine aw_tabIn (off := 59) (tgt := 60) dX12_count_1 (by first | assumption | (unfold ab_In at *; omega)) (by omega) (by omega) (by rw [c_1]; rfl) rfl ?_
    refine aw_aload_n dX12_count_60 rfl (by decide) ?_
    refine aw_geti dX12_count_61 fX12_83 ⟨Nat.le_of_ble_eq_true rfl, Nat.le_of_ble_eq_true rfl⟩ rfl rfl ?_
    refine aw_ireturn dX12_count_64 rfl ?_
    exact ⟨by (repeat' split) <;> first | rfl | (exfalso; omega), rfl⟩
  · refine aw_tabIn (off := 64) (tgt := 65) dX12_count_1 (by first | assumption | (unfold ab_In at *; omega)) (by omega) (by omega) (by rw [c_1]; rfl) rfl ?_
    refine aw_aload_n dX12_count_65 rfl (by decide) ?_
    refine aw_geti dX12_count_66 fX12_87 ⟨Nat.le_of_ble_eq_true rfl, Nat.le_of_ble_eq_true rfl⟩ rfl rfl ?_
    refine aw_ireturn dX12_count_69 rfl ?_
    exact ⟨by (repeat' split) <;> first | rfl | (exfalso; omega), rfl⟩
  · refine aw_tabIn (off := 69) (tgt := 70) dX12_count_1 (by first | assumption | (unfold ab_In at *; omega)) (by omega) (by omega) (by rw [c_1]; rfl) rfl ?_
    refine aw_aload_n dX12_count_70 rfl (by decide) ?_
    refine aw_geti dX12_count_71 fX12_110 ⟨Nat.le_of_ble_eq_true rfl, Nat.le_of_ble_eq_true rfl⟩ rfl rfl ?_
    refine aw_ireturn dX12_count_74 rfl ?_
    exact ⟨by (repeat' split) <;> first | rfl | (exfalso; omega), rfl⟩
  · refine aw_tabIn (off := 74) (tgt := 75) dX12_count_1 (by first | assumption | (unfold ab_In at *; omega)) (by omega) (by omega) (by rw [c_1]; rfl) rfl ?_
    refine aw_aload_n dX12_count_75 rfl (by decide) ?_
    refine aw_geti dX12_count_76 fX12_238 ⟨Nat.le_of_ble_eq_true rfl, Nat.le_of_ble_eq_true rfl⟩ rfl rfl ?_
    refine aw_ireturn dX12_count_79 rfl ?_
    exact ⟨by (repeat' split) <;> first | rfl | (exfalso; omega), rfl⟩
  · refine aw_tabIn (off := 79) (tgt := 80) dX12_count_1 (by first | assumption | (unfold ab_In at *; omega)) (by omega) (by omega) (by rw [c_1]; rfl) rfl ?_
    refine aw_aload_n dX12_count_80 rfl (by decide) ?_
    refine aw_getrv (r := 89) dX12_count_81 fX12_22 ⟨Nat.le_of_ble_eq_true rfl, Nat.le_of_ble_eq_true rfl⟩ rfl rfl (hF.at 84 6 89 rfl rfl rfl) ?_
    refine aw_bipush dX12_count_84 rfl ?_
    refine aw_ialdq (q := 85) (v := I 89 85) dX12_count_86 ⟨Nat.le_of_ble_eq_true rfl, Nat.le_of_ble_eq_true rfl⟩ rfl (by omega) (by omega) (by decide) rfl rfl ?_
    refine aw_ireturn dX12_count_87 rfl ?_
    exact ⟨by (repeat' split) <;> first | rfl | (exfalso; omega), rfl⟩
  · refine aw_tabOut (tgt := 88) dX12_count_1 (by first | assumption | (unfold ab_In at *; omega)) c_1 rfl ?_
    refine aw_bipush dX12_count_88 rfl ?_
    refine aw_ireturn dX12_count_90 rfl ?_
    exact ⟨by (repeat' split) <;> first | rfl | (exfalso; omega), rfl⟩
set_option maxHeartbeats 4000000 in
set_option maxRecDepth 100000 in
theorem pr_count (G : ab_G) (I : Nat → Nat → Int) (F : Nat → Nat → Nat) (c : Nat) (h : INV c I F) (hc : c ≤ 600) (a : Int) (ha : ab_In a) : Pair G 0 0 YX11_count YX12_count [ab_i a] ab_i c I F := by
  obtain ⟨L, M, wk, nx, hC, hM⟩ := id h.2.2.2.2.2.2.2.2
  have hl := hC.2.2.1.length_eq
  refine (ct_X11_count G I F h.1 a ha).mono ?_
  rintro _ _ ⟨rfl, rfl⟩
  refine ⟨_, _, _, rfl, rfl, ?_⟩
  refine (ct_X12_count G _ F h.1 a ha).mono ?_
  rintro _ _ ⟨rfl, rfl⟩
  refine ⟨?_, _, _, rfl, h.up (by omega)⟩
  rw [hC.1.2.1.1, hC.1.2.1.2.1, hC.1.2.1.2.2, hC.2.1.2.1.1, hC.2.1.2.1.2.1, hC.2.1.2.1.2.2, hl, h.2.2.1.2.2.1, h.2.2.1.2.2.2.2.1, h.2.2.2.2.2.1.2.1, h.2.2.2.2.2.2.1.2.1]
set_option maxHeartbeats 4000000 in
set_option maxRecDepth 100000 in
theorem ct_X11_holder_bad (G : ab_G) (I : Nat → Nat → Int) (F : Nat → Nat → Nat) (hF : ab_FB F) (a : Int) (ha : ab_In a) (b : Int) (hb : ab_In b) (hr : 0 ≤ I 76 3 ∧ I 76 3 ≤ 8) (hbad : ¬ ((0 ≤ a ∧ a ≤ 3) ∧ (0 ≤ b ∧ b ≤ 3) ∧ I 76 3 < 8)) : Ct G 2 0 0 YX11_holder [ab_r 1, ab_i a, ab_i b] (104, I, F) (fun r h => r = some (ab_i (if (0 ≤ a ∧ a ≤ 3) ∧ (0 ≤ b ∧ b ≤ 3) then -5 else -2)) ∧ h = (104, I, F)) := by
  refine Ct.ofW kX11_holder (ls := [some (ab_r 1), some (ab_i a), some (ab_i b)]) (Nat.le_of_ble_eq_true rfl) rfl ?_
  refine aw_iload_n dX11_holder_0 rfl ?_
  refine aw_callS (as := [ab_i a]) (rest := []) dX11_holder_1 (ct_X11_isSort G (104, I, F) a (by first | assumption | (unfold ab_In at *; omega))) kX11_isSort sX11_isSort lX11_82 rfl (Nat.le_of_ble_eq_true rfl) (by decide) (by decide) (by decide) (by decide) ?_
  rintro r9 _ ⟨e9, rfl⟩
  by_cases q1 : 0 ≤ a ∧ a ≤ 3
  · rw [if_pos q1] at e9
    subst e9
    refine aw_if_eq (tgt := 14) dX11_holder_4 rfl ⟨by decide, by decide⟩ (fun c9 => absurd c9 (by decide)) (fun _ => ?_)
    refine aw_iload_n dX11_holder_7 rfl ?_
    refine aw_callS (as := [ab_i b]) (rest := []) dX11_holder_8 (ct_X11_isKind G (104, I, F) b (by first | assumption | (unfold ab_In at *; omega))) kX11_isKind sX11_isKind lX11_86 rfl (Nat.le_of_ble_eq_true rfl) (by decide) (by decide) (by decide) (by decide) ?_
    rintro r9 _ ⟨e9, rfl⟩
    by_cases q2 : 0 ≤ b ∧ b ≤ 3
    · rw [if_pos q2] at e9
      subst e9
      refine aw_if_ne (tgt := 17) dX11_holder_11 rfl ⟨by decide, by decide⟩ (fun _ => ?_) (fun c9 => absurd c9 (by decide))
      refine aw_aload_n dX11_holder_17 rfl (by decide) ?_
      refine aw_getrv (r := 76) dX11_holder_18 fX11_62 ⟨Nat.le_of_ble_eq_true rfl, Nat.le_of_ble_eq_true rfl⟩ rfl rfl (hF.at 1 8 76 rfl rfl rfl) ?_
      refine aw_geti dX11_holder_21 fX11_251 ⟨Nat.le_of_ble_eq_true rfl, Nat.le_of_ble_eq_true rfl⟩ rfl rfl ?_
      refine aw_bipush dX11_holder_24 rfl ?_
      refine aw_icmp_ne (tgt := 32) dX11_holder_26 rfl (by first | assumption | (unfold ab_In at *; omega)) (by first | assumption | (unfold ab_In at *; omega)) (fun c_26 => ?_) (fun c_26 => ?_)
      · exfalso; omega
      · refine aw_bipush dX11_holder_29 rfl ?_
        refine aw_ireturn dX11_holder_31 rfl ?_
        exact ⟨by first | rw [if_pos (by omega)] | rw [if_neg (by omega)] | rfl, rfl⟩
    · rw [if_neg q2] at e9
      subst e9
      refine aw_if_ne (tgt := 17) dX11_holder_11 rfl ⟨by decide, by decide⟩ (fun c9 => absurd rfl c9) (fun _ => ?_)
      refine aw_bipush dX11_holder_14 rfl ?_
      refine aw_ireturn dX11_holder_16 rfl ?_
      exact ⟨by first | rw [if_pos (by omega)] | rw [if_neg (by omega)] | rfl, rfl⟩
  · rw [if_neg q1] at e9
    subst e9
    refine aw_if_eq (tgt := 14) dX11_holder_4 rfl ⟨by decide, by decide⟩ (fun _ => ?_) (fun c9 => absurd (by decide) c9)
    refine aw_bipush dX11_holder_14 rfl ?_
    refine aw_ireturn dX11_holder_16 rfl ?_
    exact ⟨by first | rw [if_pos (by omega)] | rw [if_neg (by omega)] | rfl, rfl⟩
set_option maxHeartbeats 4000000 in
set_option maxRecDepth 100000 in
theorem ct_X12_holder_bad (G : ab_G) (I : Nat → Nat → Int) (F : Nat → Nat → Nat) (hF : ab_FB F) (a : Int) (ha : ab_In a) (b : Int) (hb : ab_In b) (hr : 0 ≤ I 84 25 ∧ I 84 25 ≤ 8) (hbad : ¬ ((0 ≤ a ∧ a ≤ 3) ∧ (0 ≤ b ∧ b ≤ 3) ∧ I 84 25 < 8)) : Ct G 2 0 0 YX12_holder [ab_r 84, ab_i a, ab_i b] (104, I, F) (fun r h => r = some (ab_i (if (0 ≤ a ∧ a ≤ 3) ∧ (0 ≤ b ∧ b ≤ 3) then -5 else -2)) ∧ h = (104, I, F)) := by
  refine Ct.ofW kX12_holder (ls := [some (ab_r 84), some (ab_i a), some (ab_i b)]) (Nat.le_of_ble_eq_true rfl) rfl ?_
  refine aw_iload_n dX12_holder_0 rfl ?_
  refine aw_callS (as := [ab_i a]) (rest := []) dX12_holder_1 (ct_X12_isFour G (104, I, F) a (by first | assumption | (unfold ab_In at *; omega))) kX12_isFour sX12_isFour lX12_79 rfl (Nat.le_of_ble_eq_true rfl) (by decide) (by decide) (by decide) (by decide) ?_
  rintro r9 _ ⟨e9, rfl⟩
  by_cases q1 : 0 ≤ a ∧ a ≤ 3
  · rw [if_pos q1] at e9
    subst e9
    refine aw_if_eq (tgt := 14) dX12_holder_4 rfl ⟨by decide, by decide⟩ (fun c9 => absurd c9 (by decide)) (fun _ => ?_)
    refine aw_iload_n dX12_holder_7 rfl ?_
    refine aw_callS (as := [ab_i b]) (rest := []) dX12_holder_8 (ct_X12_isFour G (104, I, F) b (by first | assumption | (unfold ab_In at *; omega))) kX12_isFour sX12_isFour lX12_79 rfl (Nat.le_of_ble_eq_true rfl) (by decide) (by decide) (by decide) (by decide) ?_
    rintro r9 _ ⟨e9, rfl⟩
    by_cases q2 : 0 ≤ b ∧ b ≤ 3
    · rw [if_pos q2] at e9
      subst e9
      refine aw_if_ne (tgt := 17) dX12_holder_11 rfl ⟨by decide, by decide⟩ (fun _ => ?_) (fun c9 => absurd c9 (by decide))
      refine aw_aload_n dX12_holder_17 rfl (by decide) ?_
      refine aw_geti dX12_holder_18 fX12_238 ⟨Nat.le_of_ble_eq_true rfl, Nat.le_of_ble_eq_true rfl⟩ rfl rfl ?_
      refine aw_bipush dX12_holder_21 rfl ?_
      refine aw_icmp_ne (tgt := 29) dX12_holder_23 rfl (by first | assumption | (unfold ab_In at *; omega)) (by first | assumption | (unfold ab_In at *; omega)) (fun c_23 => ?_) (fun c_23 => ?_)
      · exfalso; omega
      · refine aw_bipush dX12_holder_26 rfl ?_
        refine aw_ireturn dX12_holder_28 rfl ?_
        exact ⟨by first | rw [if_pos (by omega)] | rw [if_neg (by omega)] | rfl, rfl⟩
    · rw [if_neg q2] at e9
      subst e9
      refine aw_if_ne (tgt := 17) dX12_holder_11 rfl ⟨by decide, by decide⟩ (fun c9 => absurd rfl c9) (fun _ => ?_)
      refine aw_bipush dX12_holder_14 rfl ?_
      refine aw_ireturn dX12_holder_16 rfl ?_
      exact ⟨by first | rw [if_pos (by omega)] | rw [if_neg (by omega)] | rfl, rfl⟩
  · rw [if_neg q1] at e9
    subst e9
    refine aw_if_eq (tgt := 14) dX12_holder_4 rfl ⟨by decide, by decide⟩ (fun _ => ?_) (fun c9 => absurd (by decide) c9)
    refine aw_bipush dX12_holder_14 rfl ?_
    refine aw_ireturn dX12_holder_16 rfl ?_
    exact ⟨by first | rw [if_pos (by omega)] | rw [if_neg (by omega)] | rfl, rfl⟩
set_option maxHeartbeats 4000000 in
set_option maxRecDepth 100000 in
theorem ct_X2_add (G : ab_G) (I : Nat → Nat → Int) (F : Nat → Nat → Nat) (hF : ab_FB F) (s k N : Nat) (hN : I 76 3 = N) (hN8 : N < 8) : Ct G 0 0 0 YX2_add [ab_r 76, ab_i (s : Int), ab_i (k : Int)] (104, I, F) (fun r h => r = some (ab_i (N : Int)) ∧ h = (104, ab_u (ab_u (ab_u I 77 N (s : Int)) 78 N (k : Int)) 76 3 ((N : Int) + 1), F)) := by
  refine Ct.ofW kX2_add (ls := [some (ab_r 76), some (ab_i (s : Int)), some (ab_i (k : Int))]) (Nat.le_of_ble_eq_true rfl) rfl ?_
  refine aw_aload_n dX2_add_0 rfl (by decide) ?_
  refine aw_getiv (v := (N : Int)) dX2_add_1 fX2_18 ⟨Nat.le_of_ble_eq_true rfl, Nat.le_of_ble_eq_true rfl⟩ rfl rfl hN ?_
  refine aw_bipush dX2_add_4 rfl ?_
  refine aw_icmp_lt (tgt := 12) dX2_add_6 rfl (by first | assumption | (unfold ab_In at *; omega)) (by first | assumption | (unfold ab_In at *; omega)) (fun c_6 => ?_) (fun c_6 => ?_)
  · refine aw_aload_n dX2_add_12 rfl (by decide) ?_
    refine aw_getrv (r := 77) dX2_add_13 fX2_9 ⟨Nat.le_of_ble_eq_true rfl, Nat.le_of_ble_eq_true rfl⟩ rfl rfl (hF.at 76 1 77 rfl rfl rfl) ?_
    refine aw_aload_n dX2_add_16 rfl (by decide) ?_
    refine aw_getiv (v := (N : Int)) dX2_add_17 fX2_18 ⟨Nat.le_of_ble_eq_true rfl, Nat.le_of_ble_eq_true rfl⟩ rfl rfl hN ?_
    refine aw_iload_n dX2_add_20 rfl ?_
    refine aw_iastv (q := N) dX2_add_21 ⟨Nat.le_of_ble_eq_true rfl, Nat.le_of_ble_eq_true rfl⟩ rfl (by omega) (by omega) (by decide) rfl ?_
    refine aw_aload_n dX2_add_22 rfl (by decide) ?_
    refine aw_getrv (r := 78) dX2_add_23 fX2_15 ⟨Nat.le_of_ble_eq_true rfl, Nat.le_of_ble_eq_true rfl⟩ rfl rfl (hF.at 76 2 78 rfl rfl rfl) ?_
    refine aw_aload_n dX2_add_26 rfl (by decide) ?_
    refine aw_getiv (v := (N : Int)) dX2_add_27 fX2_18 ⟨Nat.le_of_ble_eq_true rfl, Nat.le_of_ble_eq_true rfl⟩ rfl rfl ((ab_u_i (by decide)).trans hN) ?_
    refine aw_iload_n dX2_add_30 rfl ?_
    refine aw_iastv (q := N) dX2_add_31 ⟨Nat.le_of_ble_eq_true rfl, Nat.le_of_ble_eq_true rfl⟩ rfl (by omega) (by omega) (by decide) rfl ?_
    refine aw_aload_n dX2_add_32 rfl (by decide) ?_
    refine aw_dup dX2_add_33 rfl ?_
    refine aw_getiv (v := (N : Int)) dX2_add_34 fX2_18 ⟨Nat.le_of_ble_eq_true rfl, Nat.le_of_ble_eq_true rfl⟩ rfl rfl (((ab_u_i (by decide)).trans (ab_u_i (by decide))).trans hN) ?_
    refine aw_iconst dX2_add_37 ?_
    refine aw_iadd dX2_add_38 ?_
    refine aw_puti dX2_add_39 fX2_18 ⟨Nat.le_of_ble_eq_true rfl, Nat.le_of_ble_eq_true rfl⟩ rfl rfl ?_
    refine aw_aload_n dX2_add_42 rfl (by decide) ?_
    refine aw_getiv (v := ((N : Int) + 1)) dX2_add_43 fX2_18 ⟨Nat.le_of_ble_eq_true rfl, Nat.le_of_ble_eq_true rfl⟩ rfl rfl ab_u_s ?_
    refine aw_iconst dX2_add_46 ?_
    refine aw_isub dX2_add_47 ?_
    refine aw_ireturn dX2_add_48 rfl ?_
    exact ⟨by rw [Int.add_sub_cancel], rfl⟩
  · exfalso; omega
set_option maxHeartbeats 4000000 in
set_option maxRecDepth 100000 in
theorem ct_X11_holder (G : ab_G) (I : Nat → Nat → Int) (F : Nat → Nat → Nat) (hF : ab_FB F) (s k N : Nat) (hs : s < 4) (hk : k < 4) (hN : I 76 3 = N) (hN8 : N < 8) : Ct G 2 0 0 YX11_holder [ab_r 1, ab_i (s : Int), ab_i (k : Int)] (104, I, F) (fun r h => r = some (ab_i (N : Int)) ∧ h = (104, ab_u (ab_u (ab_u I 77 N (s : Int)) 78 N (k : Int)) 76 3 ((N : Int) + 1), F)) := by
  refine Ct.ofW kX11_holder (ls := [some (ab_r 1), some (ab_i (s : Int)), some (ab_i (k : Int))]) (Nat.le_of_ble_eq_true rfl) rfl ?_
  refine aw_iload_n dX11_holder_0 rfl ?_
  refine aw_callS (as := [ab_i (s : Int)]) (rest := []) dX11_holder_1 (ct_X11_isSort G (104, I, F) (s : Int) (by first | assumption | (unfold ab_In at *; omega))) kX11_isSort sX11_isSort lX11_82 rfl (Nat.le_of_ble_eq_true rfl) (by decide) (by decide) (by decide) (by decide) ?_
  rintro r9 _ ⟨e9, rfl⟩
  rw [if_pos (by omega)] at e9
  subst e9
  refine aw_if_eq (tgt := 14) dX11_holder_4 rfl ⟨by decide, by decide⟩ (fun c9 => absurd c9 (by decide)) (fun _ => ?_)
  refine aw_iload_n dX11_holder_7 rfl ?_
  refine aw_callS (as := [ab_i (k : Int)]) (rest := []) dX11_holder_8 (ct_X11_isKind G (104, I, F) (k : Int) (by first | assumption | (unfold ab_In at *; omega))) kX11_isKind sX11_isKind lX11_86 rfl (Nat.le_of_ble_eq_true rfl) (by decide) (by decide) (by decide) (by decide) ?_
  rintro r9 _ ⟨e9, rfl⟩
  rw [if_pos (by omega)] at e9
  subst e9
  refine aw_if_ne (tgt := 17) dX11_holder_11 rfl ⟨by decide, by decide⟩ (fun _ => ?_) (fun c9 => absurd c9 (by decide))
  refine aw_aload_n dX11_holder_17 rfl (by decide) ?_
  refine aw_getrv (r := 76) dX11_holder_18 fX11_62 ⟨Nat.le_of_ble_eq_true rfl, Nat.le_of_ble_eq_true rfl⟩ rfl rfl (hF.at 1 8 76 rfl rfl rfl) ?_
  refine aw_getiv (v := (N : Int)) dX11_holder_21 fX11_251 ⟨Nat.le_of_ble_eq_true rfl, Nat.le_of_ble_eq_true rfl⟩ rfl rfl hN ?_
  refine aw_bipush dX11_holder_24 rfl ?_
  refine aw_icmp_ne (tgt := 32) dX11_holder_26 rfl (by first | assumption | (unfold ab_In at *; omega)) (by first | assumption | (unfold ab_In at *; omega)) (fun c_26 => ?_) (fun c_26 => ?_)
  · refine aw_aload_n dX11_holder_32 rfl (by decide) ?_
    refine aw_getrv (r := 76) dX11_holder_33 fX11_62 ⟨Nat.le_of_ble_eq_true rfl, Nat.le_of_ble_eq_true rfl⟩ rfl rfl (hF.at 1 8 76 rfl rfl rfl) ?_
    refine aw_iload_n dX11_holder_36 rfl ?_
    refine aw_iload_n dX11_holder_37 rfl ?_
    refine aw_callV (as := [ab_i (s : Int), ab_i (k : Int)]) (rest := []) dX11_holder_38 (ct_X2_add G I F hF s k N hN hN8) ⟨Nat.le_of_ble_eq_true rfl, Nat.le_of_ble_eq_true rfl⟩ rfl kc2 rfl kX2_add iX2_add eX2_add lX11_252 rfl (Nat.le_of_ble_eq_true rfl) (by decide) (by decide) (by decide) (by decide) ?_
    rintro _ _ ⟨rfl, rfl⟩
    refine aw_ireturn dX11_holder_41 rfl ?_
    exact ⟨rfl, rfl⟩
  · exfalso; omega
set_option maxHeartbeats 4000000 in
set_option maxRecDepth 100000 in
theorem ct_X12_holder (G : ab_G) (I : Nat → Nat → Int) (F : Nat → Nat → Nat) (hF : ab_FB F) (s k N : Nat) (hs : s < 4) (hk : k < 4) (hN : I 84 25 = N) (hN8 : N < 8) : Ct G 2 0 0 YX12_holder [ab_r 84, ab_i (s : Int), ab_i (k : Int)] (104, I, F) (fun r h => r = some (ab_i (N : Int)) ∧ h = (104, ab_u (ab_u (ab_u I 100 N (s : Int)) 101 N (k : Int)) 84 25 ((N : Int) + 1), F)) := by
  refine Ct.ofW kX12_holder (ls := [some (ab_r 84), some (ab_i (s : Int)), some (ab_i (k : Int))]) (Nat.le_of_ble_eq_true rfl) rfl ?_
  refine aw_iload_n dX12_holder_0 rfl ?_
  refine aw_callS (as := [ab_i (s : Int)]) (rest := []) dX12_holder_1 (ct_X12_isFour G (104, I, F) (s : Int) (by first | assumption | (unfold ab_In at *; omega))) kX12_isFour sX12_isFour lX12_79 rfl (Nat.le_of_ble_eq_true rfl) (by decide) (by decide) (by decide) (by decide) ?_
  rintro r9 _ ⟨e9, rfl⟩
  rw [if_pos (by omega)] at e9
  subst e9
  refine aw_if_eq (tgt := 14) dX12_holder_4 rfl ⟨by decide, by decide⟩ (fun c9 => absurd c9 (by decide)) (fun _ => ?_)
  refine aw_iload_n dX12_holder_7 rfl ?_
  refine aw_callS (as := [ab_i (k : Int)]) (rest := []) dX12_holder_8 (ct_X12_isFour G (104, I, F) (k : Int) (by first | assumption | (unfold ab_In at *; omega))) kX12_isFour sX12_isFour lX12_79 rfl (Nat.le_of_ble_eq_true rfl) (by decide) (by decide) (by decide) (by decide) ?_
  rintro r9 _ ⟨e9, rfl⟩
  rw [if_pos (by omega)] at e9
  subst e9
  refine aw_if_ne (tgt := 17) dX12_holder_11 rfl ⟨by decide, by decide⟩ (fun _ => ?_) (fun c9 => absurd c9 (by decide))
  refine aw_aload_n dX12_holder_17 rfl (by decide) ?_
  refine aw_getiv (v := (N : Int)) dX12_holder_18 fX12_238 ⟨Nat.le_of_ble_eq_true rfl, Nat.le_of_ble_eq_true rfl⟩ rfl rfl hN ?_
  refine aw_bipush dX12_holder_21 rfl ?_
  refine aw_icmp_ne (tgt := 29) dX12_holder_23 rfl (by first | assumption | (unfold ab_In at *; omega)) (by first | assumption | (unfold ab_In at *; omega)) (fun c_23 => ?_) (fun c_23 => ?_)
  · refine aw_aload_n dX12_holder_29 rfl (by decide) ?_
    refine aw_getrv (r := 100) dX12_holder_30 fX12_56 ⟨Nat.le_of_ble_eq_true rfl, Nat.le_of_ble_eq_true rfl⟩ rfl rfl (hF.at 84 26 100 rfl rfl rfl) ?_
    refine aw_aload_n dX12_holder_33 rfl (by decide) ?_
    refine aw_getiv (v := (N : Int)) dX12_holder_34 fX12_238 ⟨Nat.le_of_ble_eq_true rfl, Nat.le_of_ble_eq_true rfl⟩ rfl rfl hN ?_
    refine aw_iload_n dX12_holder_37 rfl ?_
    refine aw_iastv (q := N) dX12_holder_38 ⟨Nat.le_of_ble_eq_true rfl, Nat.le_of_ble_eq_true rfl⟩ rfl (by omega) (by omega) (by decide) rfl ?_
    refine aw_aload_n dX12_holder_39 rfl (by decide) ?_
    refine aw_getrv (r := 101) dX12_holder_40 fX12_59 ⟨Nat.le_of_ble_eq_true rfl, Nat.le_of_ble_eq_true rfl⟩ rfl rfl (hF.at 84 27 101 rfl rfl rfl) ?_
    refine aw_aload_n dX12_holder_43 rfl (by decide) ?_
    refine aw_getiv (v := (N : Int)) dX12_holder_44 fX12_238 ⟨Nat.le_of_ble_eq_true rfl, Nat.le_of_ble_eq_true rfl⟩ rfl rfl ((ab_u_i (by decide)).trans hN) ?_
    refine aw_iload_n dX12_holder_47 rfl ?_
    refine aw_iastv (q := N) dX12_holder_48 ⟨Nat.le_of_ble_eq_true rfl, Nat.le_of_ble_eq_true rfl⟩ rfl (by omega) (by omega) (by decide) rfl ?_
    refine aw_aload_n dX12_holder_49 rfl (by decide) ?_
    refine aw_dup dX12_holder_50 rfl ?_
    refine aw_getiv (v := (N : Int)) dX12_holder_51 fX12_238 ⟨Nat.le_of_ble_eq_true rfl, Nat.le_of_ble_eq_true rfl⟩ rfl rfl (((ab_u_i (by decide)).trans (ab_u_i (by decide))).trans hN) ?_
    refine aw_iconst dX12_holder_54 ?_
    refine aw_iadd dX12_holder_55 ?_
    refine aw_puti dX12_holder_56 fX12_238 ⟨Nat.le_of_ble_eq_true rfl, Nat.le_of_ble_eq_true rfl⟩ rfl rfl ?_
    refine aw_aload_n dX12_holder_59 rfl (by decide) ?_
    refine aw_getiv (v := ((N : Int) + 1)) dX12_holder_60 fX12_238 ⟨Nat.le_of_ble_eq_true rfl, Nat.le_of_ble_eq_true rfl⟩ rfl rfl ab_u_s ?_
    refine aw_iconst dX12_holder_63 ?_
    refine aw_isub dX12_holder_64 ?_
    refine aw_ireturn dX12_holder_65 rfl ?_
    exact ⟨by rw [Int.add_sub_cancel], rfl⟩
  · exfalso; omega
set_option maxHeartbeats 4000000 in
set_option maxRecDepth 100000 in
theorem pr_holder (G : ab_G) (I : Nat → Nat → Int) (F : Nat → Nat → Nat) (c : Nat) (h : INV c I F) (hc : c ≤ 600) (a : Int) (ha : ab_In a) (b : Int) (hb : ab_In b) : Pair G 2 2 YX11_holder YX12_holder [ab_i a, ab_i b] ab_i c I F := by
  have hh := h.2.2.2.2.2.2.1
  have h8 := hh.1
  by_cases hv9 : (0 ≤ a ∧ a ≤ 3) ∧ (0 ≤ b ∧ b ≤ 3) ∧ I 76 3 < 8
  · obtain ⟨s, rfl⟩ : ∃ s : Nat, a = s := ⟨a.toNat, by omega⟩
    obtain ⟨k, rfl⟩ : ∃ k : Nat, b = k := ⟨b.toNat, by omega⟩
    obtain ⟨N, hN⟩ : ∃ N : Nat, I 76 3 = N := ⟨(I 76 3).toNat, by omega⟩
    refine (ct_X11_holder G I F h.1 s k N (by omega) (by omega) hN (by omega)).mono ?_
    rintro _ _ ⟨rfl, rfl⟩
    refine ⟨_, _, _, rfl, rfl, ?_⟩
    refine (ct_X12_holder G _ F h.1 s k N (by omega) (by omega) (by rw [ab_u_o (by omega), ab_u_o (by omega), ab_u_o (by omega), hh.2.1]; exact hN) (by omega)).mono ?_
    rintro _ _ ⟨rfl, rfl⟩
    refine ⟨rfl, _, _, rfl, h.hold ⟨?_, ?_, fun j hj => ?_⟩ (fun i b q => by rw [ab_u_o (by omega), ab_u_o (by omega), ab_u_o (by omega), ab_u_o (by omega), ab_u_o (by omega), ab_u_o (by omega)])⟩
    · rw [ab_u_o (by omega), ab_u_o (by omega), ab_u_o (by omega), ab_u_s]; omega
    · rw [ab_u_s, ab_u_o (by omega), ab_u_o (by omega), ab_u_o (by omega), ab_u_s]
    · by_cases e : j = N
      · subst e
        rw [show ab_u (ab_u (ab_u (ab_u (ab_u (ab_u I 77 j (s : Int)) 78 j (k : Int)) 76 3 ((j : Int) + 1)) 100 j (s : Int)) 101 j (k : Int)) 84 25 ((j : Int) + 1) 100 j = (s : Int) by rw [ab_u_o (by omega), ab_u_o (by omega), ab_u_s], show ab_u (ab_u (ab_u (ab_u (ab_u (ab_u I 77 j (s : Int)) 78 j (k : Int)) 76 3 ((j : Int) + 1)) 100 j (s : Int)) 101 j (k : Int)) 84 25 ((j : Int) + 1) 101 j = (k : Int) by rw [ab_u_o (by omega), ab_u_s], show ab_u (ab_u (ab_u (ab_u (ab_u (ab_u I 77 j (s : Int)) 78 j (k : Int)) 76 3 ((j : Int) + 1)) 100 j (s : Int)) 101 j (k : Int)) 84 25 ((j : Int) + 1) 77 j = (s : Int) by rw [ab_u_o (by omega), ab_u_o (by omega), ab_u_o (by omega), ab_u_o (by omega), ab_u_o (by omega), ab_u_s], show ab_u (ab_u (ab_u (ab_u (ab_u (ab_u I 77 j (s : Int)) 78 j (k : Int)) 76 3 ((j : Int) + 1)) 100 j (s : Int)) 101 j (k : Int)) 84 25 ((j : Int) + 1) 78 j = (k : Int) by rw [ab_u_o (by omega), ab_u_o (by omega), ab_u_o (by omega), ab_u_o (by omega), ab_u_s]]
        exact ⟨⟨rfl, rfl⟩, hv9.1, hv9.2.1⟩
      · have ee : ∀ i, 77 ≤ i → i ≠ 84 → ab_u (ab_u (ab_u (ab_u (ab_u (ab_u I 77 N (s : Int)) 78 N (k : Int)) 76 3 ((N : Int) + 1)) 100 N (s : Int)) 101 N (k : Int)) 84 25 ((N : Int) + 1) i j = I i j := fun i h1 h2 => by rw [ab_u_o (by omega), ab_u_o (by omega), ab_u_o (by omega), ab_u_o (by omega), ab_u_o (by omega), ab_u_o (by omega)]
        rw [ee 100 (by omega) (by omega), ee 101 (by omega) (by omega), ee 77 (by omega) (by omega), ee 78 (by omega) (by omega)]; exact hh.2.2 j hj
  · refine (ct_X11_holder_bad G I F h.1 a ha b hb h8 hv9).mono ?_
    rintro _ _ ⟨rfl, rfl⟩
    refine ⟨_, _, _, rfl, rfl, ?_⟩
    refine (ct_X12_holder_bad G I F h.1 a ha b hb (by rw [hh.2.1]; exact h8) (by rw [hh.2.1]; exact hv9)).mono ?_
    rintro _ _ ⟨rfl, rfl⟩
    exact ⟨rfl, _, _, rfl, h.up (by omega)⟩
