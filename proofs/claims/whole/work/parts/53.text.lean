theorem DRm.up3 {I K : Nat → Nat → Int} {r : Nat → Int} {s a9 : Nat} {a b c : Int} (h : DRm I r) (ha : a9 = 4 + 3 * s) (h1 : K 94 a9 = a) (h2 : K 94 (a9 + 1) = b) (h3 : K 94 (a9 + 2) = c) (h4 : ∀ q, q ≠ a9 → q ≠ a9 + 1 → q ≠ a9 + 2 → K 94 q = I 94 q) : DRm K (up3 r s a b c) := by
  subst ha
  intro j hj
  show K 94 j = if j = 4 + 3 * s + 2 then c else if j = 4 + 3 * s + 1 then b else if j = 4 + 3 * s then a else r j
  by_cases e1 : j = 4 + 3 * s + 2
  · rw [if_pos e1, e1]; exact h3
  · rw [if_neg e1]
    by_cases e2 : j = 4 + 3 * s + 1
    · rw [if_pos e2, e2]; exact h2
    · rw [if_neg e2]
      by_cases e3 : j = 4 + 3 * s
      · rw [if_pos e3, e3]; exact h1
      · rw [if_neg e3, h4 j e3 e2 e1]; exact h j hj
theorem INV.rules {c : Nat} {I J : Nat → Nat → Int} {F : Nat → Nat → Nat} (h : INV c I F) (hB : RB 13 J) (hI : IVr J) (hx : IVx J) (h0 : J 65 5 = 0) (he : ∀ i b, i ≤ 12 ∨ (23 ≤ i ∧ i ≤ 43) ∨ (53 ≤ i ∧ i ≤ 64) ∨ (76 ≤ i ∧ i ≤ 78) ∨ (i = 84 ∧ (b = 2 ∨ b = 4 ∨ b = 25)) ∨ (85 ≤ i ∧ i ≤ 89) ∨ i = 100 ∨ i = 101 → J i b = I i b) : INV (c + 1) J F := by
  obtain ⟨h1, h2, h3, h4, h5, h6, h7, h8, L, M, wk, nx, h9, h10⟩ := h
  exact ⟨h1, h2.ofc (fun i b q1 q2 => he i b (by omega)), h3.of (fun i b q => he i b (by omega)), hB, hI, hx, h7.of (fun i b q => he i b (by omega)), h8.of (fun i b q => he i b (by omega)), L, M, wk, nx, h9.of (by omega) (fun i b q => he i b (by omega)), Or.inl h0⟩
theorem INV.tx {c : Nat} {I : Nat → Nat → Int} {F : Nat → Nat → Nat} (h : INV c I F) : ∃ n : Nat, TXx (I 22) n I ∧ ∀ J, (∀ b, J 93 b = I 93 b) → J 84 10 = I 84 10 → RXx (I 22) n J := by
  obtain ⟨h1, h2, h3⟩ := h.2.2.2.2.2.1
  refine ⟨(I 21 1).toNat, ⟨by omega, by omega, fun j hj => ⟨rfl, (h3 j (by omega) (by omega)).2⟩⟩, fun J hj1 hj2 => ⟨by rw [hj2, h2]; omega, by omega, fun j hj => ⟨by rw [hj1]; exact (h3 j (by omega) (by omega)).1, (h3 j (by omega) (by omega)).2⟩⟩⟩
theorem rb_of {J K : Nat → Nat → Int} {r : Nat → Int} (hB : RBr r) (h0 : ∀ b, K 13 b = J 13 b) (h1 : ∀ b, K 14 b = J 14 b) (h2 : ∀ b, K 15 b = J 15 b) (h3 : ∀ b, K 16 b = J 16 b) (j13 : J 13 0 = r 0 ∧ J 13 1 = r 1 ∧ J 13 2 = r 2 ∧ J 13 3 = r 3) (j14 : ∀ s, s < 4 → J 14 s = r (4 + 3 * s) ∧ J 15 s = r (5 + 3 * s) ∧ J 16 s = r (6 + 3 * s)) : RB 13 K := by
  obtain ⟨b0, b1, b2, b3, b4⟩ := hB
  unfold RB
  rw [h0, h0, h0, h0, j13.1, j13.2.1, j13.2.2.1, j13.2.2.2]
  refine ⟨b0, b1, b2, b3, fun s hs => ?_⟩
  show (0 ≤ K 14 s ∧ K 14 s ≤ 2) ∧ (0 ≤ K 15 s ∧ K 15 s ≤ 99) ∧ 0 ≤ K 16 s ∧ K 16 s ≤ 9
  rw [h1, h2, h3, (j14 s hs).1, (j14 s hs).2.1, (j14 s hs).2.2]
  exact b4 s hs
set_option maxHeartbeats 4000000 in
set_option maxRecDepth 100000 in
theorem ct_X12_isWay (G : ab_G) (I : Nat → Nat → Int) (F : Nat → Nat → Nat) (hF : ab_FB F) (f : Nat → Int) (n : Nat) (hX : RXx f n I) (p : Nat) (hp : p ≤ n) (he : I 84 12 = (p : Int)) (r : Nat → Int) (hD : DRm I r) : Ct G 3 0 0 YX12_isWay [ab_r 84] (104, I, F) (fun rr h => ENDm F n I (wyA f n p r (nuT f n p 3)) rr h) := by
  refine Ct.ofW kX12_isWay (ls := [some (ab_r 84), none]) (Nat.le_of_ble_eq_true rfl) rfl ?_
  generalize hZ : ab_Z G (fun rr h => ENDm F n I (wyA f n p r (nuT f n p 3)) rr h) 0 0 = Z
  have heb := te_bd (f := f) hp
  have hp2 := (te_bd (f := f) heb.2).2
  have hp3 := (te_bd (f := f) hp2).2
  have hp4 := (te_bd (f := f) hp3).2
  have e11 : pcT 11 = 1132 := pc_lit.2.2.2.2.2.2.2.2.2.2.2.1
  have e12 : pcT 12 = 1503 := pc_lit.2.2.2.2.2.2.2.2.2.2.2.2.1
  have e13 : pcT 13 = 119163 := pc_lit.2.2.2.2.2.2.2.2.2.2.2.2.2.1
  refine aw_aload_n dX12_isWay_0 rfl (by decide) ?_
  refine aw_callV (as := []) (rest := []) dX12_isWay_1 (ct_X12_nextToken G I F hF f n hX p hp he) ⟨Nat.le_of_ble_eq_true rfl, Nat.le_of_ble_eq_true rfl⟩ rfl kc12 rfl kX12_nextToken iX12_nextToken eX12_nextToken lX12_146 rfl (Nat.le_of_ble_eq_true rfl) (by decide) (by decide) (by decide) (by decide) ?_
  rintro _ _ ⟨rfl, J1, rfl, g1, a12, a13, a14, a16⟩
  have tb := tk_bd (f := f) (n := n) p
  have hl := lcmp_iff (x := tkT f n p) (y := -1) (by unfold ab_Il; omega) (by unfold ab_Il; omega)
  have X1 := hX.of g1.mf.vf
  refine aw_aload_n dX12_isWay_4 rfl (by decide) ?_
  refine aw_getlv (v := (tkT f n p)) dX12_isWay_5 fX12_129 ⟨Nat.le_of_ble_eq_true rfl, Nat.le_of_ble_eq_true rfl⟩ rfl rfl a14 ?_
  refine aw_ldc2 (z := (-1)) dX12_isWay_8 nX12_139 ?_
  refine aw_lcmp dX12_isWay_11 ?_
  refine aw_if_ne (tgt := 23) dX12_isWay_12 rfl (by first | assumption | (unfold ab_In at *; omega)) (fun c_12 => ?_) (fun c_12 => ?_)
  · refine aw_aload_n dX12_isWay_23 rfl (by decide) ?_
    refine aw_callV (as := []) (rest := []) dX12_isWay_24 (ct_X12_fails G J1 F) ⟨Nat.le_of_ble_eq_true rfl, Nat.le_of_ble_eq_true rfl⟩ rfl kc12 rfl kX12_fails iX12_fails eX12_fails lX12_149 rfl (Nat.le_of_ble_eq_true rfl) (by decide) (by decide) (by decide) (by decide) ?_
    rintro _ _ ⟨rfl, rfl⟩
    rw [← hZ]
    refine aw_breturn dX12_isWay_27 rfl (by omega) ?_
    refine ⟨_, rfl, fun i b q1 q2 => by rw [ab_u_o (by omega)]; exact g1 i b (by omega), Or.inl ⟨_, ?_, rfl, by rw [ab_u_s]; exact a13⟩⟩
    rw [wyA, if_pos]
    unfold nuT; rw [if_neg]
    rintro ⟨q1, q2⟩
    have q3 := a16 q1
    omega
  · refine aw_aload_n dX12_isWay_15 rfl (by decide) ?_
    refine aw_geti dX12_isWay_16 fX12_124 ⟨Nat.le_of_ble_eq_true rfl, Nat.le_of_ble_eq_true rfl⟩ rfl rfl ?_
    refine aw_iconst dX12_isWay_19 ?_
    refine aw_icmp_le (tgt := 28) dX12_isWay_20 rfl (by rw [a16 (by omega)]; have := nm_bd (f := f) (n := n) (p := p) (by omega); unfold ab_In; omega) (by unfold ab_In; omega) (fun c_20 => ?_) (fun c_20 => ?_)
    · have q1 : tkT f n p = -1 := by omega
      have q3 := a16 q1
      have hnb := nm_bd q1
      have hnu : nuT f n p 3 = nmT f n p := by unfold nuT; rw [if_pos ⟨q1, by omega⟩]
      obtain ⟨s, hs0⟩ : ∃ s : Nat, nmT f n p = s := ⟨(nmT f n p).toNat, by omega⟩
      rw [hs0] at hnu q3
      have hs : s < 4 := by omega
      have v1 : ¬ nuT f n p 3 = -1 := by rw [hnu]; omega
      obtain ⟨a9, ha9⟩ : ∃ a9 : Nat, a9 = 4 + 3 * s := ⟨_, rfl⟩
      refine aw_iconst dX12_isWay_28 ?_
      refine aw_iconst dX12_isWay_29 ?_
      refine aw_aload_n dX12_isWay_30 rfl (by decide) ?_
      refine aw_geti dX12_isWay_31 fX12_124 ⟨Nat.le_of_ble_eq_true rfl, Nat.le_of_ble_eq_true rfl⟩ rfl rfl ?_
      refine aw_imul dX12_isWay_34 ?_
      refine aw_iadd dX12_isWay_35 ?_
      refine aw_to (z := (a9 : Int)) (by rw [q3]; omega) ?_
      refine aw_istore_n (ls' := [some (ab_r 84), some (ab_i (a9 : Int))]) dX12_isWay_36 (by decide) rfl ?_
      refine aw_aload_n dX12_isWay_37 rfl (by decide) ?_
      refine aw_iload_n dX12_isWay_38 rfl ?_
      refine aw_ldc2 (z := 1132) dX12_isWay_39 nX12_153 ?_
      refine aw_ldc2 (z := 1503) dX12_isWay_42 nX12_155 ?_
      refine aw_ldc2 (z := 119163) dX12_isWay_45 nX12_157 ?_
      refine aw_callV (as := [ab_i (a9 : Int), ab_l 1132, ab_l 1503, ab_l 119163]) (rest := []) dX12_isWay_48 (ct_X12_isOf G J1 F hF f n X1 (teT f n p) heb.2 a12 a9 (by omega) 1132 1503 119163 (by unfold ab_Il; omega) (by unfold ab_Il; omega) (by unfold ab_Il; omega)) ⟨Nat.le_of_ble_eq_true rfl, Nat.le_of_ble_eq_true rfl⟩ rfl kc12 rfl kX12_isOf iX12_isOf eX12_isOf lX12_159 rfl (Nat.le_of_ble_eq_true rfl) (by decide) (by decide) (by decide) (by decide) ?_
      rintro r9 _ ⟨J2, rfl, g2, hh9⟩
      have cb := ch_bd (f := f) (n := n) (teT f n p) 1132 1503 119163
      rcases (show chT f n (teT f n p) 1132 1503 119163 = -1 ∨ chT f n (teT f n p) 1132 1503 119163 = 0 ∨ chT f n (teT f n p) 1132 1503 119163 = 1 ∨ chT f n (teT f n p) 1132 1503 119163 = 2 by omega) with hc | hc | hc | hc
      · rw [hc] at hh9
        obtain ⟨_, e9, f17⟩ := hh9.resolve_right (fun q => q.1 rfl)
        subst e9
        refine aw_if_ne (tgt := 56) dX12_isWay_51 rfl ⟨by decide, by decide⟩ (fun c9 => absurd rfl c9) (fun _ => ?_)
        refine aw_iconst dX12_isWay_54 ?_
        rw [← hZ]
        refine aw_breturn dX12_isWay_55 rfl (by omega) ?_
        exact ⟨_, rfl, (g1.mf.trans g2), Or.inl ⟨_, by rw [wyA, if_neg v1, e11, e12, e13, hnu]; show wyB f n (teT f n p) r s (chT f n (teT f n p) 1132 1503 119163) = _; rw [wyB, hc, if_pos rfl], rfl, f17⟩⟩
      · rw [hc] at hh9
        obtain ⟨_, e9, b12, b94, b9⟩ := hh9.resolve_left (fun q => absurd q.1 (by decide))
        subst e9
        refine aw_if_ne (tgt := 56) dX12_isWay_51 rfl ⟨by decide, by decide⟩ (fun _ => ?_) (fun c9 => absurd c9 (by decide))
        refine aw_aload_n dX12_isWay_56 rfl (by decide) ?_
        refine aw_getrv (r := 94) dX12_isWay_57 fX12_38 ⟨Nat.le_of_ble_eq_true rfl, Nat.le_of_ble_eq_true rfl⟩ rfl rfl (hF.at 84 19 94 rfl rfl rfl) ?_
        refine aw_iload_n dX12_isWay_60 rfl ?_
        refine aw_iconst dX12_isWay_61 ?_
        refine aw_iadd dX12_isWay_62 ?_
        refine aw_iconst dX12_isWay_63 ?_
        refine aw_iastv (q := (a9 + 1)) dX12_isWay_64 ⟨Nat.le_of_ble_eq_true rfl, Nat.le_of_ble_eq_true rfl⟩ rfl (by omega) (by omega) (by decide) (by omega) ?_
        refine aw_aload_n dX12_isWay_65 rfl (by decide) ?_
        refine aw_getrv (r := 94) dX12_isWay_66 fX12_38 ⟨Nat.le_of_ble_eq_true rfl, Nat.le_of_ble_eq_true rfl⟩ rfl rfl (hF.at 84 19 94 rfl rfl rfl) ?_
        refine aw_iload_n dX12_isWay_69 rfl ?_
        refine aw_iconst dX12_isWay_70 ?_
        refine aw_iadd dX12_isWay_71 ?_
        refine aw_iconst dX12_isWay_72 ?_
        refine aw_iastv (q := (a9 + 2)) dX12_isWay_73 ⟨Nat.le_of_ble_eq_true rfl, Nat.le_of_ble_eq_true rfl⟩ rfl (by omega) (by omega) (by decide) (by omega) ?_
        have X3 : RXx f n (ab_u (ab_u J2 94 (a9 + 1) 0) 94 (a9 + 2) 0) := X1.of (fun i b q1 q2 => by rw [ab_u_i q2, ab_u_i q2]; exact g2.vf i b q1 q2)
        have m12 : (ab_u (ab_u J2 94 (a9 + 1) 0) 94 (a9 + 2) 0) 84 12 = (teT f n (teT f n p) : Int) := by rw [ab_u_i (by decide), ab_u_i (by decide)]; exact b12
        refine aw_aload_n dX12_isWay_74 rfl (by decide) ?_
        refine aw_getrv (r := 94) dX12_isWay_75 fX12_38 ⟨Nat.le_of_ble_eq_true rfl, Nat.le_of_ble_eq_true rfl⟩ rfl rfl (hF.at 84 19 94 rfl rfl rfl) ?_
        refine aw_iload_n dX12_isWay_78 rfl ?_
        refine aw_ialdq (q := a9) (v := 0) dX12_isWay_79 ⟨Nat.le_of_ble_eq_true rfl, Nat.le_of_ble_eq_true rfl⟩ rfl (by omega) (by omega) (by decide) rfl (((ab_u_j (by omega)).trans (ab_u_j (by omega))).trans b94) ?_
        refine aw_if_eq (tgt := 117) dX12_isWay_80 rfl ⟨by decide, by decide⟩ (fun _ => ?_) (fun c9 => absurd (by decide) c9)
        refine aw_iconst dX12_isWay_117 ?_
        refine aw_goto (tgt := 122) dX12_isWay_118 rfl ?_
        rw [← hZ]
        refine aw_breturn dX12_isWay_122 rfl (by omega) ?_
        exact ⟨_, rfl, (fun i b q1 q2 => by rw [ab_u_i q2, ab_u_i q2]; exact (g1.mf.trans g2) i b q1 q2 : MFx I (ab_u (ab_u J2 94 (a9 + 1) 0) 94 (a9 + 2) 0)), Or.inr ⟨_, _, by rw [wyA, if_neg v1, e11, e12, e13, hnu]; show wyB f n (teT f n p) r s (chT f n (teT f n p) 1132 1503 119163) = _; rw [wyB, hc, if_neg (by decide), if_pos rfl], rfl, hp2, by rw [ab_u_i (by decide), ab_u_i (by decide)]; exact b12, DRm.up3 hD ha9 (by rw [ab_u_j (by omega), ab_u_j (by omega)]; exact b94) (by rw [ab_u_j (by omega), ab_u_s]) (by rw [ab_u_s]) (fun q h1 h2 h3 => by rw [ab_u_j h3, ab_u_j h2, b9 q h1]; exact g1 94 q (by omega))⟩⟩
      · rw [hc] at hh9
        obtain ⟨_, e9, b12, b94, b9⟩ := hh9.resolve_left (fun q => absurd q.1 (by decide))
        subst e9
        refine aw_if_ne (tgt := 56) dX12_isWay_51 rfl ⟨by decide, by decide⟩ (fun _ => ?_) (fun c9 => absurd c9 (by decide))
        refine aw_aload_n dX12_isWay_56 rfl (by decide) ?_
        refine aw_getrv (r := 94) dX12_isWay_57 fX12_38 ⟨Nat.le_of_ble_eq_true rfl, Nat.le_of_ble_eq_true rfl⟩ rfl rfl (hF.at 84 19 94 rfl rfl rfl) ?_
        refine aw_iload_n dX12_isWay_60 rfl ?_
        refine aw_iconst dX12_isWay_61 ?_
        refine aw_iadd dX12_isWay_62 ?_
        refine aw_iconst dX12_isWay_63 ?_
        refine aw_iastv (q := (a9 + 1)) dX12_isWay_64 ⟨Nat.le_of_ble_eq_true rfl, Nat.le_of_ble_eq_true rfl⟩ rfl (by omega) (by omega) (by decide) (by omega) ?_
        refine aw_aload_n dX12_isWay_65 rfl (by decide) ?_
        refine aw_getrv (r := 94) dX12_isWay_66 fX12_38 ⟨Nat.le_of_ble_eq_true rfl, Nat.le_of_ble_eq_true rfl⟩ rfl rfl (hF.at 84 19 94 rfl rfl rfl) ?_
        refine aw_iload_n dX12_isWay_69 rfl ?_
        refine aw_iconst dX12_isWay_70 ?_
        refine aw_iadd dX12_isWay_71 ?_
        refine aw_iconst dX12_isWay_72 ?_
        refine aw_iastv (q := (a9 + 2)) dX12_isWay_73 ⟨Nat.le_of_ble_eq_true rfl, Nat.le_of_ble_eq_true rfl⟩ rfl (by omega) (by omega) (by decide) (by omega) ?_
        have X3 : RXx f n (ab_u (ab_u J2 94 (a9 + 1) 0) 94 (a9 + 2) 0) := X1.of (fun i b q1 q2 => by rw [ab_u_i q2, ab_u_i q2]; exact g2.vf i b q1 q2)
        have m12 : (ab_u (ab_u J2 94 (a9 + 1) 0) 94 (a9 + 2) 0) 84 12 = (teT f n (teT f n p) : Int) := by rw [ab_u_i (by decide), ab_u_i (by decide)]; exact b12
        refine aw_aload_n dX12_isWay_74 rfl (by decide) ?_
        refine aw_getrv (r := 94) dX12_isWay_75 fX12_38 ⟨Nat.le_of_ble_eq_true rfl, Nat.le_of_ble_eq_true rfl⟩ rfl rfl (hF.at 84 19 94 rfl rfl rfl) ?_
        refine aw_iload_n dX12_isWay_78 rfl ?_
        refine aw_ialdq (q := a9) (v := 1) dX12_isWay_79 ⟨Nat.le_of_ble_eq_true rfl, Nat.le_of_ble_eq_true rfl⟩ rfl (by omega) (by omega) (by decide) rfl (((ab_u_j (by omega)).trans (ab_u_j (by omega))).trans b94) ?_
        refine aw_if_eq (tgt := 117) dX12_isWay_80 rfl ⟨by decide, by decide⟩ (fun c9 => absurd c9 (by decide)) (fun _ => ?_)
        refine aw_aload_n dX12_isWay_83 rfl (by decide) ?_
        refine aw_iload_n dX12_isWay_84 rfl ?_
        refine aw_iconst dX12_isWay_85 ?_
        refine aw_iadd dX12_isWay_86 ?_
        refine aw_to (z := ((a9 + 1 : Nat) : Int)) rfl ?_
        refine aw_bipush dX12_isWay_87 rfl ?_
        refine aw_callV (as := [ab_i ((a9 + 1 : Nat) : Int), ab_i 99]) (rest := []) dX12_isWay_89 (ct_X12_isNumber G (ab_u (ab_u J2 94 (a9 + 1) 0) 94 (a9 + 2) 0) F hF f n X3 (teT f n (teT f n p)) hp2 m12 (a9 + 1) (by omega) 99 (by unfold ab_In; omega)) ⟨Nat.le_of_ble_eq_true rfl, Nat.le_of_ble_eq_true rfl⟩ rfl kc12 rfl kX12_isNumber iX12_isNumber eX12_isNumber lX12_163 rfl (Nat.le_of_ble_eq_true rfl) (by decide) (by decide) (by decide) (by decide) ?_
        rintro r9 _ ⟨J4, rfl, g4, hh9⟩
        have hR : wyB f n (teT f n p) r s (chT f n (teT f n p) 1132 1503 119163) = wyC f n (teT f n (teT f n p)) r s (chT f n (teT f n p) 1132 1503 119163) (nuT f n (teT f n (teT f n p)) 99) := by rw [wyB, hc, if_neg (by decide), if_neg (by decide)]
        by_cases v3 : nuT f n (teT f n (teT f n p)) 99 = -1
        · obtain ⟨_, e9, f17⟩ := hh9.resolve_right (fun q => q.1 v3)
          subst e9
          refine aw_if_eq (tgt := 121) dX12_isWay_92 rfl ⟨by decide, by decide⟩ (fun _ => ?_) (fun c9 => absurd (by decide) c9)
          refine aw_iconst dX12_isWay_121 ?_
          rw [← hZ]
          refine aw_breturn dX12_isWay_122 rfl (by omega) ?_
          exact ⟨_, rfl, MFx.trans (fun i b q1 q2 => by rw [ab_u_i q2, ab_u_i q2]; exact (g1.mf.trans g2) i b q1 q2 : MFx I (ab_u (ab_u J2 94 (a9 + 1) 0) 94 (a9 + 2) 0)) g4, Or.inl ⟨_, by rw [wyA, if_neg v1, e11, e12, e13, hnu]; show wyB f n (teT f n p) r s (chT f n (teT f n p) 1132 1503 119163) = _; rw [hR, wyC, if_pos v3], rfl, f17⟩⟩
        · obtain ⟨_, e9, c12, c94, c9⟩ := hh9.resolve_left (fun q => v3 q.1)
          subst e9
          have r4 : J4 94 a9 = J2 94 a9 := by rw [c9 a9 (by omega), ab_u_j (by omega), ab_u_j (by omega)]
          rw [b94] at r4
          have X4 := X3.of g4.vf
          refine aw_if_eq (tgt := 121) dX12_isWay_92 rfl ⟨by decide, by decide⟩ (fun c9 => absurd c9 (by decide)) (fun _ => ?_)
          refine aw_aload_n dX12_isWay_95 rfl (by decide) ?_
          refine aw_getrv (r := 94) dX12_isWay_96 fX12_38 ⟨Nat.le_of_ble_eq_true rfl, Nat.le_of_ble_eq_true rfl⟩ rfl rfl (hF.at 84 19 94 rfl rfl rfl) ?_
          refine aw_iload_n dX12_isWay_99 rfl ?_
          refine aw_ialdq (q := a9) (v := 1) dX12_isWay_100 ⟨Nat.le_of_ble_eq_true rfl, Nat.le_of_ble_eq_true rfl⟩ rfl (by omega) (by omega) (by decide) rfl r4 ?_
          refine aw_iconst dX12_isWay_101 ?_
          refine aw_icmp_eq (tgt := 117) dX12_isWay_102 rfl ⟨by decide, by decide⟩ ⟨by decide, by decide⟩ (fun _ => ?_) (fun c9 => absurd (by decide) c9)
          refine aw_iconst dX12_isWay_117 ?_
          refine aw_goto (tgt := 122) dX12_isWay_118 rfl ?_
          rw [← hZ]
          refine aw_breturn dX12_isWay_122 rfl (by omega) ?_
          exact ⟨_, rfl, MFx.trans (fun i b q1 q2 => by rw [ab_u_i q2, ab_u_i q2]; exact (g1.mf.trans g2) i b q1 q2 : MFx I (ab_u (ab_u J2 94 (a9 + 1) 0) 94 (a9 + 2) 0)) g4, Or.inr ⟨_, _, by rw [wyA, if_neg v1, e11, e12, e13, hnu]; show wyB f n (teT f n p) r s (chT f n (teT f n p) 1132 1503 119163) = _; rw [hR, wyC, if_neg v3, hc, if_pos rfl], rfl, hp3, c12, DRm.up3 hD ha9 r4 c94 (by rw [c9 _ (by omega), ab_u_s]) (fun q h1 h2 h3 => by rw [c9 q h2, ab_u_j h3, ab_u_j h2, b9 q h1]; exact g1 94 q (by omega))⟩⟩
      · rw [hc] at hh9
        obtain ⟨_, e9, b12, b94, b9⟩ := hh9.resolve_left (fun q => absurd q.1 (by decide))
        subst e9
        refine aw_if_ne (tgt := 56) dX12_isWay_51 rfl ⟨by decide, by decide⟩ (fun _ => ?_) (fun c9 => absurd c9 (by decide))
        refine aw_aload_n dX12_isWay_56 rfl (by decide) ?_
        refine aw_getrv (r := 94) dX12_isWay_57 fX12_38 ⟨Nat.le_of_ble_eq_true rfl, Nat.le_of_ble_eq_true rfl⟩ rfl rfl (hF.at 84 19 94 rfl rfl rfl) ?_
        refine aw_iload_n dX12_isWay_60 rfl ?_
        refine aw_iconst dX12_isWay_61 ?_
        refine aw_iadd dX12_isWay_62 ?_
        refine aw_iconst dX12_isWay_63 ?_
        refine aw_iastv (q := (a9 + 1)) dX12_isWay_64 ⟨Nat.le_of_ble_eq_true rfl, Nat.le_of_ble_eq_true rfl⟩ rfl (by omega) (by omega) (by decide) (by omega) ?_
        refine aw_aload_n dX12_isWay_65 rfl (by decide) ?_
        refine aw_getrv (r := 94) dX12_isWay_66 fX12_38 ⟨Nat.le_of_ble_eq_true rfl, Nat.le_of_ble_eq_true rfl⟩ rfl rfl (hF.at 84 19 94 rfl rfl rfl) ?_
        refine aw_iload_n dX12_isWay_69 rfl ?_
        refine aw_iconst dX12_isWay_70 ?_
        refine aw_iadd dX12_isWay_71 ?_
        refine aw_iconst dX12_isWay_72 ?_
        refine aw_iastv (q := (a9 + 2)) dX12_isWay_73 ⟨Nat.le_of_ble_eq_true rfl, Nat.le_of_ble_eq_true rfl⟩ rfl (by omega) (by omega) (by decide) (by omega) ?_
        have X3 : RXx f n (ab_u (ab_u J2 94 (a9 + 1) 0) 94 (a9 + 2) 0) := X1.of (fun i b q1 q2 => by rw [ab_u_i q2, ab_u_i q2]; exact g2.vf i b q1 q2)
        have m12 : (ab_u (ab_u J2 94 (a9 + 1) 0) 94 (a9 + 2) 0) 84 12 = (teT f n (teT f n p) : Int) := by rw [ab_u_i (by decide), ab_u_i (by decide)]; exact b12
        refine aw_aload_n dX12_isWay_74 rfl (by decide) ?_
        refine aw_getrv (r := 94) dX12_isWay_75 fX12_38 ⟨Nat.le_of_ble_eq_true rfl, Nat.le_of_ble_eq_true rfl⟩ rfl rfl (hF.at 84 19 94 rfl rfl rfl) ?_
        refine aw_iload_n dX12_isWay_78 rfl ?_
        refine aw_ialdq (q := a9) (v := 2) dX12_isWay_79 ⟨Nat.le_of_ble_eq_true rfl, Nat.le_of_ble_eq_true rfl⟩ rfl (by omega) (by omega) (by decide) rfl (((ab_u_j (by omega)).trans (ab_u_j (by omega))).trans b94) ?_
        refine aw_if_eq (tgt := 117) dX12_isWay_80 rfl ⟨by decide, by decide⟩ (fun c9 => absurd c9 (by decide)) (fun _ => ?_)
        refine aw_aload_n dX12_isWay_83 rfl (by decide) ?_
        refine aw_iload_n dX12_isWay_84 rfl ?_
        refine aw_iconst dX12_isWay_85 ?_
        refine aw_iadd dX12_isWay_86 ?_
        refine aw_to (z := ((a9 + 1 : Nat) : Int)) rfl ?_
        refine aw_bipush dX12_isWay_87 rfl ?_
        refine aw_callV (as := [ab_i ((a9 + 1 : Nat) : Int), ab_i 99]) (rest := []) dX12_isWay_89 (ct_X12_isNumber G (ab_u (ab_u J2 94 (a9 + 1) 0) 94 (a9 + 2) 0) F hF f n X3 (teT f n (teT f n p)) hp2 m12 (a9 + 1) (by omega) 99 (by unfold ab_In; omega)) ⟨Nat.le_of_ble_eq_true rfl, Nat.le_of_ble_eq_true rfl⟩ rfl kc12 rfl kX12_isNumber iX12_isNumber eX12_isNumber lX12_163 rfl (Nat.le_of_ble_eq_true rfl) (by decide) (by decide) (by decide) (by decide) ?_
        rintro r9 _ ⟨J4, rfl, g4, hh9⟩
        have hR : wyB f n (teT f n p) r s (chT f n (teT f n p) 1132 1503 119163) = wyC f n (teT f n (teT f n p)) r s (chT f n (teT f n p) 1132 1503 119163) (nuT f n (teT f n (teT f n p)) 99) := by rw [wyB, hc, if_neg (by decide), if_neg (by decide)]
        by_cases v3 : nuT f n (teT f n (teT f n p)) 99 = -1
        · obtain ⟨_, e9, f17⟩ := hh9.resolve_right (fun q => q.1 v3)
          subst e9
          refine aw_if_eq (tgt := 121) dX12_isWay_92 rfl ⟨by decide, by decide⟩ (fun _ => ?_) (fun c9 => absurd (by decide) c9)
          refine aw_iconst dX12_isWay_121 ?_
          rw [← hZ]
          refine aw_breturn dX12_isWay_122 rfl (by omega) ?_
          exact ⟨_, rfl, MFx.trans (fun i b q1 q2 => by rw [ab_u_i q2, ab_u_i q2]; exact (g1.mf.trans g2) i b q1 q2 : MFx I (ab_u (ab_u J2 94 (a9 + 1) 0) 94 (a9 + 2) 0)) g4, Or.inl ⟨_, by rw [wyA, if_neg v1, e11, e12, e13, hnu]; show wyB f n (teT f n p) r s (chT f n (teT f n p) 1132 1503 119163) = _; rw [hR, wyC, if_pos v3], rfl, f17⟩⟩
        · obtain ⟨_, e9, c12, c94, c9⟩ := hh9.resolve_left (fun q => v3 q.1)
          subst e9
          have r4 : J4 94 a9 = J2 94 a9 := by rw [c9 a9 (by omega), ab_u_j (by omega), ab_u_j (by omega)]
          rw [b94] at r4
          have X4 := X3.of g4.vf
          refine aw_if_eq (tgt := 121) dX12_isWay_92 rfl ⟨by decide, by decide⟩ (fun c9 => absurd c9 (by decide)) (fun _ => ?_)
          refine aw_aload_n dX12_isWay_95 rfl (by decide) ?_
          refine aw_getrv (r := 94) dX12_isWay_96 fX12_38 ⟨Nat.le_of_ble_eq_true rfl, Nat.le_of_ble_eq_true rfl⟩ rfl rfl (hF.at 84 19 94 rfl rfl rfl) ?_
          refine aw_iload_n dX12_isWay_99 rfl ?_
          refine aw_ialdq (q := a9) (v := 2) dX12_isWay_100 ⟨Nat.le_of_ble_eq_true rfl, Nat.le_of_ble_eq_true rfl⟩ rfl (by omega) (by omega) (by decide) rfl r4 ?_
          refine aw_iconst dX12_isWay_101 ?_
          refine aw_icmp_eq (tgt := 117) dX12_isWay_102 rfl ⟨by decide, by decide⟩ ⟨by decide, by decide⟩ (fun c9 => absurd c9 (by decide)) (fun _ => ?_)
          refine aw_aload_n dX12_isWay_105 rfl (by decide) ?_
          refine aw_iload_n dX12_isWay_106 rfl ?_
          refine aw_iconst dX12_isWay_107 ?_
          refine aw_iadd dX12_isWay_108 ?_
          refine aw_to (z := ((a9 + 2 : Nat) : Int)) rfl ?_
          refine aw_bipush dX12_isWay_109 rfl ?_
          refine aw_callV (as := [ab_i ((a9 + 2 : Nat) : Int), ab_i 9]) (rest := []) dX12_isWay_111 (ct_X12_isNumber G J4 F hF f n X4 (teT f n (teT f n (teT f n p))) hp3 c12 (a9 + 2) (by omega) 9 (by unfold ab_In; omega)) ⟨Nat.le_of_ble_eq_true rfl, Nat.le_of_ble_eq_true rfl⟩ rfl kc12 rfl kX12_isNumber iX12_isNumber eX12_isNumber lX12_163 rfl (Nat.le_of_ble_eq_true rfl) (by decide) (by decide) (by decide) (by decide) ?_
          rintro r9 _ ⟨J5, rfl, g5, hh9⟩
          by_cases v4 : nuT f n (teT f n (teT f n (teT f n p))) 9 = -1
          · obtain ⟨_, e9, f17⟩ := hh9.resolve_right (fun q => q.1 v4)
            subst e9
            refine aw_if_eq (tgt := 121) dX12_isWay_114 rfl ⟨by decide, by decide⟩ (fun _ => ?_) (fun c9 => absurd (by decide) c9)
            refine aw_iconst dX12_isWay_121 ?_
            rw [← hZ]
            refine aw_breturn dX12_isWay_122 rfl (by omega) ?_
            exact ⟨_, rfl, MFx.trans (MFx.trans (fun i b q1 q2 => by rw [ab_u_i q2, ab_u_i q2]; exact (g1.mf.trans g2) i b q1 q2 : MFx I (ab_u (ab_u J2 94 (a9 + 1) 0) 94 (a9 + 2) 0)) g4) g5, Or.inl ⟨_, by rw [wyA, if_neg v1, e11, e12, e13, hnu]; show wyB f n (teT f n p) r s (chT f n (teT f n p) 1132 1503 119163) = _; rw [hR, wyC, if_neg v3, hc, if_neg (by decide), wyD, if_pos v4], rfl, f17⟩⟩
          · obtain ⟨_, e9, d12, d94, d9⟩ := hh9.resolve_left (fun q => v4 q.1)
            subst e9
            refine aw_if_eq (tgt := 121) dX12_isWay_114 rfl ⟨by decide, by decide⟩ (fun c9 => absurd c9 (by decide)) (fun _ => ?_)
            refine aw_iconst dX12_isWay_117 ?_
            refine aw_goto (tgt := 122) dX12_isWay_118 rfl ?_
            rw [← hZ]
            refine aw_breturn dX12_isWay_122 rfl (by omega) ?_
            exact ⟨_, rfl, MFx.trans (MFx.trans (fun i b q1 q2 => by rw [ab_u_i q2, ab_u_i q2]; exact (g1.mf.trans g2) i b q1 q2 : MFx I (ab_u (ab_u J2 94 (a9 + 1) 0) 94 (a9 + 2) 0)) g4) g5, Or.inr ⟨_, _, by rw [wyA, if_neg v1, e11, e12, e13, hnu]; show wyB f n (teT f n p) r s (chT f n (teT f n p) 1132 1503 119163) = _; rw [hR, wyC, if_neg v3, hc, if_neg (by decide), wyD, if_neg v4], rfl, hp4, d12, DRm.up3 hD ha9 (by rw [d9 _ (by omega)]; exact r4) (by rw [d9 _ (by omega)]; exact c94) d94 (fun q h1 h2 h3 => by rw [d9 q h3, c9 q h2, ab_u_j h3, ab_u_j h2, b9 q h1]; exact g1 94 q (by omega))⟩⟩
    · refine aw_aload_n dX12_isWay_23 rfl (by decide) ?_
      refine aw_callV (as := []) (rest := []) dX12_isWay_24 (ct_X12_fails G J1 F) ⟨Nat.le_of_ble_eq_true rfl, Nat.le_of_ble_eq_true rfl⟩ rfl kc12 rfl kX12_fails iX12_fails eX12_fails lX12_149 rfl (Nat.le_of_ble_eq_true rfl) (by decide) (by decide) (by decide) (by decide) ?_
      rintro _ _ ⟨rfl, rfl⟩
      rw [← hZ]
      refine aw_breturn dX12_isWay_27 rfl (by omega) ?_
      refine ⟨_, rfl, fun i b q1 q2 => by rw [ab_u_o (by omega)]; exact g1 i b (by omega), Or.inl ⟨_, ?_, rfl, by rw [ab_u_s]; exact a13⟩⟩
      rw [wyA, if_pos]
      unfold nuT; rw [if_neg]
      rintro ⟨q1, q2⟩
      have q3 := a16 q1
      omega
set_option maxHeartbeats 4000000 in
set_option maxRecDepth 100000 in
theorem ct_X12_isLine (G : ab_G) (I : Nat → Nat → Int) (F : Nat → Nat → Nat) (hF : ab_FB F) (f : Nat → Int) (n : Nat) (hX : RXx f n I) (p : Nat) (hp : p ≤ n) (he : I 84 12 = (p : Int)) (r : Nat → Int) (hD : DRm I r) : Ct G 4 0 0 YX12_isLine [ab_r 84] (104, I, F) (fun rr h => ENDm F n I (lnT f n p r) rr h) := by
  refine Ct.ofW kX12_isLine (ls := [some (ab_r 84)]) (Nat.le_of_ble_eq_true rfl) rfl ?_
  generalize hZ : ab_Z G (fun rr h => ENDm F n I (lnT f n p r) rr h) 0 0 = Z
  have heb := te_bd (f := f) hp
  have hp2 := (te_bd (f := f) heb.2).2
  have hp3 := (te_bd (f := f) hp2).2
  have hp4 := (te_bd (f := f) hp3).2
  have e0 : pcT 0 = 8328978 := pc_lit.1
  have e1 : pcT 1 = 400577 := pc_lit.2.1
  have e2 : pcT 2 = 279346 := pc_lit.2.2.1
  have e3 : pcT 3 = 237742039 := pc_lit.2.2.2.1
  have e4 : pcT 4 = 286651 := pc_lit.2.2.2.2.1
  have e5 : pcT 5 = 399641 := pc_lit.2.2.2.2.2.1
  have e6 : pcT 6 = 4027 := pc_lit.2.2.2.2.2.2.1
  have e7 : pcT 7 = 40187 := pc_lit.2.2.2.2.2.2.2.1
  have e8 : pcT 8 = 388609 := pc_lit.2.2.2.2.2.2.2.2.1
  have e9 : pcT 9 = 151331 := pc_lit.2.2.2.2.2.2.2.2.2.1
  have e10 : pcT 10 = 16819 := pc_lit.2.2.2.2.2.2.2.2.2.2.1
  refine aw_aload_n dX12_isLine_0 rfl (by decide) ?_
  refine aw_callV (as := []) (rest := []) dX12_isLine_1 (ct_X12_nextToken G I F hF f n hX p hp he) ⟨Nat.le_of_ble_eq_true rfl, Nat.le_of_ble_eq_true rfl⟩ rfl kc12 rfl kX12_nextToken iX12_nextToken eX12_nextToken lX12_146 rfl (Nat.le_of_ble_eq_true rfl) (by decide) (by decide) (by decide) (by decide) ?_
  rintro _ _ ⟨rfl, J1, rfl, g1, a12, a13, a14, a16⟩
  have tb := tk_bd (f := f) (n := n) p
  have X1 := hX.of g1.mf.vf
  have D1 : DRm J1 r := fun k hk => (g1 94 k (by omega)).trans (hD k hk)
  have hl0 := lcmp_iff (x := tkT f n p) (y := 8328978) (by unfold ab_Il; omega) (by unfold ab_Il; omega)
  have hl4 := lcmp_iff (x := tkT f n p) (y := 286651) (by unfold ab_Il; omega) (by unfold ab_Il; omega)
  have hl5 := lcmp_iff (x := tkT f n p) (y := 399641) (by unfold ab_Il; omega) (by unfold ab_Il; omega)
  have hl9 := lcmp_iff (x := tkT f n p) (y := 151331) (by unfold ab_Il; omega) (by unfold ab_Il; omega)
  have hl10 := lcmp_iff (x := tkT f n p) (y := 16819) (by unfold ab_Il; omega) (by unfold ab_Il; omega)
  refine aw_aload_n dX12_isLine_4 rfl (by decide) ?_
  refine aw_getlv (v := (tkT f n p)) dX12_isLine_5 fX12_129 ⟨Nat.le_of_ble_eq_true rfl, Nat.le_of_ble_eq_true rfl⟩ rfl rfl a14 ?_
  refine aw_ldc2 (z := 8328978) dX12_isLine_8 nX12_166 ?_
  refine aw_lcmp dX12_isLine_11 ?_
  refine aw_if_ne (tgt := 30) dX12_isLine_12 rfl (by first | assumption | (unfold ab_In at *; omega)) (fun c_12 => ?_) (fun c_12 => ?_)
  · refine aw_aload_n dX12_isLine_30 rfl (by decide) ?_
    refine aw_getlv (v := (tkT f n p)) dX12_isLine_31 fX12_129 ⟨Nat.le_of_ble_eq_true rfl, Nat.le_of_ble_eq_true rfl⟩ rfl rfl a14 ?_
    refine aw_ldc2 (z := 286651) dX12_isLine_34 nX12_174 ?_
    refine aw_lcmp dX12_isLine_37 ?_
    refine aw_if_ne (tgt := 49) dX12_isLine_38 rfl (by first | assumption | (unfold ab_In at *; omega)) (fun c_38 => ?_) (fun c_38 => ?_)
    · refine aw_aload_n dX12_isLine_49 rfl (by decide) ?_
      refine aw_getlv (v := (tkT f n p)) dX12_isLine_50 fX12_129 ⟨Nat.le_of_ble_eq_true rfl, Nat.le_of_ble_eq_true rfl⟩ rfl rfl a14 ?_
      refine aw_ldc2 (z := 399641) dX12_isLine_53 nX12_176 ?_
      refine aw_lcmp dX12_isLine_56 ?_
      refine aw_if_ne (tgt := 75) dX12_isLine_57 rfl (by first | assumption | (unfold ab_In at *; omega)) (fun c_57 => ?_) (fun c_57 => ?_)
      · refine aw_aload_n dX12_isLine_75 rfl (by decide) ?_
        refine aw_getlv (v := (tkT f n p)) dX12_isLine_76 fX12_129 ⟨Nat.le_of_ble_eq_true rfl, Nat.le_of_ble_eq_true rfl⟩ rfl rfl a14 ?_
        refine aw_ldc2 (z := 151331) dX12_isLine_79 nX12_184 ?_
        refine aw_lcmp dX12_isLine_82 ?_
        refine aw_if_ne (tgt := 94) dX12_isLine_83 rfl (by first | assumption | (unfold ab_In at *; omega)) (fun c_83 => ?_) (fun c_83 => ?_)
        · refine aw_aload_n dX12_isLine_94 rfl (by decide) ?_
          refine aw_getlv (v := (tkT f n p)) dX12_isLine_95 fX12_129 ⟨Nat.le_of_ble_eq_true rfl, Nat.le_of_ble_eq_true rfl⟩ rfl rfl a14 ?_
          refine aw_ldc2 (z := 16819) dX12_isLine_98 nX12_186 ?_
          refine aw_lcmp dX12_isLine_101 ?_
          refine aw_if_ne (tgt := 112) dX12_isLine_102 rfl (by first | assumption | (unfold ab_In at *; omega)) (fun c_102 => ?_) (fun c_102 => ?_)
          · refine aw_aload_n dX12_isLine_112 rfl (by decide) ?_
            refine aw_callV (as := []) (rest := []) dX12_isLine_113 (ct_X12_fails G J1 F) ⟨Nat.le_of_ble_eq_true rfl, Nat.le_of_ble_eq_true rfl⟩ rfl kc12 rfl kX12_fails iX12_fails eX12_fails lX12_149 rfl (Nat.le_of_ble_eq_true rfl) (by decide) (by decide) (by decide) (by decide) ?_
            rintro _ _ ⟨rfl, rfl⟩
            rw [← hZ]
            refine aw_breturn dX12_isLine_116 rfl (by omega) ?_
            exact ⟨_, rfl, fun i b q1 q2 => by rw [ab_u_o (by omega)]; exact g1 i b (by omega), Or.inl ⟨_, by rw [lnT, if_neg (by rw [e0]; omega), if_neg (by rw [e4]; omega), if_neg (by rw [e5]; omega), if_neg (by rw [e9]; omega), if_neg (by rw [e10]; omega)], rfl, by rw [ab_u_s]; exact a13⟩⟩
          · refine aw_aload_n dX12_isLine_105 rfl (by decide) ?_
            refine aw_callV (as := []) (rest := []) dX12_isLine_106 (ct_X12_isWay G J1 F hF f n X1 (teT f n p) heb.2 a12 r D1) ⟨Nat.le_of_ble_eq_true rfl, Nat.le_of_ble_eq_true rfl⟩ rfl kc12 rfl kX12_isWay iX12_isWay eX12_isWay lX12_188 rfl (Nat.le_of_ble_eq_true rfl) (by decide) (by decide) (by decide) (by decide) ?_
            rintro r9 _ ⟨J2, rfl, g2, (⟨q, hq, rfl, f17⟩ | ⟨p9, r9, hq, rfl, hp9, b12, D9⟩)⟩
            · skip
              refine aw_goto (tgt := 116) dX12_isLine_109 rfl ?_
              rw [← hZ]
              refine aw_breturn dX12_isLine_116 rfl (by omega) ?_
              exact ⟨_, rfl, g1.mf.trans g2, Or.inl ⟨_, by rw [lnT, if_neg (by rw [e0]; omega), if_neg (by rw [e4]; omega), if_neg (by rw [e5]; omega), if_neg (by rw [e9]; omega), if_pos (by rw [e10]; omega)]; exact hq, rfl, f17⟩⟩
            · skip
              refine aw_goto (tgt := 116) dX12_isLine_109 rfl ?_
              rw [← hZ]
              refine aw_breturn dX12_isLine_116 rfl (by omega) ?_
              exact ⟨_, rfl, g1.mf.trans g2, Or.inr ⟨_, _, by rw [lnT, if_neg (by rw [e0]; omega), if_neg (by rw [e4]; omega), if_neg (by rw [e5]; omega), if_neg (by rw [e9]; omega), if_pos (by rw [e10]; omega)]; exact hq, rfl, hp9, b12, D9⟩⟩
        · refine aw_aload_n dX12_isLine_86 rfl (by decide) ?_
          refine aw_iconst dX12_isLine_87 ?_
          refine aw_bipush dX12_isLine_88 rfl ?_
          refine aw_callV (as := [ab_i 3, ab_i 9]) (rest := []) dX12_isLine_90 (ct_X12_isNumber G J1 F hF f n X1 (teT f n p) heb.2 a12 3 (by decide) 9 (by unfold ab_In; omega)) ⟨Nat.le_of_ble_eq_true rfl, Nat.le_of_ble_eq_true rfl⟩ rfl kc12 rfl kX12_isNumber iX12_isNumber eX12_isNumber lX12_163 rfl (Nat.le_of_ble_eq_true rfl) (by decide) (by decide) (by decide) (by decide) ?_
          rintro r9 _ ⟨J2, rfl, g2, (⟨v, rfl, f17⟩ | ⟨v, rfl, b12, b94, b9⟩)⟩
          · skip
            rw [← hZ]
            refine aw_breturn dX12_isLine_93 rfl (by omega) ?_
            exact ⟨_, rfl, g1.mf.trans g2, Or.inl ⟨_, by rw [lnT, if_neg (by rw [e0]; omega), if_neg (by rw [e4]; omega), if_neg (by rw [e5]; omega), if_pos (by rw [e9]; omega), oneT, if_pos v], rfl, f17⟩⟩
          · skip
            rw [← hZ]
            refine aw_breturn dX12_isLine_93 rfl (by omega) ?_
            exact ⟨_, rfl, g1.mf.trans g2, Or.inr ⟨_, _, by rw [lnT, if_neg (by rw [e0]; omega), if_neg (by rw [e4]; omega), if_neg (by rw [e5]; omega), if_pos (by rw [e9]; omega), oneT, if_neg v], rfl, hp2, b12, D1.up b94 b9⟩⟩
      · refine aw_aload_n dX12_isLine_60 rfl (by decide) ?_
        refine aw_iconst dX12_isLine_61 ?_
        refine aw_ldc2 (z := 4027) dX12_isLine_62 nX12_178 ?_
        refine aw_ldc2 (z := 40187) dX12_isLine_65 nX12_180 ?_
        refine aw_ldc2 (z := 388609) dX12_isLine_68 nX12_182 ?_
        refine aw_callV (as := [ab_i 2, ab_l 4027, ab_l 40187, ab_l 388609]) (rest := []) dX12_isLine_71 (ct_X12_isOf G J1 F hF f n X1 (teT f n p) heb.2 a12 2 (by decide) 4027 40187 388609 (by unfold ab_Il; omega) (by unfold ab_Il; omega) (by unfold ab_Il; omega)) ⟨Nat.le_of_ble_eq_true rfl, Nat.le_of_ble_eq_true rfl⟩ rfl kc12 rfl kX12_isOf iX12_isOf eX12_isOf lX12_159 rfl (Nat.le_of_ble_eq_true rfl) (by decide) (by decide) (by decide) (by decide) ?_
        rintro r9 _ ⟨J2, rfl, g2, (⟨v, rfl, f17⟩ | ⟨v, rfl, b12, b94, b9⟩)⟩
        · skip
          rw [← hZ]
          refine aw_breturn dX12_isLine_74 rfl (by omega) ?_
          exact ⟨_, rfl, g1.mf.trans g2, Or.inl ⟨_, by rw [lnT, if_neg (by rw [e0]; omega), if_neg (by rw [e4]; omega), if_pos (by rw [e5]; omega), oneT, e6, e7, e8, if_pos v], rfl, f17⟩⟩
        · skip
          rw [← hZ]
          refine aw_breturn dX12_isLine_74 rfl (by omega) ?_
          exact ⟨_, rfl, g1.mf.trans g2, Or.inr ⟨_, _, by rw [lnT, if_neg (by rw [e0]; omega), if_neg (by rw [e4]; omega), if_pos (by rw [e5]; omega), oneT, e6, e7, e8, if_neg v], rfl, hp2, b12, D1.up b94 b9⟩⟩
    · refine aw_aload_n dX12_isLine_41 rfl (by decide) ?_
      refine aw_iconst dX12_isLine_42 ?_
      refine aw_bipush dX12_isLine_43 rfl ?_
      refine aw_callV (as := [ab_i 1, ab_i 9]) (rest := []) dX12_isLine_45 (ct_X12_isNumber G J1 F hF f n X1 (teT f n p) heb.2 a12 1 (by decide) 9 (by unfold ab_In; omega)) ⟨Nat.le_of_ble_eq_true rfl, Nat.le_of_ble_eq_true rfl⟩ rfl kc12 rfl kX12_isNumber iX12_isNumber eX12_isNumber lX12_163 rfl (Nat.le_of_ble_eq_true rfl) (by decide) (by decide) (by decide) (by decide) ?_
      rintro r9 _ ⟨J2, rfl, g2, (⟨v, rfl, f17⟩ | ⟨v, rfl, b12, b94, b9⟩)⟩
      · skip
        rw [← hZ]
        refine aw_breturn dX12_isLine_48 rfl (by omega) ?_
        exact ⟨_, rfl, g1.mf.trans g2, Or.inl ⟨_, by rw [lnT, if_neg (by rw [e0]; omega), if_pos (by rw [e4]; omega), oneT, if_pos v], rfl, f17⟩⟩
      · skip
        rw [← hZ]
        refine aw_breturn dX12_isLine_48 rfl (by omega) ?_
        exact ⟨_, rfl, g1.mf.trans g2, Or.inr ⟨_, _, by rw [lnT, if_neg (by rw [e0]; omega), if_pos (by rw [e4]; omega), oneT, if_neg v], rfl, hp2, b12, D1.up b94 b9⟩⟩
  · refine aw_aload_n dX12_isLine_15 rfl (by decide) ?_
    refine aw_iconst dX12_isLine_16 ?_
    refine aw_ldc2 (z := 400577) dX12_isLine_17 nX12_168 ?_
    refine aw_ldc2 (z := 279346) dX12_isLine_20 nX12_170 ?_
    refine aw_ldc2 (z := 237742039) dX12_isLine_23 nX12_172 ?_
    refine aw_callV (as := [ab_i 0, ab_l 400577, ab_l 279346, ab_l 237742039]) (rest := []) dX12_isLine_26 (ct_X12_isOf G J1 F hF f n X1 (teT f n p) heb.2 a12 0 (by decide) 400577 279346 237742039 (by unfold ab_Il; omega) (by unfold ab_Il; omega) (by unfold ab_Il; omega)) ⟨Nat.le_of_ble_eq_true rfl, Nat.le_of_ble_eq_true rfl⟩ rfl kc12 rfl kX12_isOf iX12_isOf eX12_isOf lX12_159 rfl (Nat.le_of_ble_eq_true rfl) (by decide) (by decide) (by decide) (by decide) ?_
    rintro r9 _ ⟨J2, rfl, g2, (⟨v, rfl, f17⟩ | ⟨v, rfl, b12, b94, b9⟩)⟩
    · skip
      rw [← hZ]
      refine aw_breturn dX12_isLine_29 rfl (by omega) ?_
      exact ⟨_, rfl, g1.mf.trans g2, Or.inl ⟨_, by rw [lnT, if_pos (by rw [e0]; omega), oneT, e1, e2, e3, if_pos v], rfl, f17⟩⟩
    · skip
      rw [← hZ]
      refine aw_breturn dX12_isLine_29 rfl (by omega) ?_
      exact ⟨_, rfl, g1.mf.trans g2, Or.inr ⟨_, _, by rw [lnT, if_pos (by rw [e0]; omega), oneT, e1, e2, e3, if_neg v], rfl, hp2, b12, D1.up b94 b9⟩⟩
set_option maxHeartbeats 4000000 in
set_option maxRecDepth 100000 in
theorem ct_X12_firstRules_94 (G : ab_G) (I : Nat → Nat → Int) (F : Nat → Nat → Nat) : Ct G 0 0 0 YX12_firstRules [ab_r 94] (104, I, F) (fun rr h => rr = none ∧ ∃ J : Nat → Nat → Int, h = (104, J, F) ∧ (∀ k, k < 16 → J 94 k = r0T k) ∧ ∀ i b, i ≠ 94 → J i b = I i b) := by
  refine Ct.ofW kX12_firstRules (ls := [some (ab_r 94), none]) (Nat.le_of_ble_eq_true rfl) rfl ?_
  generalize hZ : ab_Z G (fun rr h => rr = none ∧ ∃ J : Nat → Nat → Int, h = (104, J, F) ∧ (∀ k, k < 16 → J 94 k = r0T k) ∧ ∀ i b, i ≠ 94 → J i b = I i b) 0 0 = Z
  have lp : ∀ (d k : Nat) (J : Nat → Nat → Int), k + d = 16 → (∀ q, q < k → J 94 q = r0T q) → (∀ i b, i ≠ 94 → J i b = I i b) → aW G YX12_firstRules (ab_rm 0 0 0) Z 0 0 (104, J, F) 2 [some (ab_r 94), some (ab_i (k : Int))] [] := by
    intro d
    induction d with
    | zero =>
      intro k J hk h1 h2
      refine aw_iload_n dX12_firstRules_2 rfl ?_
      refine aw_bipush dX12_firstRules_3 rfl ?_
      refine aw_icmp_ge (tgt := 36) dX12_firstRules_5 rfl (by first | assumption | (unfold ab_In at *; omega)) (by first | assumption | (unfold ab_In at *; omega)) (fun c_5 => ?_) (fun c_5 => ?_)
      · rw [← hZ]
        refine aw_return dX12_firstRules_36 rfl ?_
        exact ⟨rfl, J, rfl, fun q hq => h1 q (by omega), h2⟩
      · exfalso; omega
    | succ d ih =>
      intro k J hk h1 h2
      have hr : r0T k = if k = 1 then 2 else if k = 3 then 1 else 0 := rfl
      refine aw_iload_n dX12_firstRules_2 rfl ?_
      refine aw_bipush dX12_firstRules_3 rfl ?_
      refine aw_icmp_ge (tgt := 36) dX12_firstRules_5 rfl (by first | assumption | (unfold ab_In at *; omega)) (by first | assumption | (unfold ab_In at *; omega)) (fun c_5 => ?_) (fun c_5 => ?_)
      · exfalso; omega
      · refine aw_aload_n dX12_firstRules_8 rfl (by decide) ?_
        refine aw_iload_n dX12_firstRules_9 rfl ?_
        refine aw_iload_n dX12_firstRules_10 rfl ?_
        refine aw_iconst dX12_firstRules_11 ?_
        refine aw_icmp_ne (tgt := 19) dX12_firstRules_12 rfl (by first | assumption | (unfold ab_In at *; omega)) (by first | assumption | (unfold ab_In at *; omega)) (fun c_12 => ?_) (fun c_12 => ?_)
        · refine aw_iload_n dX12_firstRules_19 rfl ?_
          refine aw_iconst dX12_firstRules_20 ?_
          refine aw_icmp_ne (tgt := 28) dX12_firstRules_21 rfl (by first | assumption | (unfold ab_In at *; omega)) (by first | assumption | (unfold ab_In at *; omega)) (fun c_21 => ?_) (fun c_21 => ?_)
          · refine aw_iconst dX12_firstRules_28 ?_
            refine aw_iastv (q := k) dX12_firstRules_29 ⟨Nat.le_of_ble_eq_true rfl, Nat.le_of_ble_eq_true rfl⟩ rfl (by omega) (by omega) (by decide) rfl ?_
            refine aw_iinc (ls' := [some (ab_r 94), some (ab_i ((k : Int) + 1))]) dX12_firstRules_30 (by decide) rfl rfl ?_
            refine aw_goto (tgt := 2) dX12_firstRules_33 rfl ?_
            refine ih (k + 1) _ (by omega) (fun q hq => ?_) (fun i b hi => by rw [ab_u_i hi]; exact h2 i b hi)
            by_cases e : q = k
            · rw [e, ab_u_s, hr, if_neg (by omega), if_neg (by omega)]
            · rw [ab_u_j e]; exact h1 q (by omega)
          · refine aw_iconst dX12_firstRules_24 ?_
            refine aw_goto (tgt := 29) dX12_firstRules_25 rfl ?_
            refine aw_iastv (q := k) dX12_firstRules_29 ⟨Nat.le_of_ble_eq_true rfl, Nat.le_of_ble_eq_true rfl⟩ rfl (by omega) (by omega) (by decide) rfl ?_
            refine aw_iinc (ls' := [some (ab_r 94), some (ab_i ((k : Int) + 1))]) dX12_firstRules_30 (by decide) rfl rfl ?_
            refine aw_goto (tgt := 2) dX12_firstRules_33 rfl ?_
            refine ih (k + 1) _ (by omega) (fun q hq => ?_) (fun i b hi => by rw [ab_u_i hi]; exact h2 i b hi)
            by_cases e : q = k
            · rw [e, ab_u_s, hr, if_neg (by omega), if_pos (by omega)]
            · rw [ab_u_j e]; exact h1 q (by omega)
        · refine aw_iconst dX12_firstRules_15 ?_
          refine aw_goto (tgt := 29) dX12_firstRules_16 rfl ?_
          refine aw_iastv (q := k) dX12_firstRules_29 ⟨Nat.le_of_ble_eq_true rfl, Nat.le_of_ble_eq_true rfl⟩ rfl (by omega) (by omega) (by decide) rfl ?_
          refine aw_iinc (ls' := [some (ab_r 94), some (ab_i ((k : Int) + 1))]) dX12_firstRules_30 (by decide) rfl rfl ?_
          refine aw_goto (tgt := 2) dX12_firstRules_33 rfl ?_
          refine ih (k + 1) _ (by omega) (fun q hq => ?_) (fun i b hi => by rw [ab_u_i hi]; exact h2 i b hi)
          by_cases e : q = k
          · rw [e, ab_u_s, hr, if_pos (by omega)]
          · rw [ab_u_j e]; exact h1 q (by omega)
  refine aw_iconst dX12_firstRules_0 ?_
  refine aw_istore_n (ls' := [some (ab_r 94), some (ab_i 0)]) dX12_firstRules_1 (by decide) rfl ?_
  exact lp 16 0 I (by omega) (fun q hq => by omega) (fun _ _ _ => rfl)
set_option maxHeartbeats 4000000 in
set_option maxRecDepth 100000 in
theorem ct_X12_firstRules_95 (G : ab_G) (I : Nat → Nat → Int) (F : Nat → Nat → Nat) : Ct G 0 0 0 YX12_firstRules [ab_r 95] (104, I, F) (fun rr h => rr = none ∧ ∃ J : Nat → Nat → Int, h = (104, J, F) ∧ (∀ k, k < 16 → J 95 k = r0T k) ∧ ∀ i b, i ≠ 95 → J i b = I i b) := by
  refine Ct.ofW kX12_firstRules (ls := [some (ab_r 95), none]) (Nat.le_of_ble_eq_true rfl) rfl ?_
  generalize hZ : ab_Z G (fun rr h => rr = none ∧ ∃ J : Nat → Nat → Int, h = (104, J, F) ∧ (∀ k, k < 16 → J 95 k = r0T k) ∧ ∀ i b, i ≠ 95 → J i b = I i b) 0 0 = Z
  have lp : ∀ (d k : Nat) (J : Nat → Nat → Int), k + d = 16 → (∀ q, q < k → J 95 q = r0T q) → (∀ i b, i ≠ 95 → J i b = I i b) → aW G YX12_firstRules (ab_rm 0 0 0) Z 0 0 (104, J, F) 2 [some (ab_r 95), some (ab_i (k : Int))] [] := by
    intro d
    induction d with
    | zero =>
      intro k J hk h1 h2
      refine aw_iload_n dX12_firstRules_2 rfl ?_
      refine aw_bipush dX12_firstRules_3 rfl ?_
      refine aw_icmp_ge (tgt := 36) dX12_firstRules_5 rfl (by first | assumption | (unfold ab_In at *; omega)) (by first | assumption | (unfold ab_In at *; omega)) (fun c_5 => ?_) (fun c_5 => ?_)
      · rw [← hZ]
        refine aw_return dX12_firstRules_36 rfl ?_
        exact ⟨rfl, J, rfl, fun q hq => h1 q (by omega), h2⟩
      · exfalso; omega
    | succ d ih =>
      intro k J hk h1 h2
      have hr : r0T k = if k = 1 then 2 else if k = 3 then 1 else 0 := rfl
      refine aw_iload_n dX12_firstRules_2 rfl ?_
      refine aw_bipush dX12_firstRules_3 rfl ?_
      refine aw_icmp_ge (tgt := 36) dX12_firstRules_5 rfl (by first | assumption | (unfold ab_In at *; omega)) (by first | assumption | (unfold ab_In at *; omega)) (fun c_5 => ?_) (fun c_5 => ?_)
      · exfalso; omega
      · refine aw_aload_n dX12_firstRules_8 rfl (by decide) ?_
        refine aw_iload_n dX12_firstRules_9 rfl ?_
        refine aw_iload_n dX12_firstRules_10 rfl ?_
        refine aw_iconst dX12_firstRules_11 ?_
        refine aw_icmp_ne (tgt := 19) dX12_firstRules_12 rfl (by first | assumption | (unfold ab_In at *; omega)) (by first | assumption | (unfold ab_In at *; omega)) (fun c_12 => ?_) (fun c_12 => ?_)
        · refine aw_iload_n dX12_firstRules_19 rfl ?_
          refine aw_iconst dX12_firstRules_20 ?_
          refine aw_icmp_ne (tgt := 28) dX12_firstRules_21 rfl (by first | assumption | (unfold ab_In at *; omega)) (by first | assumption | (unfold ab_In at *; omega)) (fun c_21 => ?_) (fun c_21 => ?_)
          · refine aw_iconst dX12_firstRules_28 ?_
            refine aw_iastv (q := k) dX12_firstRules_29 ⟨Nat.le_of_ble_eq_true rfl, Nat.le_of_ble_eq_true rfl⟩ rfl (by omega) (by omega) (by decide) rfl ?_
            refine aw_iinc (ls' := [some (ab_r 95), some (ab_i ((k : Int) + 1))]) dX12_firstRules_30 (by decide) rfl rfl ?_
            refine aw_goto (tgt := 2) dX12_firstRules_33 rfl ?_
            refine ih (k + 1) _ (by omega) (fun q hq => ?_) (fun i b hi => by rw [ab_u_i hi]; exact h2 i b hi)
            by_cases e : q = k
            · rw [e, ab_u_s, hr, if_neg (by omega), if_neg (by omega)]
            · rw [ab_u_j e]; exact h1 q (by omega)
          · refine aw_iconst dX12_firstRules_24 ?_
            refine aw_goto (tgt := 29) dX12_firstRules_25 rfl ?_
            refine aw_iastv (q := k) dX12_firstRules_29 ⟨Nat.le_of_ble_eq_true rfl, Nat.le_of_ble_eq_true rfl⟩ rfl (by omega) (by omega) (by decide) rfl ?_
            refine aw_iinc (ls' := [some (ab_r 95), some (ab_i ((k : Int) + 1))]) dX12_firstRules_30 (by decide) rfl rfl ?_
            refine aw_goto (tgt := 2) dX12_firstRules_33 rfl ?_
            refine ih (k + 1) _ (by omega) (fun q hq => ?_) (fun i b hi => by rw [ab_u_i hi]; exact h2 i b hi)
            by_cases e : q = k
            · rw [e, ab_u_s, hr, if_neg (by omega), if_pos (by omega)]
            · rw [ab_u_j e]; exact h1 q (by omega)
        · refine aw_iconst dX12_firstRules_15 ?_
          refine aw_goto (tgt := 29) dX12_firstRules_16 rfl ?_
          refine aw_iastv (q := k) dX12_firstRules_29 ⟨Nat.le_of_ble_eq_true rfl, Nat.le_of_ble_eq_true rfl⟩ rfl (by omega) (by omega) (by decide) rfl ?_
          refine aw_iinc (ls' := [some (ab_r 95), some (ab_i ((k : Int) + 1))]) dX12_firstRules_30 (by decide) rfl rfl ?_
          refine aw_goto (tgt := 2) dX12_firstRules_33 rfl ?_
          refine ih (k + 1) _ (by omega) (fun q hq => ?_) (fun i b hi => by rw [ab_u_i hi]; exact h2 i b hi)
          by_cases e : q = k
          · rw [e, ab_u_s, hr, if_pos (by omega)]
          · rw [ab_u_j e]; exact h1 q (by omega)
  refine aw_iconst dX12_firstRules_0 ?_
  refine aw_istore_n (ls' := [some (ab_r 95), some (ab_i 0)]) dX12_firstRules_1 (by decide) rfl ?_
  exact lp 16 0 I (by omega) (fun q hq => by omega) (fun _ _ _ => rfl)
set_option maxHeartbeats 4000000 in
set_option maxRecDepth 100000 in
theorem ct_X12_isRead (G : ab_G) (I : Nat → Nat → Int) (F : Nat → Nat → Nat) (hF : ab_FB F) (f : Nat → Int) (n : Nat) (hX : RXx f n I) : Ct G 5 0 0 YX12_isRead [ab_r 84] (104, I, F) (fun rr h => ∃ J : Nat → Nat → Int, h = (104, J, F) ∧ VFx I J ∧ ((∃ q : Nat, allT f n = .inl q ∧ rr = some (ab_i 0) ∧ J 84 17 = (q : Int)) ∨ ∃ (k : Nat) (r : Nat → Int), allT f n = .inr (k, r) ∧ rr = some (ab_i 1) ∧ J 84 18 = (k : Int) ∧ DRm J r)) := by
  refine Ct.ofW kX12_isRead (ls := [some (ab_r 84), none]) (Nat.le_of_ble_eq_true rfl) rfl ?_
  generalize hZ : ab_Z G (fun rr h => ∃ J : Nat → Nat → Int, h = (104, J, F) ∧ VFx I J ∧ ((∃ q : Nat, allT f n = .inl q ∧ rr = some (ab_i 0) ∧ J 84 17 = (q : Int)) ∨ ∃ (k : Nat) (r : Nat → Int), allT f n = .inr (k, r) ∧ rr = some (ab_i 1) ∧ J 84 18 = (k : Int) ∧ DRm J r)) 0 0 = Z
  have hn160 := hX.2.1
  have lp : ∀ (u k p : Nat) (r : Nat → Int) (J : Nat → Nat → Int), k + u = 12 → p ≤ n → J 84 12 = (p : Int) → J 84 18 = (k : Int) → DRm J r → VFx I J → rdT f n u (k + 1) p r = allT f n → 0 < u → aW G YX12_isRead (ab_rm 5 0 0) Z 0 0 (104, J, F) 19 [some (ab_r 84), some (ab_i 1)] [] := by
    intro u
    induction u with
    | zero =>
      intro k p r J hk hp h12 h18 hD hR he hu
      omega
    | succ u ih =>
      intro k p r J hk hp h12 h18 hD hR he hu
      have hX1 := hX.of hR
      have he2 : goT f n (k + 1) (rdT f n u (k + 1 + 1)) (lnT f n p r) = allT f n := he
      refine aw_iload_n dX12_isRead_19 rfl ?_
      refine aw_if_eq (tgt := 75) dX12_isRead_20 rfl ⟨by decide, by decide⟩ (fun c9 => absurd c9 (by decide)) (fun _ => ?_)
      refine aw_aload_n dX12_isRead_23 rfl (by decide) ?_
      refine aw_callV (as := []) (rest := []) dX12_isRead_24 (ct_X12_isLine G J F hF f n hX1 p hp h12 r hD) ⟨Nat.le_of_ble_eq_true rfl, Nat.le_of_ble_eq_true rfl⟩ rfl kc12 rfl kX12_isLine iX12_isLine eX12_isLine lX12_194 rfl (Nat.le_of_ble_eq_true rfl) (by decide) (by decide) (by decide) (by decide) ?_
      rintro _ _ ⟨J3, rfl, g3, (⟨q, hq, rfl, f17⟩ | ⟨p3, r3, hq, rfl, hp3, c12, D3⟩)⟩
      · rw [hq] at he2
        refine aw_if_ne (tgt := 32) dX12_isRead_27 rfl ⟨by decide, by decide⟩ (fun c9 => absurd rfl c9) (fun _ => ?_)
        refine aw_iconst dX12_isRead_30 ?_
        rw [← hZ]
        refine aw_breturn dX12_isRead_31 rfl (by omega) ?_
        exact ⟨_, rfl, hR.trans g3.vf, Or.inl ⟨q, he2.symm, rfl, f17⟩⟩
      · rw [hq] at he2
        have c18 : J3 84 18 = (k : Int) := (g3 84 18 (by omega) (by omega)).trans h18
        have hX3 : RXx f n (ab_u J3 84 18 ((k : Int) + 1)) := hX1.of (fun i b q1 q2 => by rw [ab_u_o (by omega)]; exact g3.vf i b q1 q2)
        have m12 : ab_u J3 84 18 ((k : Int) + 1) 84 12 = (p3 : Int) := by rw [ab_u_j (by decide)]; exact c12
        have he3 : (if tkT f n p3 = -2 then (.inr (k + 1, r3) : RdT) else if k + 1 = 12 ∨ tkT f n p3 ≠ -3 then .inl (tsT f n p3) else rdT f n u (k + 1 + 1) (teT f n p3) r3) = allT f n := he2
        refine aw_if_ne (tgt := 32) dX12_isRead_27 rfl ⟨by decide, by decide⟩ (fun _ => ?_) (fun c9 => absurd c9 (by decide))
        refine aw_aload_n dX12_isRead_32 rfl (by decide) ?_
        refine aw_dup dX12_isRead_33 rfl ?_
        refine aw_getiv (v := (k : Int)) dX12_isRead_34 fX12_191 ⟨Nat.le_of_ble_eq_true rfl, Nat.le_of_ble_eq_true rfl⟩ rfl rfl c18 ?_
        refine aw_iconst dX12_isRead_37 ?_
        refine aw_iadd dX12_isRead_38 ?_
        refine aw_puti dX12_isRead_39 fX12_191 ⟨Nat.le_of_ble_eq_true rfl, Nat.le_of_ble_eq_true rfl⟩ rfl rfl ?_
        refine aw_aload_n dX12_isRead_42 rfl (by decide) ?_
        refine aw_callV (as := []) (rest := []) dX12_isRead_43 (ct_X12_nextToken G (ab_u J3 84 18 ((k : Int) + 1)) F hF f n hX3 p3 hp3 m12) ⟨Nat.le_of_ble_eq_true rfl, Nat.le_of_ble_eq_true rfl⟩ rfl kc12 rfl kX12_nextToken iX12_nextToken eX12_nextToken lX12_146 rfl (Nat.le_of_ble_eq_true rfl) (by decide) (by decide) (by decide) (by decide) ?_
        rintro _ _ ⟨rfl, J4, rfl, g4, a12, a13, a14, a16⟩
        have tb := tk_bd (f := f) (n := n) p3
        have hl3 := lcmp_iff (x := tkT f n p3) (y := -3) (by unfold ab_Il; omega) (by unfold ab_Il; omega)
        have hl2 := lcmp_iff (x := tkT f n p3) (y := -2) (by unfold ab_Il; omega) (by unfold ab_Il; omega)
        have d18 : J4 84 18 = (k : Int) + 1 := (g4 84 18 (by omega)).trans ab_u_s
        have D4 : DRm J4 r3 := fun b hb => by rw [g4 94 b (by omega), ab_u_i (by decide)]; exact D3 b hb
        have hR4 : VFx I J4 := fun i b q1 q2 => by rw [g4 i b (by omega), ab_u_o (by omega), g3 i b (by omega) q2]; exact hR i b q1 q2
        refine aw_aload_n dX12_isRead_46 rfl (by decide) ?_
        refine aw_getlv (v := (tkT f n p3)) dX12_isRead_47 fX12_129 ⟨Nat.le_of_ble_eq_true rfl, Nat.le_of_ble_eq_true rfl⟩ rfl rfl a14 ?_
        refine aw_ldc2 (z := (-3)) dX12_isRead_50 nX12_141 ?_
        refine aw_lcmp dX12_isRead_53 ?_
        refine aw_if_ne (tgt := 70) dX12_isRead_54 rfl (by first | assumption | (unfold ab_In at *; omega)) (fun c_54 => ?_) (fun c_54 => ?_)
        · refine aw_iconst dX12_isRead_70 ?_
          refine aw_istore_n (ls' := [some (ab_r 84), some (ab_i 0)]) dX12_isRead_71 (by decide) rfl ?_
          refine aw_goto (tgt := 19) dX12_isRead_72 rfl ?_
          refine aw_iload_n dX12_isRead_19 rfl ?_
          refine aw_if_eq (tgt := 75) dX12_isRead_20 rfl ⟨by decide, by decide⟩ (fun _ => ?_) (fun c9 => absurd (by decide) c9)
          refine aw_aload_n dX12_isRead_75 rfl (by decide) ?_
          refine aw_getlv (v := (tkT f n p3)) dX12_isRead_76 fX12_129 ⟨Nat.le_of_ble_eq_true rfl, Nat.le_of_ble_eq_true rfl⟩ rfl rfl a14 ?_
          refine aw_ldc2 (z := (-2)) dX12_isRead_79 nX12_127 ?_
          refine aw_lcmp dX12_isRead_82 ?_
          refine aw_if_eq (tgt := 93) dX12_isRead_83 rfl (by first | assumption | (unfold ab_In at *; omega)) (fun c_83 => ?_) (fun c_83 => ?_)
          · refine aw_iconst dX12_isRead_93 ?_
            refine aw_goto (tgt := 98) dX12_isRead_94 rfl ?_
            rw [← hZ]
            refine aw_breturn dX12_isRead_98 rfl (by omega) ?_
            rw [if_pos (by omega)] at he3
            exact ⟨J4, rfl, hR4, Or.inr ⟨k + 1, r3, he3.symm, rfl, by rw [d18]; rfl, D4⟩⟩
          · refine aw_aload_n dX12_isRead_86 rfl (by decide) ?_
            refine aw_callV (as := []) (rest := []) dX12_isRead_87 (ct_X12_fails G J4 F) ⟨Nat.le_of_ble_eq_true rfl, Nat.le_of_ble_eq_true rfl⟩ rfl kc12 rfl kX12_fails iX12_fails eX12_fails lX12_149 rfl (Nat.le_of_ble_eq_true rfl) (by decide) (by decide) (by decide) (by decide) ?_
            rintro _ _ ⟨rfl, rfl⟩
            refine aw_if_eq (tgt := 97) dX12_isRead_90 rfl ⟨by decide, by decide⟩ (fun _ => ?_) (fun c9 => absurd (by decide) c9)
            refine aw_iconst dX12_isRead_97 ?_
            rw [← hZ]
            refine aw_breturn dX12_isRead_98 rfl (by omega) ?_
            rw [if_neg (by omega), if_pos (by omega)] at he3
            exact ⟨_, rfl, fun i b q1 q2 => by rw [ab_u_o (by omega)]; exact hR4 i b q1 q2, Or.inl ⟨_, he3.symm, rfl, by rw [ab_u_s]; exact a13⟩⟩
        · refine aw_aload_n dX12_isRead_57 rfl (by decide) ?_
          refine aw_getiv (v := ((k : Int) + 1)) dX12_isRead_58 fX12_191 ⟨Nat.le_of_ble_eq_true rfl, Nat.le_of_ble_eq_true rfl⟩ rfl rfl d18 ?_
          refine aw_bipush dX12_isRead_61 rfl ?_
          refine aw_icmp_ge (tgt := 70) dX12_isRead_63 rfl (by first | assumption | (unfold ab_In at *; omega)) (by first | assumption | (unfold ab_In at *; omega)) (fun c_63 => ?_) (fun c_63 => ?_)
          · refine aw_iconst dX12_isRead_70 ?_
            refine aw_istore_n (ls' := [some (ab_r 84), some (ab_i 0)]) dX12_isRead_71 (by decide) rfl ?_
            refine aw_goto (tgt := 19) dX12_isRead_72 rfl ?_
            refine aw_iload_n dX12_isRead_19 rfl ?_
            refine aw_if_eq (tgt := 75) dX12_isRead_20 rfl ⟨by decide, by decide⟩ (fun _ => ?_) (fun c9 => absurd (by decide) c9)
            refine aw_aload_n dX12_isRead_75 rfl (by decide) ?_
            refine aw_getlv (v := (tkT f n p3)) dX12_isRead_76 fX12_129 ⟨Nat.le_of_ble_eq_true rfl, Nat.le_of_ble_eq_true rfl⟩ rfl rfl a14 ?_
            refine aw_ldc2 (z := (-2)) dX12_isRead_79 nX12_127 ?_
            refine aw_lcmp dX12_isRead_82 ?_
            refine aw_if_eq (tgt := 93) dX12_isRead_83 rfl (by first | assumption | (unfold ab_In at *; omega)) (fun c_83 => ?_) (fun c_83 => ?_)
            · refine aw_iconst dX12_isRead_93 ?_
              refine aw_goto (tgt := 98) dX12_isRead_94 rfl ?_
              rw [← hZ]
              refine aw_breturn dX12_isRead_98 rfl (by omega) ?_
              rw [if_pos (by omega)] at he3
              exact ⟨J4, rfl, hR4, Or.inr ⟨k + 1, r3, he3.symm, rfl, by rw [d18]; rfl, D4⟩⟩
            · refine aw_aload_n dX12_isRead_86 rfl (by decide) ?_
              refine aw_callV (as := []) (rest := []) dX12_isRead_87 (ct_X12_fails G J4 F) ⟨Nat.le_of_ble_eq_true rfl, Nat.le_of_ble_eq_true rfl⟩ rfl kc12 rfl kX12_fails iX12_fails eX12_fails lX12_149 rfl (Nat.le_of_ble_eq_true rfl) (by decide) (by decide) (by decide) (by decide) ?_
              rintro _ _ ⟨rfl, rfl⟩
              refine aw_if_eq (tgt := 97) dX12_isRead_90 rfl ⟨by decide, by decide⟩ (fun _ => ?_) (fun c9 => absurd (by decide) c9)
              refine aw_iconst dX12_isRead_97 ?_
              rw [← hZ]
              refine aw_breturn dX12_isRead_98 rfl (by omega) ?_
              rw [if_neg (by omega), if_pos (by omega)] at he3
              exact ⟨_, rfl, fun i b q1 q2 => by rw [ab_u_o (by omega)]; exact hR4 i b q1 q2, Or.inl ⟨_, he3.symm, rfl, by rw [ab_u_s]; exact a13⟩⟩
          · refine aw_iconst dX12_isRead_66 ?_
            refine aw_goto (tgt := 71) dX12_isRead_67 rfl ?_
            refine aw_istore_n (ls' := [some (ab_r 84), some (ab_i 1)]) dX12_isRead_71 (by decide) rfl ?_
            refine aw_goto (tgt := 19) dX12_isRead_72 rfl ?_
            rw [if_neg (by omega), if_neg (by omega)] at he3
            exact ih (k + 1) (teT f n p3) r3 J4 (by omega) (te_bd (f := f) hp3).2 a12 (by rw [d18]; rfl) D4 hR4 he3 (by omega)
  refine aw_aload_n dX12_isRead_0 rfl (by decide) ?_
  refine aw_iconst dX12_isRead_1 ?_
  refine aw_puti dX12_isRead_2 fX12_115 ⟨Nat.le_of_ble_eq_true rfl, Nat.le_of_ble_eq_true rfl⟩ rfl rfl ?_
  refine aw_aload_n dX12_isRead_5 rfl (by decide) ?_
  refine aw_iconst dX12_isRead_6 ?_
  refine aw_puti dX12_isRead_7 fX12_191 ⟨Nat.le_of_ble_eq_true rfl, Nat.le_of_ble_eq_true rfl⟩ rfl rfl ?_
  refine aw_aload_n dX12_isRead_10 rfl (by decide) ?_
  refine aw_getrv (r := 94) dX12_isRead_11 fX12_38 ⟨Nat.le_of_ble_eq_true rfl, Nat.le_of_ble_eq_true rfl⟩ rfl rfl (hF.at 84 19 94 rfl rfl rfl) ?_
  refine aw_callS (as := [ab_r 94]) (rest := []) dX12_isRead_14 (ct_X12_firstRules_94 G (ab_u (ab_u I 84 12 0) 84 18 0) F) kX12_firstRules sX12_firstRules lX12_71 rfl (Nat.le_of_ble_eq_true rfl) (by decide) (by decide) (by decide) (by decide) ?_
  rintro _ _ ⟨rfl, J1, rfl, D1, fr1⟩
  refine aw_iconst dX12_isRead_17 ?_
  refine aw_istore_n (ls' := [some (ab_r 84), some (ab_i 1)]) dX12_isRead_18 (by decide) rfl ?_
  exact lp 12 0 0 r0T J1 (by omega) (by omega) (by rw [fr1 84 12 (by decide), ab_u_j (by decide), ab_u_s]; rfl) (by rw [fr1 84 18 (by decide), ab_u_s]; rfl) D1 (fun i b q1 q2 => by rw [fr1 i b q2, ab_u_o (by omega), ab_u_o (by omega)]) rfl (by omega)
set_option maxHeartbeats 4000000 in
set_option maxRecDepth 100000 in
theorem ct_X12_fault (G : ab_G) (I : Nat → Nat → Int) (F : Nat → Nat → Nat) (hF : ab_FB F) (f : Nat → Int) (n : Nat) (hX : RXx f n I) : Ct G 6 0 0 YX12_fault [ab_r 84] (104, I, F) (fun rr h => ∃ J : Nat → Nat → Int, h = (104, J, F) ∧ VFx I J ∧ ((∃ q : Nat, allT f n = .inl q ∧ rr = some (ab_i (q : Int))) ∨ ∃ (k : Nat) (r : Nat → Int), allT f n = .inr (k, r) ∧ rr = some (ab_i (-1)))) := by
  refine Ct.ofW kX12_fault (ls := [some (ab_r 84)]) (Nat.le_of_ble_eq_true rfl) rfl ?_
  refine aw_aload_n dX12_fault_0 rfl (by decide) ?_
  refine aw_callV (as := []) (rest := []) dX12_fault_1 (ct_X12_isRead G I F hF f n hX) ⟨Nat.le_of_ble_eq_true rfl, Nat.le_of_ble_eq_true rfl⟩ rfl kc12 rfl kX12_isRead iX12_isRead eX12_isRead lX12_197 rfl (Nat.le_of_ble_eq_true rfl) (by decide) (by decide) (by decide) (by decide) ?_
  rintro r9 _ ⟨J, rfl, hR, (⟨q, hq, rfl, f17⟩ | ⟨k, r, hq, rfl, hk, D⟩)⟩
  · skip
    refine aw_if_eq (tgt := 11) dX12_fault_4 rfl ⟨by decide, by decide⟩ (fun _ => ?_) (fun c9 => absurd (by decide) c9)
    refine aw_aload_n dX12_fault_11 rfl (by decide) ?_
    refine aw_getiv (v := (q : Int)) dX12_fault_12 fX12_143 ⟨Nat.le_of_ble_eq_true rfl, Nat.le_of_ble_eq_true rfl⟩ rfl rfl f17 ?_
    refine aw_ireturn dX12_fault_15 rfl ?_
    exact ⟨J, rfl, hR, Or.inl ⟨q, hq, rfl⟩⟩
  · skip
    refine aw_if_eq (tgt := 11) dX12_fault_4 rfl ⟨by decide, by decide⟩ (fun c9 => absurd c9 (by decide)) (fun _ => ?_)
    refine aw_iconst dX12_fault_7 ?_
    refine aw_goto (tgt := 15) dX12_fault_8 rfl ?_
    refine aw_ireturn dX12_fault_15 rfl ?_
    exact ⟨J, rfl, hR, Or.inr ⟨k, r, hq, rfl⟩⟩
set_option maxHeartbeats 4000000 in
set_option maxRecDepth 100000 in
theorem ct_X12_rules (G : ab_G) (I : Nat → Nat → Int) (F : Nat → Nat → Nat) (hF : ab_FB F) (f : Nat → Int) (n : Nat) (hX : RXx f n I) : Ct G 6 0 0 YX12_rules [ab_r 84] (104, I, F) (fun rr h => ∃ J : Nat → Nat → Int, h = (104, J, F) ∧ ((∃ q : Nat, allT f n = .inl q ∧ rr = some (ab_i (-4)) ∧ VFx I J) ∨ ∃ (k : Nat) (r : Nat → Int), allT f n = .inr (k, r) ∧ rr = some (ab_i (k : Int)) ∧ (∀ q, q < 16 → J 95 q = r q) ∧ J 84 10 = 0 ∧ ∀ i b, ¬ (i = 84 ∧ 12 ≤ b ∧ b ≤ 18) → ¬ (i = 84 ∧ b = 10) → i ≠ 94 → i ≠ 95 → J i b = I i b)) := by
  refine Ct.ofW kX12_rules (ls := [some (ab_r 84), none]) (Nat.le_of_ble_eq_true rfl) rfl ?_
  generalize hZ : ab_Z G (fun rr h => ∃ J : Nat → Nat → Int, h = (104, J, F) ∧ ((∃ q : Nat, allT f n = .inl q ∧ rr = some (ab_i (-4)) ∧ VFx I J) ∨ ∃ (k : Nat) (r : Nat → Int), allT f n = .inr (k, r) ∧ rr = some (ab_i (k : Int)) ∧ (∀ q, q < 16 → J 95 q = r q) ∧ J 84 10 = 0 ∧ ∀ i b, ¬ (i = 84 ∧ 12 ≤ b ∧ b ≤ 18) → ¬ (i = 84 ∧ b = 10) → i ≠ 94 → i ≠ 95 → J i b = I i b)) 0 0 = Z
  have lp : ∀ (J : Nat → Nat → Int) (k : Nat) (r : Nat → Int), VFx I J → allT f n = .inr (k, r) → J 84 18 = (k : Int) → DRm J r → ∀ (d q : Nat) (J2 : Nat → Nat → Int), q + d = 16 → (∀ x, x < q → J2 95 x = r x) → (∀ i b, i ≠ 95 → J2 i b = J i b) → aW G YX12_rules (ab_rm 6 0 0) Z 0 0 (104, J2, F) 12 [some (ab_r 84), some (ab_i (q : Int))] [] := by
    intro J k r hR hq hk D d
    induction d with
    | zero =>
      intro q J2 hd h1 h2
      have hk2 : J2 84 18 = (k : Int) := (h2 84 18 (by decide)).trans hk
      refine aw_iload_n dX12_rules_12 rfl ?_
      refine aw_bipush dX12_rules_13 rfl ?_
      refine aw_icmp_ge (tgt := 36) dX12_rules_15 rfl (by first | assumption | (unfold ab_In at *; omega)) (by first | assumption | (unfold ab_In at *; omega)) (fun c_15 => ?_) (fun c_15 => ?_)
      · refine aw_aload_n dX12_rules_36 rfl (by decide) ?_
        refine aw_iconst dX12_rules_37 ?_
        refine aw_puti dX12_rules_38 fX12_110 ⟨Nat.le_of_ble_eq_true rfl, Nat.le_of_ble_eq_true rfl⟩ rfl rfl ?_
        refine aw_aload_n dX12_rules_41 rfl (by decide) ?_
        refine aw_getiv (v := (k : Int)) dX12_rules_42 fX12_191 ⟨Nat.le_of_ble_eq_true rfl, Nat.le_of_ble_eq_true rfl⟩ rfl rfl ((ab_u_j (by decide)).trans hk2) ?_
        rw [← hZ]
        refine aw_ireturn dX12_rules_45 rfl ?_
        exact ⟨_, rfl, Or.inr ⟨k, r, hq, rfl, fun x hx => by rw [ab_u_i (by decide)]; exact h1 x (by omega), ab_u_s, fun i b q1 q2 q3 q4 => by rw [ab_u_o (by omega), h2 i b q4]; exact hR i b q1 q3⟩⟩
      · exfalso; omega
    | succ d ih =>
      intro q J2 hd h1 h2
      have h94 : J2 94 q = r q := (h2 94 q (by decide)).trans (D q (by omega))
      refine aw_iload_n dX12_rules_12 rfl ?_
      refine aw_bipush dX12_rules_13 rfl ?_
      refine aw_icmp_ge (tgt := 36) dX12_rules_15 rfl (by first | assumption | (unfold ab_In at *; omega)) (by first | assumption | (unfold ab_In at *; omega)) (fun c_15 => ?_) (fun c_15 => ?_)
      · exfalso; omega
      · refine aw_aload_n dX12_rules_18 rfl (by decide) ?_
        refine aw_getrv (r := 95) dX12_rules_19 fX12_41 ⟨Nat.le_of_ble_eq_true rfl, Nat.le_of_ble_eq_true rfl⟩ rfl rfl (hF.at 84 20 95 rfl rfl rfl) ?_
        refine aw_iload_n dX12_rules_22 rfl ?_
        refine aw_aload_n dX12_rules_23 rfl (by decide) ?_
        refine aw_getrv (r := 94) dX12_rules_24 fX12_38 ⟨Nat.le_of_ble_eq_true rfl, Nat.le_of_ble_eq_true rfl⟩ rfl rfl (hF.at 84 19 94 rfl rfl rfl) ?_
        refine aw_iload_n dX12_rules_27 rfl ?_
        refine aw_ialdq (q := q) (v := r q) dX12_rules_28 ⟨Nat.le_of_ble_eq_true rfl, Nat.le_of_ble_eq_true rfl⟩ rfl (by omega) (by omega) (by decide) rfl h94 ?_
        refine aw_iastv (q := q) dX12_rules_29 ⟨Nat.le_of_ble_eq_true rfl, Nat.le_of_ble_eq_true rfl⟩ rfl (by omega) (by omega) (by decide) rfl ?_
        refine aw_iinc (ls' := [some (ab_r 84), some (ab_i ((q : Int) + 1))]) dX12_rules_30 (by decide) rfl rfl ?_
        refine aw_goto (tgt := 12) dX12_rules_33 rfl ?_
        refine ih (q + 1) _ (by omega) (fun x hx => ?_) (fun i b hi => by rw [ab_u_i hi]; exact h2 i b hi)
        by_cases e : x = q
        · rw [e, ab_u_s]
        · rw [ab_u_j e]; exact h1 x (by omega)
  refine aw_aload_n dX12_rules_0 rfl (by decide) ?_
  refine aw_callV (as := []) (rest := []) dX12_rules_1 (ct_X12_isRead G I F hF f n hX) ⟨Nat.le_of_ble_eq_true rfl, Nat.le_of_ble_eq_true rfl⟩ rfl kc12 rfl kX12_isRead iX12_isRead eX12_isRead lX12_197 rfl (Nat.le_of_ble_eq_true rfl) (by decide) (by decide) (by decide) (by decide) ?_
  rintro r9 _ ⟨J, rfl, hR, (⟨q, hq, rfl, f17⟩ | ⟨k, r, hq, rfl, hk, D⟩)⟩
  · skip
    refine aw_if_ne (tgt := 10) dX12_rules_4 rfl ⟨by decide, by decide⟩ (fun c9 => absurd rfl c9) (fun _ => ?_)
    refine aw_bipush dX12_rules_7 rfl ?_
    rw [← hZ]
    refine aw_ireturn dX12_rules_9 rfl ?_
    exact ⟨J, rfl, Or.inl ⟨q, hq, rfl, hR⟩⟩
  · skip
    refine aw_if_ne (tgt := 10) dX12_rules_4 rfl ⟨by decide, by decide⟩ (fun _ => ?_) (fun c9 => absurd c9 (by decide))
    refine aw_iconst dX12_rules_10 ?_
    refine aw_istore_n (ls' := [some (ab_r 84), some (ab_i 0)]) dX12_rules_11 (by decide) rfl ?_
    exact lp J k r hR hq hk D 16 0 J (by omega) (fun x hx => by omega) (fun _ _ _ => rfl)
set_option maxHeartbeats 4000000 in
set_option maxRecDepth 100000 in
theorem pr_fault (G : ab_G) (I : Nat → Nat → Int) (F : Nat → Nat → Nat) (c : Nat) (h : INV c I F) (hc : c ≤ 600)  : Pair G 9 6 YX11_fault YX12_fault [] ab_i c I F := by
  obtain ⟨n, hX, hX2⟩ := h.tx
  refine (ct_X11_fault G I F h.1 (I 22) n hX).mono ?_
  rintro rr _ ⟨J, rfl, hR, hres⟩
  have hK : Keep I J := fun i b q => hR i b (by omega) (by omega)
  rcases hres with ⟨q, hq, rfl, _⟩ | ⟨k, r, hq, rfl, _⟩
  · refine ⟨_, _, _, rfl, rfl, ?_⟩
    refine (ct_X12_fault G J F h.1 (I 22) n (hX2 J (fun b => hR 93 b (by omega) (by omega)) (hR 84 10 (by omega) (by omega)))).mono ?_
    rintro _ _ ⟨J2, rfl, hR2, hres2⟩
    rcases hres2 with ⟨q2, hq2, rfl⟩ | ⟨k2, r2, hq2, rfl⟩
    · rw [hq] at hq2; cases hq2
      exact ⟨rfl, _, _, rfl, h.keep (by omega) (hK.trans (fun i b q => hR2 i b (by omega) (by omega))) (fun _ _ _ => rfl) (h.2.2.2.2.2.2.2.1.of (fun i b q => by rw [hR2 i b (by omega) (by omega)]; exact hR i b (by omega) (by omega)))⟩
    · rw [hq] at hq2; cases hq2
  · refine ⟨_, _, _, rfl, rfl, ?_⟩
    refine (ct_X12_fault G J F h.1 (I 22) n (hX2 J (fun b => hR 93 b (by omega) (by omega)) (hR 84 10 (by omega) (by omega)))).mono ?_
    rintro _ _ ⟨J2, rfl, hR2, hres2⟩
    rcases hres2 with ⟨q2, hq2, rfl⟩ | ⟨k2, r2, hq2, rfl⟩
    · rw [hq] at hq2; cases hq2
    · exact ⟨rfl, _, _, rfl, h.keep (by omega) (hK.trans (fun i b q => hR2 i b (by omega) (by omega))) (fun _ _ _ => rfl) (h.2.2.2.2.2.2.2.1.of (fun i b q => by rw [hR2 i b (by omega) (by omega)]; exact hR i b (by omega) (by omega)))⟩
set_option maxHeartbeats 4000000 in
set_option maxRecDepth 100000 in
theorem pr_rules (G : ab_G) (I : Nat → Nat → Int) (F : Nat → Nat → Nat) (c : Nat) (h : INV c I F) (hc : c ≤ 600)  : Pair G 9 6 YX11_rules YX12_rules [] ab_i c I F := by
  obtain ⟨n, hX, hX2⟩ := h.tx
  refine (ct_X11_rules G I F h.1 (I 22) n hX).mono ?_
  rintro rr _ ⟨J, rfl, (⟨q, hq, rfl, hR⟩ | ⟨k, r, hq, rfl, hB, j13, j14, j21, j65, hR⟩)⟩
  · refine ⟨_, _, _, rfl, rfl, ?_⟩
    refine (ct_X12_rules G J F h.1 (I 22) n (hX2 J (fun b => hR 93 b (by omega) (by omega)) (hR 84 10 (by omega) (by omega)))).mono ?_
    rintro _ _ ⟨J2, rfl, (⟨q2, hq2, rfl, hR2⟩ | ⟨k2, r2, hq2, rfl, _⟩)⟩
    · exact ⟨rfl, _, _, rfl, h.keep (by omega) (fun i b q => by rw [hR2 i b (by omega) (by omega)]; exact hR i b (by omega) (by omega)) (fun _ _ _ => rfl) (h.2.2.2.2.2.2.2.1.of (fun i b q => by rw [hR2 i b (by omega) (by omega)]; exact hR i b (by omega) (by omega)))⟩
    · rw [hq] at hq2; cases hq2
  · refine ⟨_, _, _, rfl, rfl, ?_⟩
    refine (ct_X12_rules G J F h.1 (I 22) n (hX2 J (fun b => hR 93 b (by omega) (by omega) (by omega)) (hR 84 10 (by omega) (by omega) (by omega)))).mono ?_
    rintro _ _ ⟨J2, rfl, (⟨q2, hq2, rfl, hR2⟩ | ⟨k2, r2, hq2, rfl, k95, k84, hR2⟩)⟩
    · rw [hq] at hq2; cases hq2
    · rw [hq] at hq2; cases hq2
      have f2 : ∀ i b, i < 84 → J2 i b = J i b := fun i b q => hR2 i b (by omega) (by omega) (by omega) (by omega)
      refine ⟨rfl, _, _, rfl, h.rules ?_ ?_ ?_ ?_ (fun i b q => ?_)⟩
      · exact rb_of hB (fun b => f2 13 b (by decide)) (fun b => f2 14 b (by decide)) (fun b => f2 15 b (by decide)) (fun b => f2 16 b (by decide)) j13 j14
      · refine ⟨?_, fun s hs => ?_⟩
        · rw [f2 13 0 (by decide), f2 13 1 (by decide), f2 13 2 (by decide), f2 13 3 (by decide), k95 0 (by decide), k95 1 (by decide), k95 2 (by decide), k95 3 (by decide)]; exact j13
        · rw [f2 14 s (by decide), f2 15 s (by decide), f2 16 s (by decide), k95 _ (by omega), k95 _ (by omega), k95 _ (by omega)]; exact j14 s hs
      · refine ⟨by rw [f2 21 1 (by decide), j21]; omega, by rw [k84, f2 21 1 (by decide), j21], fun j hj hj2 => ?_⟩
        rw [f2 21 1 (by decide), j21] at hj2; omega
      · rw [f2 65 5 (by decide)]; exact j65
      · rw [hR2 i b (by omega) (by omega) (by omega) (by omega)]; exact hR i b (by omega) (by omega) (by omega)
