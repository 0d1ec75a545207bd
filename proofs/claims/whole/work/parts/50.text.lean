def TSx (f : Nat → Int) (n p : Nat) (J : Nat → Nat → Int) : Prop := J 21 3 = (tsT f n p : Int) ∧ J 21 4 = (teT f n p : Int) ∧ J 21 5 = (tlT f n p : Int)
def GFx (I J : Nat → Nat → Int) : Prop := ∀ i b, ¬ (i = 21 ∧ 3 ≤ b) → J i b = I i b
def TXx (f : Nat → Int) (n : Nat) (I : Nat → Nat → Int) : Prop := I 21 1 = (n : Int) ∧ n ≤ 160 ∧ ∀ j, j < n → I 22 j = f j ∧ 0 ≤ f j ∧ f j ≤ 255
theorem GFx.rf {I : Nat → Nat → Int} : GFx I I := fun _ _ _ => rfl
theorem GFx.trans {I J K : Nat → Nat → Int} (h : GFx I J) (h' : GFx J K) : GFx I K := fun i b q => (h' i b q).trans (h i b q)
theorem TXx.of {f : Nat → Int} {n : Nat} {I J : Nat → Nat → Int} (h : TXx f n I) (hg : GFx I J) : TXx f n J := by
  refine ⟨by rw [hg 21 1 (by omega)]; exact h.1, h.2.1, fun j hj => ?_⟩
  rw [hg 22 j (by omega)]; exact h.2.2 j hj
def DRx (J : Nat → Nat → Int) (r : Nat → Int) : Prop := (∀ k, k < 4 → J 17 k = r k) ∧ ∀ s, s < 4 → J 18 s = r (4 + 3 * s) ∧ J 19 s = r (5 + 3 * s) ∧ J 20 s = r (6 + 3 * s)
theorem DRx.of {J K : Nat → Nat → Int} {r : Nat → Int} (h : DRx J r) (hg : GFx J K) : DRx K r := by
  refine ⟨fun k hk => by rw [hg 17 k (by omega)]; exact h.1 k hk, fun s hs => ?_⟩
  rw [hg 18 s (by omega), hg 19 s (by omega), hg 20 s (by omega)]; exact h.2 s hs
def LFx (I J : Nat → Nat → Int) : Prop := ∀ i b, ¬ (i = 21 ∧ 3 ≤ b) → ¬ (17 ≤ i ∧ i ≤ 20) → J i b = I i b
theorem GFx.lf {I J : Nat → Nat → Int} (h : GFx I J) : LFx I J := fun i b q _ => h i b q
theorem LFx.trans {I J K : Nat → Nat → Int} (h : LFx I J) (h' : LFx J K) : LFx I K := fun i b q q2 => (h' i b q q2).trans (h i b q q2)
theorem TXx.lf {f : Nat → Int} {n : Nat} {I J : Nat → Nat → Int} (h : TXx f n I) (hg : LFx I J) : TXx f n J := by
  refine ⟨by rw [hg 21 1 (by omega) (by omega)]; exact h.1, h.2.1, fun j hj => ?_⟩
  rw [hg 22 j (by omega) (by omega)]; exact h.2.2 j hj
theorem DRx.put {J : Nat → Nat → Int} {r : Nat → Int} {k : Nat} {v : Int} (h : DRx J r) (hk : k < 4) : DRx (ab_u J 17 k v) (upR r k v) := by
  have hu : ∀ j, upR r k v j = if j = k then v else r j := fun _ => rfl
  refine ⟨fun k' hk' => ?_, fun s hs => ?_⟩
  · by_cases e : k' = k
    · rw [e, ab_u_s, hu, if_pos rfl]
    · rw [ab_u_j e, hu, if_neg e]; exact h.1 k' hk'
  · rw [ab_u_i (by decide), ab_u_i (by decide), ab_u_i (by decide), hu, hu, hu, if_neg (by omega), if_neg (by omega), if_neg (by omega)]; exact h.2 s hs
theorem DRx.put3 {J : Nat → Nat → Int} {r : Nat → Int} {s : Nat} {a b c : Int} (h : DRx J r) (hs : s < 4) : DRx (ab_u (ab_u (ab_u J 18 s a) 19 s b) 20 s c) (up3 r s a b c) := by
  obtain ⟨e1, e2, e3, e4⟩ := up3_at r s a b c
  refine ⟨fun k hk => ?_, fun s' hs' => ?_⟩
  · rw [ab_u_i (by decide), ab_u_i (by decide), ab_u_i (by decide), e4 k (by omega)]; exact h.1 k hk
  · by_cases q : s' = s
    · subst q
      rw [e1, e2, e3]
      simp [ab_u]
    · have := h.2 s' hs'
      rw [e4 _ (by omega), e4 _ (by omega), e4 _ (by omega)]
      simp [ab_u, q, this]
set_option maxHeartbeats 4000000 in
set_option maxRecDepth 100000 in
theorem ct_X9_lookOf (G : ab_G) (h0 : ab_H) (z : Int) (hz : ab_In z) : Ct G 0 0 0 YX9_lookOf [ab_i z] h0 (fun r h => r = some (ab_i (lkT z : Int)) ∧ h = h0) := by
  refine Ct.ofW kX9_lookOf (ls := [some (ab_i z)]) (Nat.le_of_ble_eq_true rfl) rfl ?_
  refine aw_iload_n dX9_lookOf_0 rfl ?_
  refine aw_bipush dX9_lookOf_1 rfl ?_
  refine aw_icmp_lt (tgt := 14) dX9_lookOf_3 rfl (by first | assumption | (unfold ab_In at *; omega)) (by first | assumption | (unfold ab_In at *; omega)) (fun c_3 => ?_) (fun c_3 => ?_)
  · refine aw_iload_n dX9_lookOf_14 rfl ?_
    refine aw_bipush dX9_lookOf_15 rfl ?_
    refine aw_icmp_lt (tgt := 30) dX9_lookOf_17 rfl (by first | assumption | (unfold ab_In at *; omega)) (by first | assumption | (unfold ab_In at *; omega)) (fun c_17 => ?_) (fun c_17 => ?_)
    · refine aw_iconst dX9_lookOf_30 ?_
      refine aw_ireturn dX9_lookOf_31 rfl ?_
      exact ⟨by unfold lkT; first | (rw [if_pos (by omega)]; rfl) | (rw [if_neg (by omega), if_pos (by omega)]; rfl) | (rw [if_neg (by omega), if_neg (by omega)]; rfl), rfl⟩
    · refine aw_iload_n dX9_lookOf_20 rfl ?_
      refine aw_bipush dX9_lookOf_21 rfl ?_
      refine aw_icmp_gt (tgt := 30) dX9_lookOf_23 rfl (by first | assumption | (unfold ab_In at *; omega)) (by first | assumption | (unfold ab_In at *; omega)) (fun c_23 => ?_) (fun c_23 => ?_)
      · refine aw_iconst dX9_lookOf_30 ?_
        refine aw_ireturn dX9_lookOf_31 rfl ?_
        exact ⟨by unfold lkT; first | (rw [if_pos (by omega)]; rfl) | (rw [if_neg (by omega), if_pos (by omega)]; rfl) | (rw [if_neg (by omega), if_neg (by omega)]; rfl), rfl⟩
      · refine aw_iconst dX9_lookOf_26 ?_
        refine aw_goto (tgt := 31) dX9_lookOf_27 rfl ?_
        refine aw_ireturn dX9_lookOf_31 rfl ?_
        exact ⟨by unfold lkT; first | (rw [if_pos (by omega)]; rfl) | (rw [if_neg (by omega), if_pos (by omega)]; rfl) | (rw [if_neg (by omega), if_neg (by omega)]; rfl), rfl⟩
  · refine aw_iload_n dX9_lookOf_6 rfl ?_
    refine aw_bipush dX9_lookOf_7 rfl ?_
    refine aw_icmp_gt (tgt := 14) dX9_lookOf_9 rfl (by first | assumption | (unfold ab_In at *; omega)) (by first | assumption | (unfold ab_In at *; omega)) (fun c_9 => ?_) (fun c_9 => ?_)
    · refine aw_iload_n dX9_lookOf_14 rfl ?_
      refine aw_bipush dX9_lookOf_15 rfl ?_
      refine aw_icmp_lt (tgt := 30) dX9_lookOf_17 rfl (by first | assumption | (unfold ab_In at *; omega)) (by first | assumption | (unfold ab_In at *; omega)) (fun c_17 => ?_) (fun c_17 => ?_)
      · refine aw_iconst dX9_lookOf_30 ?_
        refine aw_ireturn dX9_lookOf_31 rfl ?_
        exact ⟨by unfold lkT; first | (rw [if_pos (by omega)]; rfl) | (rw [if_neg (by omega), if_pos (by omega)]; rfl) | (rw [if_neg (by omega), if_neg (by omega)]; rfl), rfl⟩
      · refine aw_iload_n dX9_lookOf_20 rfl ?_
        refine aw_bipush dX9_lookOf_21 rfl ?_
        refine aw_icmp_gt (tgt := 30) dX9_lookOf_23 rfl (by first | assumption | (unfold ab_In at *; omega)) (by first | assumption | (unfold ab_In at *; omega)) (fun c_23 => ?_) (fun c_23 => ?_)
        · refine aw_iconst dX9_lookOf_30 ?_
          refine aw_ireturn dX9_lookOf_31 rfl ?_
          exact ⟨by unfold lkT; first | (rw [if_pos (by omega)]; rfl) | (rw [if_neg (by omega), if_pos (by omega)]; rfl) | (rw [if_neg (by omega), if_neg (by omega)]; rfl), rfl⟩
        · refine aw_iconst dX9_lookOf_26 ?_
          refine aw_goto (tgt := 31) dX9_lookOf_27 rfl ?_
          refine aw_ireturn dX9_lookOf_31 rfl ?_
          exact ⟨by unfold lkT; first | (rw [if_pos (by omega)]; rfl) | (rw [if_neg (by omega), if_pos (by omega)]; rfl) | (rw [if_neg (by omega), if_neg (by omega)]; rfl), rfl⟩
    · refine aw_iconst dX9_lookOf_12 ?_
      refine aw_ireturn dX9_lookOf_13 rfl ?_
      exact ⟨by unfold lkT; first | (rw [if_pos (by omega)]; rfl) | (rw [if_neg (by omega), if_pos (by omega)]; rfl) | (rw [if_neg (by omega), if_neg (by omega)]; rfl), rfl⟩
set_option maxHeartbeats 4000000 in
set_option maxRecDepth 100000 in
theorem ct_X9_goOn (G : ab_G) (I : Nat → Nat → Int) (F : Nat → Nat → Nat) (hF : ab_FB F) (f : Nat → Int) (n : Nat) (hX : TXx f n I) (p : Nat) (hp : p ≤ n) (he : I 21 4 = (p : Int)) : Ct G 1 0 0 YX9_goOn [ab_r 21] (104, I, F) (fun r h => r = none ∧ ∃ J : Nat → Nat → Int, h = (104, J, F) ∧ GFx I J ∧ TSx f n p J) := by
  refine Ct.ofW kX9_goOn (ls := [some (ab_r 21)]) (Nat.le_of_ble_eq_true rfl) rfl ?_
  generalize hZ : ab_Z G (fun r h => r = none ∧ ∃ J : Nat → Nat → Int, h = (104, J, F) ∧ GFx I J ∧ TSx f n p J) 0 0 = Z
  have hn160 := hX.2.1
  obtain ⟨s, hs⟩ : ∃ s, tsT f n p = s := ⟨_, rfl⟩
  have hsb := ts_bd (f := f) hp
  rw [hs] at hsb
  have s46 : ∀ (J : Nat → Nat → Int), GFx I J → J 21 3 = (s : Int) → aW G YX9_goOn (ab_rm 1 0 0) Z 0 0 (104, J, F) 46 [some (ab_r 21)] [] := by
    intro J hg h3
    have hn1 : J 21 1 = (n : Int) := (hg 21 1 (by omega)).trans hX.1
    by_cases hlt : s < n
    · have hfq := hX.2.2 s (by omega)
      have h22 : J 22 s = f s := (hg 22 s (by omega)).trans hfq.1
      obtain ⟨l, hl⟩ : ∃ l, lkT (f s) = l := ⟨_, rfl⟩
      have hl2 : l ≤ 2 := by rw [← hl]; exact lk_le _
      have htl : tlT f n p = l := by unfold tlT; rw [hs, if_pos hlt]; exact hl
      by_cases h0 : l = 0
      · have hte : teT f n p = s + 1 := by rw [tok_0 (by rw [hs]; exact hlt) (by rw [htl]; exact h0), hs]
        refine aw_aload_n dX9_goOn_46 rfl (by decide) ?_
        refine aw_aload_n dX9_goOn_47 rfl (by decide) ?_
        refine aw_getiv (v := (s : Int)) dX9_goOn_48 fX9_37 ⟨Nat.le_of_ble_eq_true rfl, Nat.le_of_ble_eq_true rfl⟩ rfl rfl h3 ?_
        refine aw_puti dX9_goOn_51 fX9_27 ⟨Nat.le_of_ble_eq_true rfl, Nat.le_of_ble_eq_true rfl⟩ rfl rfl ?_
        refine aw_aload_n dX9_goOn_54 rfl (by decide) ?_
        refine aw_iconst dX9_goOn_55 ?_
        refine aw_puti dX9_goOn_56 fX9_96 ⟨Nat.le_of_ble_eq_true rfl, Nat.le_of_ble_eq_true rfl⟩ rfl rfl ?_
        refine aw_aload_n dX9_goOn_59 rfl (by decide) ?_
        refine aw_getiv (v := (s : Int)) dX9_goOn_60 fX9_37 ⟨Nat.le_of_ble_eq_true rfl, Nat.le_of_ble_eq_true rfl⟩ rfl rfl (((ab_u_j (by decide)).trans (ab_u_j (by decide))).trans h3) ?_
        refine aw_aload_n dX9_goOn_63 rfl (by decide) ?_
        refine aw_getiv (v := (n : Int)) dX9_goOn_64 fX9_15 ⟨Nat.le_of_ble_eq_true rfl, Nat.le_of_ble_eq_true rfl⟩ rfl rfl (((ab_u_j (by decide)).trans (ab_u_j (by decide))).trans hn1) ?_
        refine aw_icmp_ne (tgt := 71) dX9_goOn_67 rfl (by first | assumption | (unfold ab_In at *; omega)) (by first | assumption | (unfold ab_In at *; omega)) (fun c_67 => ?_) (fun c_67 => ?_)
        · refine aw_aload_n dX9_goOn_71 rfl (by decide) ?_
          refine aw_aload_n dX9_goOn_72 rfl (by decide) ?_
          refine aw_getrv (r := 22) dX9_goOn_73 fX9_9 ⟨Nat.le_of_ble_eq_true rfl, Nat.le_of_ble_eq_true rfl⟩ rfl rfl (hF.at 21 0 22 rfl rfl rfl) ?_
          refine aw_aload_n dX9_goOn_76 rfl (by decide) ?_
          refine aw_getiv (v := (s : Int)) dX9_goOn_77 fX9_37 ⟨Nat.le_of_ble_eq_true rfl, Nat.le_of_ble_eq_true rfl⟩ rfl rfl (((ab_u_j (by decide)).trans (ab_u_j (by decide))).trans h3) ?_
          refine aw_caldq (q := s) (v := f s) dX9_goOn_80 ⟨Nat.le_of_ble_eq_true rfl, Nat.le_of_ble_eq_true rfl⟩ rfl (by omega) (by omega) (by decide) rfl (((ab_u_i (by decide)).trans (ab_u_i (by decide))).trans h22) ?_
          refine aw_callS (as := [ab_i (f s)]) (rest := [ab_r 21]) dX9_goOn_81 (ct_X9_lookOf G (104, ab_u (ab_u J 21 4 (s : Int)) 21 5 0, F) (f s) (by unfold ab_In; omega)) kX9_lookOf sX9_lookOf lX9_108 rfl (Nat.le_of_ble_eq_true rfl) (by decide) (by decide) (by decide) (by decide) ?_
          rintro _ _ ⟨rfl, rfl⟩
          rw [hl]
          refine aw_puti dX9_goOn_84 fX9_96 ⟨Nat.le_of_ble_eq_true rfl, Nat.le_of_ble_eq_true rfl⟩ rfl rfl ?_
          refine aw_aload_n dX9_goOn_87 rfl (by decide) ?_
          refine aw_dup dX9_goOn_88 rfl ?_
          refine aw_getiv (v := (s : Int)) dX9_goOn_89 fX9_27 ⟨Nat.le_of_ble_eq_true rfl, Nat.le_of_ble_eq_true rfl⟩ rfl rfl (((ab_u_j (by decide)).trans (ab_u_j (by decide))).trans ab_u_s) ?_
          refine aw_iconst dX9_goOn_92 ?_
          refine aw_iadd dX9_goOn_93 ?_
          refine aw_puti dX9_goOn_94 fX9_27 ⟨Nat.le_of_ble_eq_true rfl, Nat.le_of_ble_eq_true rfl⟩ rfl rfl ?_
          refine aw_aload_n dX9_goOn_97 rfl (by decide) ?_
          refine aw_getiv (v := (l : Int)) dX9_goOn_98 fX9_96 ⟨Nat.le_of_ble_eq_true rfl, Nat.le_of_ble_eq_true rfl⟩ rfl rfl ((ab_u_j (by decide)).trans ab_u_s) ?_
          refine aw_if_eq (tgt := 147) dX9_goOn_101 rfl (by first | assumption | (unfold ab_In at *; omega)) (fun c_101 => ?_) (fun c_101 => ?_)
          · rw [← hZ]
            refine aw_return dX9_goOn_147 rfl ?_
            refine ⟨rfl, _, rfl, fun i b q => ?_, ?_, ?_, ?_⟩
            · rw [ab_u_o (by omega)]; rw [ab_u_o (by omega)]; rw [ab_u_o (by omega)]; rw [ab_u_o (by omega)];  exact hg i b q
            · rw [hs]; simp [ab_u, h3]
            · rw [hte]; simp [ab_u, h3]
            · rw [htl]; simp [ab_u]
          · exfalso; omega
        · exfalso; omega
      · have hte : teT f n p = rnT f n l (n - (s + 1)) (s + 1) := by unfold teT; rw [hs, if_pos hlt, htl, if_neg h0]
        have lp : ∀ (u q : Nat) (J2 : Nat → Nat → Int), q + u = n → s < q → rnT f n l u q = teT f n p → GFx I J2 → J2 21 3 = (s : Int) → J2 21 4 = (q : Int) → J2 21 5 = (l : Int) → aW G YX9_goOn (ab_rm 1 0 0) Z 0 0 (104, J2, F) 97 [some (ab_r 21)] [] := by
          intro u
          induction u with
          | zero =>
            intro q J2 hq hsq hr hg h3 h4 h5
            have hn1 : J2 21 1 = (n : Int) := (hg 21 1 (by omega)).trans hX.1
            refine aw_aload_n dX9_goOn_97 rfl (by decide) ?_
            refine aw_getiv (v := (l : Int)) dX9_goOn_98 fX9_96 ⟨Nat.le_of_ble_eq_true rfl, Nat.le_of_ble_eq_true rfl⟩ rfl rfl h5 ?_
            refine aw_if_eq (tgt := 147) dX9_goOn_101 rfl (by first | assumption | (unfold ab_In at *; omega)) (fun c_101 => ?_) (fun c_101 => ?_)
            · exfalso; omega
            · refine aw_aload_n dX9_goOn_104 rfl (by decide) ?_
              refine aw_getiv (v := (q : Int)) dX9_goOn_105 fX9_27 ⟨Nat.le_of_ble_eq_true rfl, Nat.le_of_ble_eq_true rfl⟩ rfl rfl h4 ?_
              refine aw_aload_n dX9_goOn_108 rfl (by decide) ?_
              refine aw_getiv (v := (n : Int)) dX9_goOn_109 fX9_15 ⟨Nat.le_of_ble_eq_true rfl, Nat.le_of_ble_eq_true rfl⟩ rfl rfl hn1 ?_
              refine aw_icmp_ge (tgt := 147) dX9_goOn_112 rfl (by first | assumption | (unfold ab_In at *; omega)) (by first | assumption | (unfold ab_In at *; omega)) (fun c_112 => ?_) (fun c_112 => ?_)
              · rw [← hZ]
                refine aw_return dX9_goOn_147 rfl ?_
                exact ⟨rfl, J2, rfl, hg, by rw [hs]; exact h3, by rw [← hr, rnT]; exact h4, by rw [htl]; exact h5⟩
              · exfalso; omega
          | succ u ih =>
            intro q J2 hq hsq hr hg h3 h4 h5
            have hn1 : J2 21 1 = (n : Int) := (hg 21 1 (by omega)).trans hX.1
            have hfq := hX.2.2 q (by omega)
            have h22 : J2 22 q = f q := (hg 22 q (by omega)).trans hfq.1
            have hlq := lk_le (f q)
            refine aw_aload_n dX9_goOn_97 rfl (by decide) ?_
            refine aw_getiv (v := (l : Int)) dX9_goOn_98 fX9_96 ⟨Nat.le_of_ble_eq_true rfl, Nat.le_of_ble_eq_true rfl⟩ rfl rfl h5 ?_
            refine aw_if_eq (tgt := 147) dX9_goOn_101 rfl (by first | assumption | (unfold ab_In at *; omega)) (fun c_101 => ?_) (fun c_101 => ?_)
            · exfalso; omega
            · refine aw_aload_n dX9_goOn_104 rfl (by decide) ?_
              refine aw_getiv (v := (q : Int)) dX9_goOn_105 fX9_27 ⟨Nat.le_of_ble_eq_true rfl, Nat.le_of_ble_eq_true rfl⟩ rfl rfl h4 ?_
              refine aw_aload_n dX9_goOn_108 rfl (by decide) ?_
              refine aw_getiv (v := (n : Int)) dX9_goOn_109 fX9_15 ⟨Nat.le_of_ble_eq_true rfl, Nat.le_of_ble_eq_true rfl⟩ rfl rfl hn1 ?_
              refine aw_icmp_ge (tgt := 147) dX9_goOn_112 rfl (by first | assumption | (unfold ab_In at *; omega)) (by first | assumption | (unfold ab_In at *; omega)) (fun c_112 => ?_) (fun c_112 => ?_)
              · exfalso; omega
              · refine aw_aload_n dX9_goOn_115 rfl (by decide) ?_
                refine aw_getrv (r := 22) dX9_goOn_116 fX9_9 ⟨Nat.le_of_ble_eq_true rfl, Nat.le_of_ble_eq_true rfl⟩ rfl rfl (hF.at 21 0 22 rfl rfl rfl) ?_
                refine aw_aload_n dX9_goOn_119 rfl (by decide) ?_
                refine aw_getiv (v := (q : Int)) dX9_goOn_120 fX9_27 ⟨Nat.le_of_ble_eq_true rfl, Nat.le_of_ble_eq_true rfl⟩ rfl rfl h4 ?_
                refine aw_caldq (q := q) (v := f q) dX9_goOn_123 ⟨Nat.le_of_ble_eq_true rfl, Nat.le_of_ble_eq_true rfl⟩ rfl (by omega) (by omega) (by decide) rfl h22 ?_
                refine aw_callS (as := [ab_i (f q)]) (rest := []) dX9_goOn_124 (ct_X9_lookOf G (104, J2, F) (f q) (by unfold ab_In; omega)) kX9_lookOf sX9_lookOf lX9_108 rfl (Nat.le_of_ble_eq_true rfl) (by decide) (by decide) (by decide) (by decide) ?_
                rintro _ _ ⟨rfl, rfl⟩
                refine aw_aload_n dX9_goOn_127 rfl (by decide) ?_
                refine aw_getiv (v := (l : Int)) dX9_goOn_128 fX9_96 ⟨Nat.le_of_ble_eq_true rfl, Nat.le_of_ble_eq_true rfl⟩ rfl rfl h5 ?_
                refine aw_icmp_ne (tgt := 147) dX9_goOn_131 rfl (by first | assumption | (unfold ab_In at *; omega)) (by first | assumption | (unfold ab_In at *; omega)) (fun c_131 => ?_) (fun c_131 => ?_)
                · rw [← hZ]
                  refine aw_return dX9_goOn_147 rfl ?_
                  exact ⟨rfl, J2, rfl, hg, by rw [hs]; exact h3, by rw [← hr, rnT, if_neg (by omega)]; exact h4, by rw [htl]; exact h5⟩
                · refine aw_aload_n dX9_goOn_134 rfl (by decide) ?_
                  refine aw_dup dX9_goOn_135 rfl ?_
                  refine aw_getiv (v := (q : Int)) dX9_goOn_136 fX9_27 ⟨Nat.le_of_ble_eq_true rfl, Nat.le_of_ble_eq_true rfl⟩ rfl rfl h4 ?_
                  refine aw_iconst dX9_goOn_139 ?_
                  refine aw_iadd dX9_goOn_140 ?_
                  refine aw_puti dX9_goOn_141 fX9_27 ⟨Nat.le_of_ble_eq_true rfl, Nat.le_of_ble_eq_true rfl⟩ rfl rfl ?_
                  refine aw_goto (tgt := 97) dX9_goOn_144 rfl ?_
                  refine ih (q + 1) (ab_u J2 21 4 ((q : Int) + 1)) (by omega) (by omega) (by rw [← hr, rnT, if_pos ⟨by omega, by omega⟩]) (fun i b q9 => by rw [ab_u_o (by omega)]; exact hg i b q9) (by rw [ab_u_j (by decide)]; exact h3) (by rw [ab_u_s]; rfl) (by rw [ab_u_j (by decide)]; exact h5)
        refine aw_aload_n dX9_goOn_46 rfl (by decide) ?_
        refine aw_aload_n dX9_goOn_47 rfl (by decide) ?_
        refine aw_getiv (v := (s : Int)) dX9_goOn_48 fX9_37 ⟨Nat.le_of_ble_eq_true rfl, Nat.le_of_ble_eq_true rfl⟩ rfl rfl h3 ?_
        refine aw_puti dX9_goOn_51 fX9_27 ⟨Nat.le_of_ble_eq_true rfl, Nat.le_of_ble_eq_true rfl⟩ rfl rfl ?_
        refine aw_aload_n dX9_goOn_54 rfl (by decide) ?_
        refine aw_iconst dX9_goOn_55 ?_
        refine aw_puti dX9_goOn_56 fX9_96 ⟨Nat.le_of_ble_eq_true rfl, Nat.le_of_ble_eq_true rfl⟩ rfl rfl ?_
        refine aw_aload_n dX9_goOn_59 rfl (by decide) ?_
        refine aw_getiv (v := (s : Int)) dX9_goOn_60 fX9_37 ⟨Nat.le_of_ble_eq_true rfl, Nat.le_of_ble_eq_true rfl⟩ rfl rfl (((ab_u_j (by decide)).trans (ab_u_j (by decide))).trans h3) ?_
        refine aw_aload_n dX9_goOn_63 rfl (by decide) ?_
        refine aw_getiv (v := (n : Int)) dX9_goOn_64 fX9_15 ⟨Nat.le_of_ble_eq_true rfl, Nat.le_of_ble_eq_true rfl⟩ rfl rfl (((ab_u_j (by decide)).trans (ab_u_j (by decide))).trans hn1) ?_
        refine aw_icmp_ne (tgt := 71) dX9_goOn_67 rfl (by first | assumption | (unfold ab_In at *; omega)) (by first | assumption | (unfold ab_In at *; omega)) (fun c_67 => ?_) (fun c_67 => ?_)
        · refine aw_aload_n dX9_goOn_71 rfl (by decide) ?_
          refine aw_aload_n dX9_goOn_72 rfl (by decide) ?_
          refine aw_getrv (r := 22) dX9_goOn_73 fX9_9 ⟨Nat.le_of_ble_eq_true rfl, Nat.le_of_ble_eq_true rfl⟩ rfl rfl (hF.at 21 0 22 rfl rfl rfl) ?_
          refine aw_aload_n dX9_goOn_76 rfl (by decide) ?_
          refine aw_getiv (v := (s : Int)) dX9_goOn_77 fX9_37 ⟨Nat.le_of_ble_eq_true rfl, Nat.le_of_ble_eq_true rfl⟩ rfl rfl (((ab_u_j (by decide)).trans (ab_u_j (by decide))).trans h3) ?_
          refine aw_caldq (q := s) (v := f s) dX9_goOn_80 ⟨Nat.le_of_ble_eq_true rfl, Nat.le_of_ble_eq_true rfl⟩ rfl (by omega) (by omega) (by decide) rfl (((ab_u_i (by decide)).trans (ab_u_i (by decide))).trans h22) ?_
          refine aw_callS (as := [ab_i (f s)]) (rest := [ab_r 21]) dX9_goOn_81 (ct_X9_lookOf G (104, ab_u (ab_u J 21 4 (s : Int)) 21 5 0, F) (f s) (by unfold ab_In; omega)) kX9_lookOf sX9_lookOf lX9_108 rfl (Nat.le_of_ble_eq_true rfl) (by decide) (by decide) (by decide) (by decide) ?_
          rintro _ _ ⟨rfl, rfl⟩
          rw [hl]
          refine aw_puti dX9_goOn_84 fX9_96 ⟨Nat.le_of_ble_eq_true rfl, Nat.le_of_ble_eq_true rfl⟩ rfl rfl ?_
          refine aw_aload_n dX9_goOn_87 rfl (by decide) ?_
          refine aw_dup dX9_goOn_88 rfl ?_
          refine aw_getiv (v := (s : Int)) dX9_goOn_89 fX9_27 ⟨Nat.le_of_ble_eq_true rfl, Nat.le_of_ble_eq_true rfl⟩ rfl rfl (((ab_u_j (by decide)).trans (ab_u_j (by decide))).trans ab_u_s) ?_
          refine aw_iconst dX9_goOn_92 ?_
          refine aw_iadd dX9_goOn_93 ?_
          refine aw_puti dX9_goOn_94 fX9_27 ⟨Nat.le_of_ble_eq_true rfl, Nat.le_of_ble_eq_true rfl⟩ rfl rfl ?_
          refine lp (n - (s + 1)) (s + 1) _ (by omega) (by omega) hte.symm (fun i b q => ?_) ?_ ?_ ?_
          · rw [ab_u_o (by omega)]; rw [ab_u_o (by omega)]; rw [ab_u_o (by omega)]; rw [ab_u_o (by omega)];  exact hg i b q
          · simp [ab_u, h3]
          · simp [ab_u, h3]
          · simp [ab_u]
        · exfalso; omega
    · have hsn : s = n := by omega
      have htl : tlT f n p = 0 := by unfold tlT; rw [hs, if_neg hlt]
      have hte : teT f n p = s := by unfold teT; rw [hs, if_neg hlt]
      refine aw_aload_n dX9_goOn_46 rfl (by decide) ?_
      refine aw_aload_n dX9_goOn_47 rfl (by decide) ?_
      refine aw_getiv (v := (s : Int)) dX9_goOn_48 fX9_37 ⟨Nat.le_of_ble_eq_true rfl, Nat.le_of_ble_eq_true rfl⟩ rfl rfl h3 ?_
      refine aw_puti dX9_goOn_51 fX9_27 ⟨Nat.le_of_ble_eq_true rfl, Nat.le_of_ble_eq_true rfl⟩ rfl rfl ?_
      refine aw_aload_n dX9_goOn_54 rfl (by decide) ?_
      refine aw_iconst dX9_goOn_55 ?_
      refine aw_puti dX9_goOn_56 fX9_96 ⟨Nat.le_of_ble_eq_true rfl, Nat.le_of_ble_eq_true rfl⟩ rfl rfl ?_
      refine aw_aload_n dX9_goOn_59 rfl (by decide) ?_
      refine aw_getiv (v := (s : Int)) dX9_goOn_60 fX9_37 ⟨Nat.le_of_ble_eq_true rfl, Nat.le_of_ble_eq_true rfl⟩ rfl rfl (((ab_u_j (by decide)).trans (ab_u_j (by decide))).trans h3) ?_
      refine aw_aload_n dX9_goOn_63 rfl (by decide) ?_
      refine aw_getiv (v := (n : Int)) dX9_goOn_64 fX9_15 ⟨Nat.le_of_ble_eq_true rfl, Nat.le_of_ble_eq_true rfl⟩ rfl rfl (((ab_u_j (by decide)).trans (ab_u_j (by decide))).trans hn1) ?_
      refine aw_icmp_ne (tgt := 71) dX9_goOn_67 rfl (by first | assumption | (unfold ab_In at *; omega)) (by first | assumption | (unfold ab_In at *; omega)) (fun c_67 => ?_) (fun c_67 => ?_)
      · exfalso; omega
      · rw [← hZ]
        refine aw_return dX9_goOn_70 rfl ?_
        refine ⟨rfl, _, rfl, fun i b q => ?_, ?_, ?_, ?_⟩
        · rw [ab_u_o (by omega)]; rw [ab_u_o (by omega)];  exact hg i b q
        · rw [hs]; simp [ab_u, h3]
        · rw [hte]; simp [ab_u, h3]
        · rw [htl]; simp [ab_u]
  have lp0 : ∀ (u q : Nat) (J : Nat → Nat → Int), q + u = n → skT f n u q = s → GFx I J → J 21 3 = (q : Int) → aW G YX9_goOn (ab_rm 1 0 0) Z 0 0 (104, J, F) 8 [some (ab_r 21)] [] := by
    intro u
    induction u with
    | zero =>
      intro q J hq hr hg h3
      have hn1 : J 21 1 = (n : Int) := (hg 21 1 (by omega)).trans hX.1
      have hqs : q = s := hr
      refine aw_aload_n dX9_goOn_8 rfl (by decide) ?_
      refine aw_getiv (v := (q : Int)) dX9_goOn_9 fX9_37 ⟨Nat.le_of_ble_eq_true rfl, Nat.le_of_ble_eq_true rfl⟩ rfl rfl h3 ?_
      refine aw_aload_n dX9_goOn_12 rfl (by decide) ?_
      refine aw_getiv (v := (n : Int)) dX9_goOn_13 fX9_15 ⟨Nat.le_of_ble_eq_true rfl, Nat.le_of_ble_eq_true rfl⟩ rfl rfl hn1 ?_
      refine aw_icmp_ge (tgt := 46) dX9_goOn_16 rfl (by first | assumption | (unfold ab_In at *; omega)) (by first | assumption | (unfold ab_In at *; omega)) (fun c_16 => ?_) (fun c_16 => ?_)
      · exact s46 J hg (by rw [h3, hqs])
      · exfalso; omega
    | succ u ih =>
      intro q J hq hr hg h3
      have hn1 : J 21 1 = (n : Int) := (hg 21 1 (by omega)).trans hX.1
      have hfq := hX.2.2 q (by omega)
      have h22 : J 22 q = f q := (hg 22 q (by omega)).trans hfq.1
      refine aw_aload_n dX9_goOn_8 rfl (by decide) ?_
      refine aw_getiv (v := (q : Int)) dX9_goOn_9 fX9_37 ⟨Nat.le_of_ble_eq_true rfl, Nat.le_of_ble_eq_true rfl⟩ rfl rfl h3 ?_
      refine aw_aload_n dX9_goOn_12 rfl (by decide) ?_
      refine aw_getiv (v := (n : Int)) dX9_goOn_13 fX9_15 ⟨Nat.le_of_ble_eq_true rfl, Nat.le_of_ble_eq_true rfl⟩ rfl rfl hn1 ?_
      refine aw_icmp_ge (tgt := 46) dX9_goOn_16 rfl (by first | assumption | (unfold ab_In at *; omega)) (by first | assumption | (unfold ab_In at *; omega)) (fun c_16 => ?_) (fun c_16 => ?_)
      · exfalso; omega
      · refine aw_aload_n dX9_goOn_19 rfl (by decide) ?_
        refine aw_getrv (r := 22) dX9_goOn_20 fX9_9 ⟨Nat.le_of_ble_eq_true rfl, Nat.le_of_ble_eq_true rfl⟩ rfl rfl (hF.at 21 0 22 rfl rfl rfl) ?_
        refine aw_aload_n dX9_goOn_23 rfl (by decide) ?_
        refine aw_getiv (v := (q : Int)) dX9_goOn_24 fX9_37 ⟨Nat.le_of_ble_eq_true rfl, Nat.le_of_ble_eq_true rfl⟩ rfl rfl h3 ?_
        refine aw_caldq (q := q) (v := f q) dX9_goOn_27 ⟨Nat.le_of_ble_eq_true rfl, Nat.le_of_ble_eq_true rfl⟩ rfl (by omega) (by omega) (by decide) rfl h22 ?_
        refine aw_bipush dX9_goOn_28 rfl ?_
        refine aw_icmp_ne (tgt := 46) dX9_goOn_30 rfl (by first | assumption | (unfold ab_In at *; omega)) (by first | assumption | (unfold ab_In at *; omega)) (fun c_30 => ?_) (fun c_30 => ?_)
        · have hqs : q = s := by rw [← hr, skT, if_neg (by omega)]
          exact s46 J hg (by rw [h3, hqs])
        · refine aw_aload_n dX9_goOn_33 rfl (by decide) ?_
          refine aw_dup dX9_goOn_34 rfl ?_
          refine aw_getiv (v := (q : Int)) dX9_goOn_35 fX9_37 ⟨Nat.le_of_ble_eq_true rfl, Nat.le_of_ble_eq_true rfl⟩ rfl rfl h3 ?_
          refine aw_iconst dX9_goOn_38 ?_
          refine aw_iadd dX9_goOn_39 ?_
          refine aw_puti dX9_goOn_40 fX9_37 ⟨Nat.le_of_ble_eq_true rfl, Nat.le_of_ble_eq_true rfl⟩ rfl rfl ?_
          refine aw_goto (tgt := 8) dX9_goOn_43 rfl ?_
          exact ih (q + 1) (ab_u J 21 3 ((q : Int) + 1)) (by omega) (by rw [← hr, skT, if_pos ⟨by omega, by omega⟩]) (fun i b q9 => by rw [ab_u_o (by omega)]; exact hg i b q9) (by rw [ab_u_s]; rfl)
  refine aw_aload_n dX9_goOn_0 rfl (by decide) ?_
  refine aw_aload_n dX9_goOn_1 rfl (by decide) ?_
  refine aw_getiv (v := (p : Int)) dX9_goOn_2 fX9_27 ⟨Nat.le_of_ble_eq_true rfl, Nat.le_of_ble_eq_true rfl⟩ rfl rfl he ?_
  refine aw_puti dX9_goOn_5 fX9_37 ⟨Nat.le_of_ble_eq_true rfl, Nat.le_of_ble_eq_true rfl⟩ rfl rfl ?_
  exact lp0 (n - p) p _ (by omega) hs (fun i b q9 => ab_u_o (by omega)) ab_u_s
set_option maxHeartbeats 4000000 in
set_option maxRecDepth 100000 in
theorem ct_X9_pass (G : ab_G) (I : Nat → Nat → Int) (F : Nat → Nat → Nat) (hF : ab_FB F) (f : Nat → Int) (n : Nat) (hX : TXx f n I) (p : Nat) (hp : p ≤ n) (hS : TSx f n p I) (i : Nat) (hi : i < 15) : Ct G 4 0 0 YX9_pass [ab_r 21, ab_r (1100 + i)] (104, I, F) (fun r h => (tkT f n p = pcT i ∧ ∃ J : Nat → Nat → Int, r = some (ab_i 1) ∧ h = (104, J, F) ∧ GFx I J ∧ TSx f n (teT f n p) J) ∨ (¬ tkT f n p = pcT i ∧ r = some (ab_i 0) ∧ h = (104, I, F))) := by
  refine Ct.ofW kX9_pass (ls := [some (ab_r 21), some (ab_r (1100 + i)), none]) (Nat.le_of_ble_eq_true rfl) rfl ?_
  generalize hZ : ab_Z G (fun r h => (tkT f n p = pcT i ∧ ∃ J : Nat → Nat → Int, r = some (ab_i 1) ∧ h = (104, J, F) ∧ GFx I J ∧ TSx f n (teT f n p) J) ∨ (¬ tkT f n p = pcT i ∧ r = some (ab_i 0) ∧ h = (104, I, F))) 0 0 = Z
  have hn160 := hX.2.1
  have hpt := pass_tk (f := f) (n := n) (p := p) hi
  have hwl := wl_all ⟨i, hi⟩
  simp only [] at hwl
  obtain ⟨h3, h4, h5⟩ := hS
  have hsb := ts_bd (f := f) hp
  have heb := te_bd (f := f) hp
  have hgo := ct_X9_goOn G I F hF f n hX (teT f n p) heb.2 h4
  generalize tsT f n p = s at h3 hsb heb hpt
  generalize teT f n p = e at h4 heb hpt hgo hZ
  have lp : e - s = wlT i → ∀ (d j : Nat), j + d = wlT i → (∀ j9, j9 < j → f (s + j9) = wcT i j9) → aW G YX9_pass (ab_rm 4 0 0) Z 0 0 (104, I, F) 20 [some (ab_r 21), some (ab_r (1100 + i)), some (ab_i (j : Int))] [] := by
    intro hes d
    induction d with
    | zero =>
      intro j hj hall
      have hjw : j = wlT i := by omega
      subst hjw
      refine aw_iload_n dX9_pass_20 rfl ?_
      refine aw_aload_n dX9_pass_21 rfl (by omega) ?_
      refine aw_callVS (as := []) (rest := [ab_i (wlT i : Int)]) hi dX9_pass_22 (ct_slength G (104, I, F) i hi) rfl kJ0_length_8abf5 iJ0_length_8abf5 eJ0_length_8abf5 lX9_99 rfl (Nat.le_of_ble_eq_true rfl) (by decide) (by decide) (by decide) (by decide) ?_
      rintro _ _ ⟨rfl, rfl⟩
      refine aw_icmp_ge (tgt := 55) dX9_pass_25 rfl (by first | assumption | (unfold ab_In at *; omega)) (by first | assumption | (unfold ab_In at *; omega)) (fun c_25 => ?_) (fun c_25 => ?_)
      · refine aw_aload_n dX9_pass_55 rfl (by decide) ?_
        refine aw_callV (as := []) (rest := []) dX9_pass_56 hgo ⟨Nat.le_of_ble_eq_true rfl, Nat.le_of_ble_eq_true rfl⟩ rfl kc9 rfl kX9_goOn iX9_goOn eX9_goOn lX9_30 rfl (Nat.le_of_ble_eq_true rfl) (by decide) (by decide) (by decide) (by decide) ?_
        rintro _ _ ⟨rfl, J, rfl, hg, hS2⟩
        refine aw_iconst dX9_pass_59 ?_
        rw [← hZ]
        refine aw_breturn dX9_pass_60 rfl (by omega) ?_
        exact Or.inl ⟨hpt.mp ⟨hes, hall⟩, J, rfl, rfl, hg, hS2⟩
      · exfalso; omega
    | succ d ih =>
      intro j hj hall
      have hfq := hX.2.2 (s + j) (by omega)
      have hwc := (wc_all ⟨i, hi⟩ ⟨j, by omega⟩ (by show j < wlT i; omega)).1
      simp only [] at hwc
      refine aw_iload_n dX9_pass_20 rfl ?_
      refine aw_aload_n dX9_pass_21 rfl (by omega) ?_
      refine aw_callVS (as := []) (rest := [ab_i (j : Int)]) hi dX9_pass_22 (ct_slength G (104, I, F) i hi) rfl kJ0_length_8abf5 iJ0_length_8abf5 eJ0_length_8abf5 lX9_99 rfl (Nat.le_of_ble_eq_true rfl) (by decide) (by decide) (by decide) (by decide) ?_
      rintro _ _ ⟨rfl, rfl⟩
      refine aw_icmp_ge (tgt := 55) dX9_pass_25 rfl (by first | assumption | (unfold ab_In at *; omega)) (by first | assumption | (unfold ab_In at *; omega)) (fun c_25 => ?_) (fun c_25 => ?_)
      · exfalso; omega
      · refine aw_aload_n dX9_pass_28 rfl (by decide) ?_
        refine aw_getrv (r := 22) dX9_pass_29 fX9_9 ⟨Nat.le_of_ble_eq_true rfl, Nat.le_of_ble_eq_true rfl⟩ rfl rfl (hF.at 21 0 22 rfl rfl rfl) ?_
        refine aw_aload_n dX9_pass_32 rfl (by decide) ?_
        refine aw_getiv (v := (s : Int)) dX9_pass_33 fX9_37 ⟨Nat.le_of_ble_eq_true rfl, Nat.le_of_ble_eq_true rfl⟩ rfl rfl h3 ?_
        refine aw_iload_n dX9_pass_36 rfl ?_
        refine aw_iadd dX9_pass_37 ?_
        refine aw_caldq (q := (s + j)) (v := f (s + j)) dX9_pass_38 ⟨Nat.le_of_ble_eq_true rfl, Nat.le_of_ble_eq_true rfl⟩ rfl (by omega) (by omega) (by decide) (by omega) hfq.1 ?_
        refine aw_aload_n dX9_pass_39 rfl (by omega) ?_
        refine aw_iload_n dX9_pass_40 rfl ?_
        refine aw_callVS (as := [ab_i (j : Int)]) (rest := [ab_i (f (s + j))]) hi dX9_pass_41 (ct_scharAt G (104, I, F) i j hi (by omega)) rfl kJ0_charAt_5068e iJ0_charAt_5068e eJ0_charAt_5068e lX9_104 rfl (Nat.le_of_ble_eq_true rfl) (by decide) (by decide) (by decide) (by decide) ?_
        rintro _ _ ⟨rfl, rfl⟩
        refine aw_icmp_eq (tgt := 49) dX9_pass_44 rfl (by first | assumption | (unfold ab_In at *; omega)) (by first | assumption | (unfold ab_In at *; omega)) (fun c_44 => ?_) (fun c_44 => ?_)
        · refine aw_iinc (ls' := [some (ab_r 21), some (ab_r (1100 + i)), some (ab_i ((j : Int) + 1))]) dX9_pass_49 (by decide) rfl rfl ?_
          refine aw_goto (tgt := 20) dX9_pass_52 rfl ?_
          refine ih (j + 1) (by omega) (fun j9 h9 => ?_)
          by_cases q : j9 = j
          · rw [q]; exact c_44
          · exact hall j9 (by omega)
        · refine aw_iconst dX9_pass_47 ?_
          rw [← hZ]
          refine aw_breturn dX9_pass_48 rfl (by omega) ?_
          exact Or.inr ⟨fun q => c_44 ((hpt.mpr q).2 j (by omega)), rfl, rfl⟩
  refine aw_aload_n dX9_pass_0 rfl (by decide) ?_
  refine aw_getiv (v := (e : Int)) dX9_pass_1 fX9_27 ⟨Nat.le_of_ble_eq_true rfl, Nat.le_of_ble_eq_true rfl⟩ rfl rfl h4 ?_
  refine aw_aload_n dX9_pass_4 rfl (by decide) ?_
  refine aw_getiv (v := (s : Int)) dX9_pass_5 fX9_37 ⟨Nat.le_of_ble_eq_true rfl, Nat.le_of_ble_eq_true rfl⟩ rfl rfl h3 ?_
  refine aw_isub dX9_pass_8 ?_
  refine aw_aload_n dX9_pass_9 rfl (by omega) ?_
  refine aw_callVS (as := []) (rest := [ab_i ((e : Int) - (s : Int))]) hi dX9_pass_10 (ct_slength G (104, I, F) i hi) rfl kJ0_length_8abf5 iJ0_length_8abf5 eJ0_length_8abf5 lX9_99 rfl (Nat.le_of_ble_eq_true rfl) (by decide) (by decide) (by decide) (by decide) ?_
  rintro _ _ ⟨rfl, rfl⟩
  refine aw_icmp_eq (tgt := 18) dX9_pass_13 rfl (by first | assumption | (unfold ab_In at *; omega)) (by first | assumption | (unfold ab_In at *; omega)) (fun c_13 => ?_) (fun c_13 => ?_)
  · refine aw_iconst dX9_pass_18 ?_
    refine aw_istore_n (ls' := [some (ab_r 21), some (ab_r (1100 + i)), some (ab_i 0)]) dX9_pass_19 (by decide) rfl ?_
    exact lp (by omega) (wlT i) 0 (by omega) (fun j9 h9 => by omega)
  · refine aw_iconst dX9_pass_16 ?_
    rw [← hZ]
    refine aw_breturn dX9_pass_17 rfl (by omega) ?_
    exact Or.inr ⟨fun q => c_13 (by have := (hpt.mpr q).1; omega), rfl, rfl⟩
set_option maxHeartbeats 4000000 in
set_option maxRecDepth 100000 in
theorem ct_X9_choose (G : ab_G) (I : Nat → Nat → Int) (F : Nat → Nat → Nat) (hF : ab_FB F) (f : Nat → Int) (n : Nat) (hX : TXx f n I) (p : Nat) (hp : p ≤ n) (hS : TSx f n p I) (a b c : Nat) (ha : a < 15) (hb : b < 15) (hc : c < 15) : Ct G 5 0 0 YX9_choose [ab_r 21, ab_r (1100 + a), ab_r (1100 + b), ab_r (1100 + c)] (104, I, F) (fun r h => (¬ chT f n p (pcT a) (pcT b) (pcT c) = -1 ∧ ∃ J : Nat → Nat → Int, r = some (ab_i (chT f n p (pcT a) (pcT b) (pcT c))) ∧ h = (104, J, F) ∧ GFx I J ∧ TSx f n (teT f n p) J) ∨ (chT f n p (pcT a) (pcT b) (pcT c) = -1 ∧ r = some (ab_i (-1)) ∧ h = (104, I, F))) := by
  refine Ct.ofW kX9_choose (ls := [some (ab_r 21), some (ab_r (1100 + a)), some (ab_r (1100 + b)), some (ab_r (1100 + c))]) (Nat.le_of_ble_eq_true rfl) rfl ?_
  refine aw_aload_n dX9_choose_0 rfl (by decide) ?_
  refine aw_aload_n dX9_choose_1 rfl (by omega) ?_
  refine aw_callV (as := [ab_r (1100 + a)]) (rest := []) dX9_choose_2 (ct_X9_pass G I F hF f n hX p hp hS a ha) ⟨Nat.le_of_ble_eq_true rfl, Nat.le_of_ble_eq_true rfl⟩ rfl kc9 rfl kX9_pass iX9_pass eX9_pass lX9_42 rfl (Nat.le_of_ble_eq_true rfl) (by decide) (by decide) (by decide) (by decide) ?_
  rintro _ _ (⟨q1, J, rfl, rfl, hg, hS2⟩ | ⟨q1, rfl, rfl⟩)
  · skip
    refine aw_if_eq (tgt := 10) dX9_choose_5 rfl ⟨by decide, by decide⟩ (fun c9 => absurd c9 (by decide)) (fun _ => ?_)
    refine aw_iconst dX9_choose_8 ?_
    refine aw_ireturn dX9_choose_9 rfl ?_
    have hv : chT f n p (pcT a) (pcT b) (pcT c) = 0 := by unfold chT; rw [if_pos q1]
    exact Or.inl ⟨by rw [hv]; decide, J, by rw [hv], rfl, hg, hS2⟩
  · skip
    refine aw_if_eq (tgt := 10) dX9_choose_5 rfl ⟨by decide, by decide⟩ (fun _ => ?_) (fun c9 => absurd (by decide) c9)
    refine aw_aload_n dX9_choose_10 rfl (by decide) ?_
    refine aw_aload_n dX9_choose_11 rfl (by omega) ?_
    refine aw_callV (as := [ab_r (1100 + b)]) (rest := []) dX9_choose_12 (ct_X9_pass G I F hF f n hX p hp hS b hb) ⟨Nat.le_of_ble_eq_true rfl, Nat.le_of_ble_eq_true rfl⟩ rfl kc9 rfl kX9_pass iX9_pass eX9_pass lX9_42 rfl (Nat.le_of_ble_eq_true rfl) (by decide) (by decide) (by decide) (by decide) ?_
    rintro _ _ (⟨q2, J, rfl, rfl, hg, hS2⟩ | ⟨q2, rfl, rfl⟩)
    · skip
      refine aw_if_eq (tgt := 20) dX9_choose_15 rfl ⟨by decide, by decide⟩ (fun c9 => absurd c9 (by decide)) (fun _ => ?_)
      refine aw_iconst dX9_choose_18 ?_
      refine aw_ireturn dX9_choose_19 rfl ?_
      have hv : chT f n p (pcT a) (pcT b) (pcT c) = 1 := by unfold chT; rw [if_neg q1, if_pos q2]
      exact Or.inl ⟨by rw [hv]; decide, J, by rw [hv], rfl, hg, hS2⟩
    · skip
      refine aw_if_eq (tgt := 20) dX9_choose_15 rfl ⟨by decide, by decide⟩ (fun _ => ?_) (fun c9 => absurd (by decide) c9)
      refine aw_aload_n dX9_choose_20 rfl (by decide) ?_
      refine aw_aload_n dX9_choose_21 rfl (by omega) ?_
      refine aw_callV (as := [ab_r (1100 + c)]) (rest := []) dX9_choose_22 (ct_X9_pass G I F hF f n hX p hp hS c hc) ⟨Nat.le_of_ble_eq_true rfl, Nat.le_of_ble_eq_true rfl⟩ rfl kc9 rfl kX9_pass iX9_pass eX9_pass lX9_42 rfl (Nat.le_of_ble_eq_true rfl) (by decide) (by decide) (by decide) (by decide) ?_
      rintro _ _ (⟨q3, J, rfl, rfl, hg, hS2⟩ | ⟨q3, rfl, rfl⟩)
      · skip
        refine aw_if_eq (tgt := 32) dX9_choose_25 rfl ⟨by decide, by decide⟩ (fun c9 => absurd c9 (by decide)) (fun _ => ?_)
        refine aw_iconst dX9_choose_28 ?_
        refine aw_goto (tgt := 33) dX9_choose_29 rfl ?_
        refine aw_ireturn dX9_choose_33 rfl ?_
        have hv : chT f n p (pcT a) (pcT b) (pcT c) = 2 := by unfold chT; rw [if_neg q1, if_neg q2, if_pos q3]
        exact Or.inl ⟨by rw [hv]; decide, J, by rw [hv], rfl, hg, hS2⟩
      · skip
        refine aw_if_eq (tgt := 32) dX9_choose_25 rfl ⟨by decide, by decide⟩ (fun _ => ?_) (fun c9 => absurd (by decide) c9)
        refine aw_iconst dX9_choose_32 ?_
        refine aw_ireturn dX9_choose_33 rfl ?_
        have hv : chT f n p (pcT a) (pcT b) (pcT c) = -1 := by unfold chT; rw [if_neg q1, if_neg q2, if_neg q3]
        exact Or.inr ⟨hv, rfl, rfl⟩
set_option maxHeartbeats 4000000 in
set_option maxRecDepth 100000 in
theorem ct_X9_number (G : ab_G) (I : Nat → Nat → Int) (F : Nat → Nat → Nat) (hF : ab_FB F) (f : Nat → Int) (n : Nat) (hX : TXx f n I) (p : Nat) (hp : p ≤ n) (hS : TSx f n p I) (most : Int) (hmost : ab_In most) : Ct G 2 0 0 YX9_number [ab_r 21, ab_i most] (104, I, F) (fun r h => (¬ nuT f n p most = -1 ∧ ∃ J : Nat → Nat → Int, r = some (ab_i (nuT f n p most)) ∧ h = (104, J, F) ∧ GFx I J ∧ TSx f n (teT f n p) J) ∨ (nuT f n p most = -1 ∧ r = some (ab_i (-1)) ∧ h = (104, I, F))) := by
  refine Ct.ofW kX9_number (ls := [some (ab_r 21), some (ab_i most), none, none]) (Nat.le_of_ble_eq_true rfl) rfl ?_
  have hn160 := hX.2.1
  have htk := tk_num (f := f) (n := n) (p := p)
  have hsb := ts_bd (f := f) hp
  have heb := te_bd (f := f) hp
  have hgo := ct_X9_goOn G I F hF f n hX (teT f n p) heb.2 hS.2.1
  have htl : tlT f n p ≤ 2 := by unfold tlT; split; exact lk_le _; omega
  generalize hZ : ab_Z G (fun r h => (¬ nuT f n p most = -1 ∧ ∃ J : Nat → Nat → Int, r = some (ab_i (nuT f n p most)) ∧ h = (104, J, F) ∧ GFx I J ∧ TSx f n (teT f n p) J) ∨ (nuT f n p most = -1 ∧ r = some (ab_i (-1)) ∧ h = (104, I, F))) 0 0 = Z
  by_cases hk : tkT f n p = -1
  · have hnb := nm_bd hk
    have hkk := htk.mp hk
    have hnd := nv_bd (f := f) (s := tsT f n p)
    have hdig : ∀ i, i < teT f n p - tsT f n p → 48 ≤ f (tsT f n p + i) ∧ f (tsT f n p + i) ≤ 57 := fun i hi => lk_2.mp (by rw [tok_all (by omega) hi]; exact hkk.1)
    have lp : ∀ (d q : Nat) (v : Int), q + d = teT f n p → tsT f n p ≤ q → v = nvT f (tsT f n p) (q - tsT f n p) → aW G YX9_number (ab_rm 2 0 0) Z 0 0 (104, I, F) 30 [some (ab_r 21), some (ab_i most), some (ab_i v), some (ab_i (q : Int))] [] := by
      intro d
      induction d with
      | zero =>
        intro q v hq hsq hv
        have hv2 : v = nmT f n p := by rw [hv]; unfold nmT; rw [show q = teT f n p by omega]
        refine aw_iload_n dX9_number_30 rfl ?_
        refine aw_aload_n dX9_number_31 rfl (by decide) ?_
        refine aw_getiv (v := (teT f n p : Int)) dX9_number_32 fX9_27 ⟨Nat.le_of_ble_eq_true rfl, Nat.le_of_ble_eq_true rfl⟩ rfl rfl hS.2.1 ?_
        refine aw_icmp_ge (tgt := 59) dX9_number_35 rfl (by first | assumption | (unfold ab_In at *; omega)) (by first | assumption | (unfold ab_In at *; omega)) (fun c_35 => ?_) (fun c_35 => ?_)
        · refine aw_iload_n dX9_number_59 rfl ?_
          refine aw_iload_n dX9_number_60 rfl ?_
          refine aw_icmp_le (tgt := 66) dX9_number_61 rfl (by first | assumption | (unfold ab_In at *; omega)) (by first | assumption | (unfold ab_In at *; omega)) (fun c_61 => ?_) (fun c_61 => ?_)
          · refine aw_aload_n dX9_number_66 rfl (by decide) ?_
            refine aw_callV (as := []) (rest := []) dX9_number_67 hgo ⟨Nat.le_of_ble_eq_true rfl, Nat.le_of_ble_eq_true rfl⟩ rfl kc9 rfl kX9_goOn iX9_goOn eX9_goOn lX9_30 rfl (Nat.le_of_ble_eq_true rfl) (by decide) (by decide) (by decide) (by decide) ?_
            rintro _ _ ⟨rfl, J, rfl, hg, hS2⟩
            refine aw_iload_n dX9_number_70 rfl ?_
            rw [← hZ]
            refine aw_ireturn dX9_number_71 rfl ?_
            have hnu : nuT f n p most = v := by unfold nuT; rw [if_pos ⟨hk, by omega⟩, hv2]
            exact Or.inl ⟨by rw [hnu]; omega, J, by rw [hnu], rfl, hg, hS2⟩
          · refine aw_iconst dX9_number_64 ?_
            rw [← hZ]
            refine aw_ireturn dX9_number_65 rfl ?_
            refine Or.inr ⟨?_, rfl, rfl⟩
            unfold nuT; rw [if_neg (by omega)]
        · exfalso; omega
      | succ d ih =>
        intro q v hq hsq hv
        have hfq := hX.2.2 q (by omega)
        refine aw_iload_n dX9_number_30 rfl ?_
        refine aw_aload_n dX9_number_31 rfl (by decide) ?_
        refine aw_getiv (v := (teT f n p : Int)) dX9_number_32 fX9_27 ⟨Nat.le_of_ble_eq_true rfl, Nat.le_of_ble_eq_true rfl⟩ rfl rfl hS.2.1 ?_
        refine aw_icmp_ge (tgt := 59) dX9_number_35 rfl (by first | assumption | (unfold ab_In at *; omega)) (by first | assumption | (unfold ab_In at *; omega)) (fun c_35 => ?_) (fun c_35 => ?_)
        · exfalso; omega
        · refine aw_iload_n dX9_number_38 rfl ?_
          refine aw_bipush dX9_number_39 rfl ?_
          refine aw_imul dX9_number_41 ?_
          refine aw_aload_n dX9_number_42 rfl (by decide) ?_
          refine aw_getrv (r := 22) dX9_number_43 fX9_9 ⟨Nat.le_of_ble_eq_true rfl, Nat.le_of_ble_eq_true rfl⟩ rfl rfl (hF.at 21 0 22 rfl rfl rfl) ?_
          refine aw_iload_n dX9_number_46 rfl ?_
          refine aw_caldq (q := q) (v := f q) dX9_number_47 ⟨Nat.le_of_ble_eq_true rfl, Nat.le_of_ble_eq_true rfl⟩ rfl (by omega) (by omega) (by decide) rfl hfq.1 ?_
          refine aw_iadd dX9_number_48 ?_
          refine aw_bipush dX9_number_49 rfl ?_
          refine aw_isub dX9_number_51 ?_
          refine aw_istore_n (ls' := [some (ab_r 21), some (ab_i most), some (ab_i (((v * 10) + (f q)) - 48)), some (ab_i (q : Int))]) dX9_number_52 (by decide) rfl ?_
          refine aw_iinc (ls' := [some (ab_r 21), some (ab_i most), some (ab_i (((v * 10) + (f q)) - 48)), some (ab_i ((q : Int) + 1))]) dX9_number_53 (by decide) rfl rfl ?_
          refine aw_goto (tgt := 30) dX9_number_56 rfl ?_
          refine ih (q + 1) _ (by omega) (by omega) ?_
          rw [show q + 1 - tsT f n p = q - tsT f n p + 1 by omega, nvT, ← hv, show tsT f n p + (q - tsT f n p) = q by omega]; omega
    refine aw_aload_n dX9_number_0 rfl (by decide) ?_
    refine aw_getiv (v := (tlT f n p : Int)) dX9_number_1 fX9_96 ⟨Nat.le_of_ble_eq_true rfl, Nat.le_of_ble_eq_true rfl⟩ rfl rfl hS.2.2 ?_
    refine aw_iconst dX9_number_4 ?_
    refine aw_icmp_ne (tgt := 21) dX9_number_5 rfl (by first | assumption | (unfold ab_In at *; omega)) (by first | assumption | (unfold ab_In at *; omega)) (fun c_5 => ?_) (fun c_5 => ?_)
    · exfalso; omega
    · refine aw_aload_n dX9_number_8 rfl (by decide) ?_
      refine aw_getiv (v := (teT f n p : Int)) dX9_number_9 fX9_27 ⟨Nat.le_of_ble_eq_true rfl, Nat.le_of_ble_eq_true rfl⟩ rfl rfl hS.2.1 ?_
      refine aw_aload_n dX9_number_12 rfl (by decide) ?_
      refine aw_getiv (v := (tsT f n p : Int)) dX9_number_13 fX9_37 ⟨Nat.le_of_ble_eq_true rfl, Nat.le_of_ble_eq_true rfl⟩ rfl rfl hS.1 ?_
      refine aw_isub dX9_number_16 ?_
      refine aw_iconst dX9_number_17 ?_
      refine aw_icmp_le (tgt := 23) dX9_number_18 rfl (by first | assumption | (unfold ab_In at *; omega)) (by first | assumption | (unfold ab_In at *; omega)) (fun c_18 => ?_) (fun c_18 => ?_)
      · refine aw_iconst dX9_number_23 ?_
        refine aw_istore_n (ls' := [some (ab_r 21), some (ab_i most), some (ab_i 0), none]) dX9_number_24 (by decide) rfl ?_
        refine aw_aload_n dX9_number_25 rfl (by decide) ?_
        refine aw_getiv (v := (tsT f n p : Int)) dX9_number_26 fX9_37 ⟨Nat.le_of_ble_eq_true rfl, Nat.le_of_ble_eq_true rfl⟩ rfl rfl hS.1 ?_
        refine aw_istore_n (ls' := [some (ab_r 21), some (ab_i most), some (ab_i 0), some (ab_i (tsT f n p : Int))]) dX9_number_29 (by decide) rfl ?_
        exact lp (teT f n p - tsT f n p) (tsT f n p) 0 (by omega) (Nat.le_refl _) (by rw [Nat.sub_self]; rfl)
      · exfalso; omega
  · have hnk : ¬ (tlT f n p = 2 ∧ teT f n p - tsT f n p ≤ 2) := fun q => hk (htk.mpr q)
    refine aw_aload_n dX9_number_0 rfl (by decide) ?_
    refine aw_getiv (v := (tlT f n p : Int)) dX9_number_1 fX9_96 ⟨Nat.le_of_ble_eq_true rfl, Nat.le_of_ble_eq_true rfl⟩ rfl rfl hS.2.2 ?_
    refine aw_iconst dX9_number_4 ?_
    refine aw_icmp_ne (tgt := 21) dX9_number_5 rfl (by first | assumption | (unfold ab_In at *; omega)) (by first | assumption | (unfold ab_In at *; omega)) (fun c_5 => ?_) (fun c_5 => ?_)
    · refine aw_iconst dX9_number_21 ?_
      rw [← hZ]
      refine aw_ireturn dX9_number_22 rfl ?_
      refine Or.inr ⟨?_, rfl, rfl⟩
      unfold nuT; rw [if_neg (fun q => hk q.1)]
    · refine aw_aload_n dX9_number_8 rfl (by decide) ?_
      refine aw_getiv (v := (teT f n p : Int)) dX9_number_9 fX9_27 ⟨Nat.le_of_ble_eq_true rfl, Nat.le_of_ble_eq_true rfl⟩ rfl rfl hS.2.1 ?_
      refine aw_aload_n dX9_number_12 rfl (by decide) ?_
      refine aw_getiv (v := (tsT f n p : Int)) dX9_number_13 fX9_37 ⟨Nat.le_of_ble_eq_true rfl, Nat.le_of_ble_eq_true rfl⟩ rfl rfl hS.1 ?_
      refine aw_isub dX9_number_16 ?_
      refine aw_iconst dX9_number_17 ?_
      refine aw_icmp_le (tgt := 23) dX9_number_18 rfl (by first | assumption | (unfold ab_In at *; omega)) (by first | assumption | (unfold ab_In at *; omega)) (fun c_18 => ?_) (fun c_18 => ?_)
      · exfalso; omega
      · refine aw_iconst dX9_number_21 ?_
        rw [← hZ]
        refine aw_ireturn dX9_number_22 rfl ?_
        refine Or.inr ⟨?_, rfl, rfl⟩
        unfold nuT; rw [if_neg (fun q => hk q.1)]
