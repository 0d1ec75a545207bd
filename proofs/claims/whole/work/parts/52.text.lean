theorem lcmp_iff {x y : Int} (hx : ab_Il x) (hy : ab_Il y) : (ab_lcmp x y = 0 ↔ x = y) ∧ -1 ≤ ab_lcmp x y ∧ ab_lcmp x y ≤ 1 := by
  have h1 := ab_ltl hy hx
  have h2 := ab_eql hx hy
  unfold ab_lcmp lg_cmp
  by_cases e1 : Int64.ofInt y < Int64.ofInt x
  · rw [if_pos e1]
    have := h1.mp e1
    exact ⟨⟨fun q => absurd q (by decide), fun q => by omega⟩, by decide, by decide⟩
  · rw [if_neg e1]
    by_cases e2 : Int64.ofInt x = Int64.ofInt y
    · rw [if_pos e2]
      exact ⟨⟨fun _ => h2.mp e2, fun _ => rfl⟩, by decide, by decide⟩
    · rw [if_neg e2]
      exact ⟨⟨fun q => absurd q (by decide), fun q => absurd (h2.mpr q) e2⟩, by decide, by decide⟩
def NFx (I J : Nat → Nat → Int) : Prop := ∀ i b, ¬ (i = 84 ∧ 12 ≤ b ∧ b ≤ 16) → J i b = I i b
def MFx (I J : Nat → Nat → Int) : Prop := ∀ i b, ¬ (i = 84 ∧ 12 ≤ b ∧ b ≤ 17) → i ≠ 94 → J i b = I i b
def VFx (I J : Nat → Nat → Int) : Prop := ∀ i b, ¬ (i = 84 ∧ 12 ≤ b ∧ b ≤ 18) → i ≠ 94 → J i b = I i b
def RXx (f : Nat → Int) (n : Nat) (I : Nat → Nat → Int) : Prop := I 84 10 = (n : Int) ∧ n ≤ 160 ∧ ∀ j, j < n → I 93 j = f j ∧ 0 ≤ f j ∧ f j ≤ 255
def PTm (f : Nat → Int) (n p : Nat) (J : Nat → Nat → Int) : Prop := J 84 12 = (teT f n p : Int) ∧ J 84 13 = (tsT f n p : Int) ∧ J 84 14 = tkT f n p ∧ (tkT f n p = -1 → J 84 16 = nmT f n p)
theorem NFx.mf {I J : Nat → Nat → Int} (h : NFx I J) : MFx I J := fun i b q _ => h i b (by omega)
theorem MFx.vf {I J : Nat → Nat → Int} (h : MFx I J) : VFx I J := fun i b q q2 => h i b (by omega) q2
theorem MFx.trans {I J K : Nat → Nat → Int} (h : MFx I J) (h' : MFx J K) : MFx I K := fun i b q q2 => (h' i b q q2).trans (h i b q q2)
theorem VFx.trans {I J K : Nat → Nat → Int} (h : VFx I J) (h' : VFx J K) : VFx I K := fun i b q q2 => (h' i b q q2).trans (h i b q q2)
theorem RXx.of {f : Nat → Int} {n : Nat} {I J : Nat → Nat → Int} (h : RXx f n I) (hg : VFx I J) : RXx f n J := by
  refine ⟨by rw [hg 84 10 (by omega) (by omega)]; exact h.1, h.2.1, fun j hj => ?_⟩
  rw [hg 93 j (by omega) (by omega)]; exact h.2.2 j hj
def DRm (J : Nat → Nat → Int) (r : Nat → Int) : Prop := ∀ k, k < 16 → J 94 k = r k
theorem DRm.up {J K : Nat → Nat → Int} {r : Nat → Int} {k : Nat} {v : Int} (h : DRm J r) (h1 : K 94 k = v) (h2 : ∀ b, b ≠ k → K 94 b = J 94 b) : DRm K (upR r k v) := by
  intro j hj
  show K 94 j = if j = k then v else r j
  by_cases e : j = k
  · rw [if_pos e, e]; exact h1
  · rw [if_neg e, h2 j e]; exact h j hj
def ENDm (F : Nat → Nat → Nat) (n : Nat) (I : Nat → Nat → Int) (res : RdT) (rr : Option ab_V) (h : ab_H) : Prop := ∃ J : Nat → Nat → Int, h = (104, J, F) ∧ MFx I J ∧ ((∃ q : Nat, res = .inl q ∧ rr = some (ab_i 0) ∧ J 84 17 = (q : Int)) ∨ ∃ (p' : Nat) (r' : Nat → Int), res = .inr (p', r') ∧ rr = some (ab_i 1) ∧ p' ≤ n ∧ J 84 12 = (p' : Int) ∧ DRm J r')
set_option maxHeartbeats 4000000 in
set_option maxRecDepth 100000 in
theorem ct_X12_nextToken (G : ab_G) (I : Nat → Nat → Int) (F : Nat → Nat → Nat) (hF : ab_FB F) (f : Nat → Int) (n : Nat) (hX : RXx f n I) (p : Nat) (hp : p ≤ n) (he : I 84 12 = (p : Int)) : Ct G 1 0 0 YX12_nextToken [ab_r 84] (104, I, F) (fun r h => r = none ∧ ∃ J : Nat → Nat → Int, h = (104, J, F) ∧ NFx I J ∧ PTm f n p J) := by
  refine Ct.ofW kX12_nextToken (ls := [some (ab_r 84)]) (Nat.le_of_ble_eq_true rfl) rfl ?_
  generalize hZ : ab_Z G (fun r h => r = none ∧ ∃ J : Nat → Nat → Int, h = (104, J, F) ∧ NFx I J ∧ PTm f n p J) 0 0 = Z
  have hn160 := hX.2.1
  obtain ⟨s, hs⟩ : ∃ s, tsT f n p = s := ⟨_, rfl⟩
  have hsb := ts_bd (f := f) hp
  rw [hs] at hsb
  have s38 : ∀ (J : Nat → Nat → Int), NFx I J → J 84 12 = (s : Int) → aW G YX12_nextToken (ab_rm 1 0 0) Z 0 0 (104, J, F) 38 [some (ab_r 84)] [] := by
    intro J hg h12
    have hn1 : J 84 10 = (n : Int) := (hg 84 10 (by omega)).trans hX.1
    by_cases hlt : s < n
    · have hfq := hX.2.2 s (by omega)
      have h93 : J 93 s = f s := (hg 93 s (by omega)).trans hfq.1
      have hl2 := lk_le (f s)
      have htl : tlT f n p = lkT (f s) := by unfold tlT; rw [hs, if_pos hlt]
      have htk0 : tkT f n p = (if tlT f n p = 1 then (if teT f n p - s ≤ 9 then vlT f s (teT f n p - s) else -4) else if tlT f n p = 2 then (if teT f n p - s ≤ 2 then -1 else -4) else if f s = 59 then -3 else -4) := by unfold tkT; rw [hs, if_pos hlt]
      have hteb := (te_bd (f := f) hp).2
      have hlts : tsT f n p < n := by rw [hs]; exact hlt
      have htes := te_lt (f := f) hlts
      rw [hs] at htes
      by_cases hL : 97 ≤ f s ∧ f s ≤ 122
      · have hl1 : tlT f n p = 1 := by rw [htl]; exact lk_1.mpr hL
        have hte : teT f n p = rnT f n 1 (n - s) s := by
          rw [show n - s = n - (s + 1) + 1 by omega, rnT, if_pos ⟨hlt, lk_1.mpr hL⟩]
          unfold teT; rw [hs, if_pos hlt, hl1, if_neg (by decide)]
        rw [if_pos hl1] at htk0
        have hnk : ¬ tkT f n p = -1 := fun q => by have := (tk_num.mp q).1; omega
        have lp : ∀ (u q : Nat) (J2 : Nat → Nat → Int) (v : Int), q + u = n → s ≤ q → rnT f n 1 u q = teT f n p → NFx I J2 → J2 84 12 = (q : Int) → J2 84 13 = (s : Int) → J2 84 14 = v → v = (if q - s ≤ 9 then vlT f s (q - s) else -4) → aW G YX12_nextToken (ab_rm 1 0 0) Z 0 0 (104, J2, F) 101 [some (ab_r 84)] [] := by
          intro u
          induction u with
          | zero =>
            intro q J2 v hq hsq hr hg h12 h13 h14 hv
            have hn1 : J2 84 10 = (n : Int) := (hg 84 10 (by omega)).trans hX.1
            have hqe : q = teT f n p := hr
            rw [hqe] at hv
            refine aw_aload_n dX12_nextToken_101 rfl (by decide) ?_
            refine aw_getiv (v := (q : Int)) dX12_nextToken_102 fX12_115 ⟨Nat.le_of_ble_eq_true rfl, Nat.le_of_ble_eq_true rfl⟩ rfl rfl h12 ?_
            refine aw_aload_n dX12_nextToken_105 rfl (by decide) ?_
            refine aw_getiv (v := (n : Int)) dX12_nextToken_106 fX12_110 ⟨Nat.le_of_ble_eq_true rfl, Nat.le_of_ble_eq_true rfl⟩ rfl rfl hn1 ?_
            refine aw_icmp_ge (tgt := 191) dX12_nextToken_109 rfl (by first | assumption | (unfold ab_In at *; omega)) (by first | assumption | (unfold ab_In at *; omega)) (fun c_109 => ?_) (fun c_109 => ?_)
            · refine aw_aload_n dX12_nextToken_191 rfl (by decide) ?_
              refine aw_aload_n dX12_nextToken_192 rfl (by decide) ?_
              refine aw_getiv (v := (q : Int)) dX12_nextToken_193 fX12_115 ⟨Nat.le_of_ble_eq_true rfl, Nat.le_of_ble_eq_true rfl⟩ rfl rfl h12 ?_
              refine aw_aload_n dX12_nextToken_196 rfl (by decide) ?_
              refine aw_getiv (v := (s : Int)) dX12_nextToken_197 fX12_118 ⟨Nat.le_of_ble_eq_true rfl, Nat.le_of_ble_eq_true rfl⟩ rfl rfl h13 ?_
              refine aw_isub dX12_nextToken_200 ?_
              refine aw_bipush dX12_nextToken_201 rfl ?_
              refine aw_icmp_le (tgt := 212) dX12_nextToken_203 rfl (by first | assumption | (unfold ab_In at *; omega)) (by first | assumption | (unfold ab_In at *; omega)) (fun c_203 => ?_) (fun c_203 => ?_)
              · refine aw_aload_n dX12_nextToken_212 rfl (by decide) ?_
                refine aw_getlv (v := v) dX12_nextToken_213 fX12_129 ⟨Nat.le_of_ble_eq_true rfl, Nat.le_of_ble_eq_true rfl⟩ rfl rfl h14 ?_
                refine aw_putl dX12_nextToken_216 fX12_129 ⟨Nat.le_of_ble_eq_true rfl, Nat.le_of_ble_eq_true rfl⟩ rfl rfl ?_
                refine aw_goto (tgt := 394) dX12_nextToken_219 rfl ?_
                rw [← hZ]
                refine aw_return dX12_nextToken_394 rfl ?_
                refine ⟨rfl, _, rfl, fun i b q9 => ?_, ?_, ?_, ?_, fun q9 => absurd q9 hnk⟩
                · rw [ab_u_o (by omega)]; exact hg i b q9
                · rw [ab_u_j (by decide), h12, hqe]
                · rw [ab_u_j (by decide), h13, hs]
                · rw [ab_u_s, htk0]; exact hv
              · refine aw_ldc2 (z := (-4)) dX12_nextToken_206 nX12_137 ?_
                refine aw_goto (tgt := 216) dX12_nextToken_209 rfl ?_
                refine aw_putl dX12_nextToken_216 fX12_129 ⟨Nat.le_of_ble_eq_true rfl, Nat.le_of_ble_eq_true rfl⟩ rfl rfl ?_
                refine aw_goto (tgt := 394) dX12_nextToken_219 rfl ?_
                rw [← hZ]
                refine aw_return dX12_nextToken_394 rfl ?_
                refine ⟨rfl, _, rfl, fun i b q9 => ?_, ?_, ?_, ?_, fun q9 => absurd q9 hnk⟩
                · rw [ab_u_o (by omega)]; exact hg i b q9
                · rw [ab_u_j (by decide), h12, hqe]
                · rw [ab_u_j (by decide), h13, hs]
                · rw [ab_u_s, htk0]; rw [if_neg (by omega)]
            · exfalso; omega
          | succ u ih =>
            intro q J2 v hq hsq hr hg h12 h13 h14 hv
            have hn1 : J2 84 10 = (n : Int) := (hg 84 10 (by omega)).trans hX.1
            have hfq := hX.2.2 q (by omega)
            have h93 : J2 93 q = f q := (hg 93 q (by omega)).trans hfq.1
            by_cases hLq : 97 ≤ f q ∧ f q ≤ 122
            · rw [rnT, if_pos ⟨by omega, lk_1.mpr hLq⟩] at hr
              refine aw_aload_n dX12_nextToken_101 rfl (by decide) ?_
              refine aw_getiv (v := (q : Int)) dX12_nextToken_102 fX12_115 ⟨Nat.le_of_ble_eq_true rfl, Nat.le_of_ble_eq_true rfl⟩ rfl rfl h12 ?_
              refine aw_aload_n dX12_nextToken_105 rfl (by decide) ?_
              refine aw_getiv (v := (n : Int)) dX12_nextToken_106 fX12_110 ⟨Nat.le_of_ble_eq_true rfl, Nat.le_of_ble_eq_true rfl⟩ rfl rfl hn1 ?_
              refine aw_icmp_ge (tgt := 191) dX12_nextToken_109 rfl (by first | assumption | (unfold ab_In at *; omega)) (by first | assumption | (unfold ab_In at *; omega)) (fun c_109 => ?_) (fun c_109 => ?_)
              · exfalso; omega
              · refine aw_aload_n dX12_nextToken_112 rfl (by decide) ?_
                refine aw_getrv (r := 93) dX12_nextToken_113 fX12_35 ⟨Nat.le_of_ble_eq_true rfl, Nat.le_of_ble_eq_true rfl⟩ rfl rfl (hF.at 84 11 93 rfl rfl rfl) ?_
                refine aw_aload_n dX12_nextToken_116 rfl (by decide) ?_
                refine aw_getiv (v := (q : Int)) dX12_nextToken_117 fX12_115 ⟨Nat.le_of_ble_eq_true rfl, Nat.le_of_ble_eq_true rfl⟩ rfl rfl h12 ?_
                refine aw_ialdq (q := q) (v := f q) dX12_nextToken_120 ⟨Nat.le_of_ble_eq_true rfl, Nat.le_of_ble_eq_true rfl⟩ rfl (by omega) (by omega) (by decide) rfl h93 ?_
                refine aw_bipush dX12_nextToken_121 rfl ?_
                refine aw_bipush dX12_nextToken_123 rfl ?_
                refine aw_callS (as := [ab_i (f q), ab_i 97, ab_i 122]) (rest := []) dX12_nextToken_125 (ct_X12_in G (104, J2, F) (f q) 97 122 (by unfold ab_In; omega) (by unfold ab_In; omega) (by unfold ab_In; omega)) kX12_in sX12_in lX12_75 rfl (Nat.le_of_ble_eq_true rfl) (by decide) (by decide) (by decide) (by decide) ?_
                rintro r9 _ ⟨e9, rfl⟩
                rw [if_pos (by omega)] at e9
                subst e9
                refine aw_if_eq (tgt := 191) dX12_nextToken_128 rfl ⟨by decide, by decide⟩ (fun c9 => absurd c9 (by decide)) (fun _ => ?_)
                refine aw_aload_n dX12_nextToken_131 rfl (by decide) ?_
                refine aw_aload_n dX12_nextToken_132 rfl (by decide) ?_
                refine aw_getiv (v := (q : Int)) dX12_nextToken_133 fX12_115 ⟨Nat.le_of_ble_eq_true rfl, Nat.le_of_ble_eq_true rfl⟩ rfl rfl h12 ?_
                refine aw_aload_n dX12_nextToken_136 rfl (by decide) ?_
                refine aw_getiv (v := (s : Int)) dX12_nextToken_137 fX12_118 ⟨Nat.le_of_ble_eq_true rfl, Nat.le_of_ble_eq_true rfl⟩ rfl rfl h13 ?_
                refine aw_isub dX12_nextToken_140 ?_
                refine aw_bipush dX12_nextToken_141 rfl ?_
                refine aw_icmp_ge (tgt := 172) dX12_nextToken_143 rfl (by first | assumption | (unfold ab_In at *; omega)) (by first | assumption | (unfold ab_In at *; omega)) (fun c_143 => ?_) (fun c_143 => ?_)
                · refine aw_ldc2 (z := (-4)) dX12_nextToken_172 nX12_137 ?_
                  refine aw_putl dX12_nextToken_175 fX12_129 ⟨Nat.le_of_ble_eq_true rfl, Nat.le_of_ble_eq_true rfl⟩ rfl rfl ?_
                  refine aw_aload_n dX12_nextToken_178 rfl (by decide) ?_
                  refine aw_dup dX12_nextToken_179 rfl ?_
                  refine aw_getiv (v := (q : Int)) dX12_nextToken_180 fX12_115 ⟨Nat.le_of_ble_eq_true rfl, Nat.le_of_ble_eq_true rfl⟩ rfl rfl ((ab_u_j (by decide)).trans h12) ?_
                  refine aw_iconst dX12_nextToken_183 ?_
                  refine aw_iadd dX12_nextToken_184 ?_
                  refine aw_puti dX12_nextToken_185 fX12_115 ⟨Nat.le_of_ble_eq_true rfl, Nat.le_of_ble_eq_true rfl⟩ rfl rfl ?_
                  refine aw_goto (tgt := 101) dX12_nextToken_188 rfl ?_
                  refine ih (q + 1) _ (-4) (by omega) (by omega) hr (fun i b q9 => ?_) (by rw [ab_u_s]; rfl) ?_ ?_ ?_
                  · rw [ab_u_o (by omega)]; rw [ab_u_o (by omega)]; exact hg i b q9
                  · rw [ab_u_j (by decide), ab_u_j (by decide)]; exact h13
                  · rw [ab_u_j (by decide), ab_u_s]
                  · rw [if_neg (by omega)]
                · refine aw_ldc2 (z := 27) dX12_nextToken_146 nX12_133 ?_
                  refine aw_aload_n dX12_nextToken_149 rfl (by decide) ?_
                  refine aw_getlv (v := v) dX12_nextToken_150 fX12_129 ⟨Nat.le_of_ble_eq_true rfl, Nat.le_of_ble_eq_true rfl⟩ rfl rfl h14 ?_
                  refine aw_lmul dX12_nextToken_153 ?_
                  refine aw_aload_n dX12_nextToken_154 rfl (by decide) ?_
                  refine aw_getrv (r := 93) dX12_nextToken_155 fX12_35 ⟨Nat.le_of_ble_eq_true rfl, Nat.le_of_ble_eq_true rfl⟩ rfl rfl (hF.at 84 11 93 rfl rfl rfl) ?_
                  refine aw_aload_n dX12_nextToken_158 rfl (by decide) ?_
                  refine aw_getiv (v := (q : Int)) dX12_nextToken_159 fX12_115 ⟨Nat.le_of_ble_eq_true rfl, Nat.le_of_ble_eq_true rfl⟩ rfl rfl h12 ?_
                  refine aw_ialdq (q := q) (v := f q) dX12_nextToken_162 ⟨Nat.le_of_ble_eq_true rfl, Nat.le_of_ble_eq_true rfl⟩ rfl (by omega) (by omega) (by decide) rfl h93 ?_
                  refine aw_i2l dX12_nextToken_163 ?_
                  refine aw_toL (z := (f q)) (i2l_in (by unfold ab_In; omega)) ?_
                  refine aw_ladd dX12_nextToken_164 ?_
                  refine aw_ldc2 (z := 96) dX12_nextToken_165 nX12_135 ?_
                  refine aw_lsub dX12_nextToken_168 ?_
                  refine aw_goto (tgt := 175) dX12_nextToken_169 rfl ?_
                  refine aw_putl dX12_nextToken_175 fX12_129 ⟨Nat.le_of_ble_eq_true rfl, Nat.le_of_ble_eq_true rfl⟩ rfl rfl ?_
                  refine aw_aload_n dX12_nextToken_178 rfl (by decide) ?_
                  refine aw_dup dX12_nextToken_179 rfl ?_
                  refine aw_getiv (v := (q : Int)) dX12_nextToken_180 fX12_115 ⟨Nat.le_of_ble_eq_true rfl, Nat.le_of_ble_eq_true rfl⟩ rfl rfl ((ab_u_j (by decide)).trans h12) ?_
                  refine aw_iconst dX12_nextToken_183 ?_
                  refine aw_iadd dX12_nextToken_184 ?_
                  refine aw_puti dX12_nextToken_185 fX12_115 ⟨Nat.le_of_ble_eq_true rfl, Nat.le_of_ble_eq_true rfl⟩ rfl rfl ?_
                  refine aw_goto (tgt := 101) dX12_nextToken_188 rfl ?_
                  refine ih (q + 1) _ (((27 * v) + (f q)) - 96) (by omega) (by omega) hr (fun i b q9 => ?_) (by rw [ab_u_s]; rfl) ?_ ?_ ?_
                  · rw [ab_u_o (by omega)]; rw [ab_u_o (by omega)]; exact hg i b q9
                  · rw [ab_u_j (by decide), ab_u_j (by decide)]; exact h13
                  · rw [ab_u_j (by decide), ab_u_s]
                  · rw [if_pos (by omega)] at hv
                    rw [if_pos (by omega), show q + 1 - s = q - s + 1 by omega, vlT, ← hv, show s + (q - s) = q by omega]
            · rw [rnT, if_neg (fun q9 => hLq (lk_1.mp q9.2))] at hr
              have hqe : q = teT f n p := hr
              rw [hqe] at hv
              refine aw_aload_n dX12_nextToken_101 rfl (by decide) ?_
              refine aw_getiv (v := (q : Int)) dX12_nextToken_102 fX12_115 ⟨Nat.le_of_ble_eq_true rfl, Nat.le_of_ble_eq_true rfl⟩ rfl rfl h12 ?_
              refine aw_aload_n dX12_nextToken_105 rfl (by decide) ?_
              refine aw_getiv (v := (n : Int)) dX12_nextToken_106 fX12_110 ⟨Nat.le_of_ble_eq_true rfl, Nat.le_of_ble_eq_true rfl⟩ rfl rfl hn1 ?_
              refine aw_icmp_ge (tgt := 191) dX12_nextToken_109 rfl (by first | assumption | (unfold ab_In at *; omega)) (by first | assumption | (unfold ab_In at *; omega)) (fun c_109 => ?_) (fun c_109 => ?_)
              · exfalso; omega
              · refine aw_aload_n dX12_nextToken_112 rfl (by decide) ?_
                refine aw_getrv (r := 93) dX12_nextToken_113 fX12_35 ⟨Nat.le_of_ble_eq_true rfl, Nat.le_of_ble_eq_true rfl⟩ rfl rfl (hF.at 84 11 93 rfl rfl rfl) ?_
                refine aw_aload_n dX12_nextToken_116 rfl (by decide) ?_
                refine aw_getiv (v := (q : Int)) dX12_nextToken_117 fX12_115 ⟨Nat.le_of_ble_eq_true rfl, Nat.le_of_ble_eq_true rfl⟩ rfl rfl h12 ?_
                refine aw_ialdq (q := q) (v := f q) dX12_nextToken_120 ⟨Nat.le_of_ble_eq_true rfl, Nat.le_of_ble_eq_true rfl⟩ rfl (by omega) (by omega) (by decide) rfl h93 ?_
                refine aw_bipush dX12_nextToken_121 rfl ?_
                refine aw_bipush dX12_nextToken_123 rfl ?_
                refine aw_callS (as := [ab_i (f q), ab_i 97, ab_i 122]) (rest := []) dX12_nextToken_125 (ct_X12_in G (104, J2, F) (f q) 97 122 (by unfold ab_In; omega) (by unfold ab_In; omega) (by unfold ab_In; omega)) kX12_in sX12_in lX12_75 rfl (Nat.le_of_ble_eq_true rfl) (by decide) (by decide) (by decide) (by decide) ?_
                rintro r9 _ ⟨e9, rfl⟩
                rw [if_neg (by omega)] at e9
                subst e9
                refine aw_if_eq (tgt := 191) dX12_nextToken_128 rfl ⟨by decide, by decide⟩ (fun _ => ?_) (fun c9 => absurd (by decide) c9)
                refine aw_aload_n dX12_nextToken_191 rfl (by decide) ?_
                refine aw_aload_n dX12_nextToken_192 rfl (by decide) ?_
                refine aw_getiv (v := (q : Int)) dX12_nextToken_193 fX12_115 ⟨Nat.le_of_ble_eq_true rfl, Nat.le_of_ble_eq_true rfl⟩ rfl rfl h12 ?_
                refine aw_aload_n dX12_nextToken_196 rfl (by decide) ?_
                refine aw_getiv (v := (s : Int)) dX12_nextToken_197 fX12_118 ⟨Nat.le_of_ble_eq_true rfl, Nat.le_of_ble_eq_true rfl⟩ rfl rfl h13 ?_
                refine aw_isub dX12_nextToken_200 ?_
                refine aw_bipush dX12_nextToken_201 rfl ?_
                refine aw_icmp_le (tgt := 212) dX12_nextToken_203 rfl (by first | assumption | (unfold ab_In at *; omega)) (by first | assumption | (unfold ab_In at *; omega)) (fun c_203 => ?_) (fun c_203 => ?_)
                · refine aw_aload_n dX12_nextToken_212 rfl (by decide) ?_
                  refine aw_getlv (v := v) dX12_nextToken_213 fX12_129 ⟨Nat.le_of_ble_eq_true rfl, Nat.le_of_ble_eq_true rfl⟩ rfl rfl h14 ?_
                  refine aw_putl dX12_nextToken_216 fX12_129 ⟨Nat.le_of_ble_eq_true rfl, Nat.le_of_ble_eq_true rfl⟩ rfl rfl ?_
                  refine aw_goto (tgt := 394) dX12_nextToken_219 rfl ?_
                  rw [← hZ]
                  refine aw_return dX12_nextToken_394 rfl ?_
                  refine ⟨rfl, _, rfl, fun i b q9 => ?_, ?_, ?_, ?_, fun q9 => absurd q9 hnk⟩
                  · rw [ab_u_o (by omega)]; exact hg i b q9
                  · rw [ab_u_j (by decide), h12, hqe]
                  · rw [ab_u_j (by decide), h13, hs]
                  · rw [ab_u_s, htk0]; exact hv
                · refine aw_ldc2 (z := (-4)) dX12_nextToken_206 nX12_137 ?_
                  refine aw_goto (tgt := 216) dX12_nextToken_209 rfl ?_
                  refine aw_putl dX12_nextToken_216 fX12_129 ⟨Nat.le_of_ble_eq_true rfl, Nat.le_of_ble_eq_true rfl⟩ rfl rfl ?_
                  refine aw_goto (tgt := 394) dX12_nextToken_219 rfl ?_
                  rw [← hZ]
                  refine aw_return dX12_nextToken_394 rfl ?_
                  refine ⟨rfl, _, rfl, fun i b q9 => ?_, ?_, ?_, ?_, fun q9 => absurd q9 hnk⟩
                  · rw [ab_u_o (by omega)]; exact hg i b q9
                  · rw [ab_u_j (by decide), h12, hqe]
                  · rw [ab_u_j (by decide), h13, hs]
                  · rw [ab_u_s, htk0]; rw [if_neg (by omega)]
        refine aw_aload_n dX12_nextToken_38 rfl (by decide) ?_
        refine aw_aload_n dX12_nextToken_39 rfl (by decide) ?_
        refine aw_getiv (v := (s : Int)) dX12_nextToken_40 fX12_115 ⟨Nat.le_of_ble_eq_true rfl, Nat.le_of_ble_eq_true rfl⟩ rfl rfl h12 ?_
        refine aw_puti dX12_nextToken_43 fX12_118 ⟨Nat.le_of_ble_eq_true rfl, Nat.le_of_ble_eq_true rfl⟩ rfl rfl ?_
        refine aw_aload_n dX12_nextToken_46 rfl (by decide) ?_
        refine aw_iconst dX12_nextToken_47 ?_
        refine aw_puti dX12_nextToken_48 fX12_121 ⟨Nat.le_of_ble_eq_true rfl, Nat.le_of_ble_eq_true rfl⟩ rfl rfl ?_
        refine aw_aload_n dX12_nextToken_51 rfl (by decide) ?_
        refine aw_iconst dX12_nextToken_52 ?_
        refine aw_puti dX12_nextToken_53 fX12_124 ⟨Nat.le_of_ble_eq_true rfl, Nat.le_of_ble_eq_true rfl⟩ rfl rfl ?_
        refine aw_aload_n dX12_nextToken_56 rfl (by decide) ?_
        refine aw_getiv (v := (s : Int)) dX12_nextToken_57 fX12_115 ⟨Nat.le_of_ble_eq_true rfl, Nat.le_of_ble_eq_true rfl⟩ rfl rfl ((((ab_u_j (by decide)).trans (ab_u_j (by decide))).trans (ab_u_j (by decide))).trans h12) ?_
        refine aw_aload_n dX12_nextToken_60 rfl (by decide) ?_
        refine aw_getiv (v := (n : Int)) dX12_nextToken_61 fX12_110 ⟨Nat.le_of_ble_eq_true rfl, Nat.le_of_ble_eq_true rfl⟩ rfl rfl ((((ab_u_j (by decide)).trans (ab_u_j (by decide))).trans (ab_u_j (by decide))).trans hn1) ?_
        refine aw_icmp_ne (tgt := 77) dX12_nextToken_64 rfl (by first | assumption | (unfold ab_In at *; omega)) (by first | assumption | (unfold ab_In at *; omega)) (fun c_64 => ?_) (fun c_64 => ?_)
        · refine aw_aload_n dX12_nextToken_77 rfl (by decide) ?_
          refine aw_getrv (r := 93) dX12_nextToken_78 fX12_35 ⟨Nat.le_of_ble_eq_true rfl, Nat.le_of_ble_eq_true rfl⟩ rfl rfl (hF.at 84 11 93 rfl rfl rfl) ?_
          refine aw_aload_n dX12_nextToken_81 rfl (by decide) ?_
          refine aw_getiv (v := (s : Int)) dX12_nextToken_82 fX12_115 ⟨Nat.le_of_ble_eq_true rfl, Nat.le_of_ble_eq_true rfl⟩ rfl rfl ((((ab_u_j (by decide)).trans (ab_u_j (by decide))).trans (ab_u_j (by decide))).trans h12) ?_
          refine aw_ialdq (q := s) (v := f s) dX12_nextToken_85 ⟨Nat.le_of_ble_eq_true rfl, Nat.le_of_ble_eq_true rfl⟩ rfl (by omega) (by omega) (by decide) rfl ((((ab_u_i (by decide)).trans (ab_u_i (by decide))).trans (ab_u_i (by decide))).trans h93) ?_
          refine aw_bipush dX12_nextToken_86 rfl ?_
          refine aw_bipush dX12_nextToken_88 rfl ?_
          refine aw_callS (as := [ab_i (f s), ab_i 97, ab_i 122]) (rest := []) dX12_nextToken_90 (ct_X12_in G (104, ab_u (ab_u (ab_u J 84 13 (s : Int)) 84 15 0) 84 16 0, F) (f s) 97 122 (by unfold ab_In; omega) (by unfold ab_In; omega) (by unfold ab_In; omega)) kX12_in sX12_in lX12_75 rfl (Nat.le_of_ble_eq_true rfl) (by decide) (by decide) (by decide) (by decide) ?_
          rintro r9 _ ⟨e9, rfl⟩
          rw [if_pos (by omega)] at e9
          subst e9
          refine aw_if_eq (tgt := 222) dX12_nextToken_93 rfl ⟨by decide, by decide⟩ (fun c9 => absurd c9 (by decide)) (fun _ => ?_)
          refine aw_aload_n dX12_nextToken_96 rfl (by decide) ?_
          refine aw_lconst (z := 0) dX12_nextToken_97 rfl ?_
          refine aw_putl dX12_nextToken_98 fX12_129 ⟨Nat.le_of_ble_eq_true rfl, Nat.le_of_ble_eq_true rfl⟩ rfl rfl ?_
          refine lp (n - s) s _ 0 (by omega) (Nat.le_refl _) hte.symm (fun i b q9 => ?_) ?_ ?_ ?_ ?_
          · rw [ab_u_o (by omega)]; rw [ab_u_o (by omega)]; rw [ab_u_o (by omega)]; rw [ab_u_o (by omega)]; exact hg i b q9
          · simp [ab_u, h12]
          · simp [ab_u, h12]
          · simp [ab_u]
          · rw [Nat.sub_self]; rfl
        · exfalso; omega
      · by_cases hDg : 48 ≤ f s ∧ f s ≤ 57
        · have hl1 : tlT f n p = 2 := by rw [htl]; exact lk_2.mpr hDg
          have hte : teT f n p = rnT f n 2 (n - s) s := by
            rw [show n - s = n - (s + 1) + 1 by omega, rnT, if_pos ⟨hlt, lk_2.mpr hDg⟩]
            unfold teT; rw [hs, if_pos hlt, hl1, if_neg (by decide)]
          rw [if_neg (by omega), if_pos hl1] at htk0
          have lp : ∀ (u q : Nat) (J2 : Nat → Nat → Int) (v : Int), q + u = n → s ≤ q → rnT f n 2 u q = teT f n p → NFx I J2 → J2 84 12 = (q : Int) → J2 84 13 = (s : Int) → J2 84 15 = ((q - s : Nat) : Int) → J2 84 16 = v → (q - s ≤ 2 → v = nvT f s (q - s)) → aW G YX12_nextToken (ab_rm 1 0 0) Z 0 0 (104, J2, F) 241 [some (ab_r 84)] [] := by
            intro u
            induction u with
            | zero =>
              intro q J2 v hq hsq hr hg h12 h13 h15 h16 hv
              have hn1 : J2 84 10 = (n : Int) := (hg 84 10 (by omega)).trans hX.1
              have hqe : q = teT f n p := hr
              rw [hqe] at hv
              refine aw_aload_n dX12_nextToken_241 rfl (by decide) ?_
              refine aw_getiv (v := (q : Int)) dX12_nextToken_242 fX12_115 ⟨Nat.le_of_ble_eq_true rfl, Nat.le_of_ble_eq_true rfl⟩ rfl rfl h12 ?_
              refine aw_aload_n dX12_nextToken_245 rfl (by decide) ?_
              refine aw_getiv (v := (n : Int)) dX12_nextToken_246 fX12_110 ⟨Nat.le_of_ble_eq_true rfl, Nat.le_of_ble_eq_true rfl⟩ rfl rfl hn1 ?_
              refine aw_icmp_ge (tgt := 333) dX12_nextToken_249 rfl (by first | assumption | (unfold ab_In at *; omega)) (by first | assumption | (unfold ab_In at *; omega)) (fun c_249 => ?_) (fun c_249 => ?_)
              · refine aw_aload_n dX12_nextToken_333 rfl (by decide) ?_
                refine aw_aload_n dX12_nextToken_334 rfl (by decide) ?_
                refine aw_getiv (v := ((q - s : Nat) : Int)) dX12_nextToken_335 fX12_121 ⟨Nat.le_of_ble_eq_true rfl, Nat.le_of_ble_eq_true rfl⟩ rfl rfl h15 ?_
                refine aw_iconst dX12_nextToken_338 ?_
                refine aw_icmp_le (tgt := 348) dX12_nextToken_339 rfl (by first | assumption | (unfold ab_In at *; omega)) (by first | assumption | (unfold ab_In at *; omega)) (fun c_339 => ?_) (fun c_339 => ?_)
                · refine aw_ldc2 (z := (-1)) dX12_nextToken_348 nX12_139 ?_
                  refine aw_putl dX12_nextToken_351 fX12_129 ⟨Nat.le_of_ble_eq_true rfl, Nat.le_of_ble_eq_true rfl⟩ rfl rfl ?_
                  refine aw_goto (tgt := 394) dX12_nextToken_354 rfl ?_
                  rw [← hZ]
                  refine aw_return dX12_nextToken_394 rfl ?_
                  refine ⟨rfl, _, rfl, fun i b q9 => ?_, ?_, ?_, ?_, fun q9 => ?_⟩
                  · rw [ab_u_o (by omega)]; exact hg i b q9
                  · rw [ab_u_j (by decide), h12, hqe]
                  · rw [ab_u_j (by decide), h13, hs]
                  · rw [ab_u_s, htk0]; rw [if_pos (by omega)]
                  · rw [ab_u_j (by decide), h16]; unfold nmT; rw [hs]; exact hv (by rw [← hs]; exact (tk_num.mp q9).2)
                · refine aw_ldc2 (z := (-4)) dX12_nextToken_342 nX12_137 ?_
                  refine aw_goto (tgt := 351) dX12_nextToken_345 rfl ?_
                  refine aw_putl dX12_nextToken_351 fX12_129 ⟨Nat.le_of_ble_eq_true rfl, Nat.le_of_ble_eq_true rfl⟩ rfl rfl ?_
                  refine aw_goto (tgt := 394) dX12_nextToken_354 rfl ?_
                  rw [← hZ]
                  refine aw_return dX12_nextToken_394 rfl ?_
                  refine ⟨rfl, _, rfl, fun i b q9 => ?_, ?_, ?_, ?_, fun q9 => ?_⟩
                  · rw [ab_u_o (by omega)]; exact hg i b q9
                  · rw [ab_u_j (by decide), h12, hqe]
                  · rw [ab_u_j (by decide), h13, hs]
                  · rw [ab_u_s, htk0]; rw [if_neg (by omega)]
                  · rw [ab_u_j (by decide), h16]; unfold nmT; rw [hs]; exact hv (by rw [← hs]; exact (tk_num.mp q9).2)
              · exfalso; omega
            | succ u ih =>
              intro q J2 v hq hsq hr hg h12 h13 h15 h16 hv
              have hn1 : J2 84 10 = (n : Int) := (hg 84 10 (by omega)).trans hX.1
              have hfq := hX.2.2 q (by omega)
              have h93 : J2 93 q = f q := (hg 93 q (by omega)).trans hfq.1
              by_cases hLq : 48 ≤ f q ∧ f q ≤ 57
              · rw [rnT, if_pos ⟨by omega, lk_2.mpr hLq⟩] at hr
                refine aw_aload_n dX12_nextToken_241 rfl (by decide) ?_
                refine aw_getiv (v := (q : Int)) dX12_nextToken_242 fX12_115 ⟨Nat.le_of_ble_eq_true rfl, Nat.le_of_ble_eq_true rfl⟩ rfl rfl h12 ?_
                refine aw_aload_n dX12_nextToken_245 rfl (by decide) ?_
                refine aw_getiv (v := (n : Int)) dX12_nextToken_246 fX12_110 ⟨Nat.le_of_ble_eq_true rfl, Nat.le_of_ble_eq_true rfl⟩ rfl rfl hn1 ?_
                refine aw_icmp_ge (tgt := 333) dX12_nextToken_249 rfl (by first | assumption | (unfold ab_In at *; omega)) (by first | assumption | (unfold ab_In at *; omega)) (fun c_249 => ?_) (fun c_249 => ?_)
                · exfalso; omega
                · refine aw_aload_n dX12_nextToken_252 rfl (by decide) ?_
                  refine aw_getrv (r := 93) dX12_nextToken_253 fX12_35 ⟨Nat.le_of_ble_eq_true rfl, Nat.le_of_ble_eq_true rfl⟩ rfl rfl (hF.at 84 11 93 rfl rfl rfl) ?_
                  refine aw_aload_n dX12_nextToken_256 rfl (by decide) ?_
                  refine aw_getiv (v := (q : Int)) dX12_nextToken_257 fX12_115 ⟨Nat.le_of_ble_eq_true rfl, Nat.le_of_ble_eq_true rfl⟩ rfl rfl h12 ?_
                  refine aw_ialdq (q := q) (v := f q) dX12_nextToken_260 ⟨Nat.le_of_ble_eq_true rfl, Nat.le_of_ble_eq_true rfl⟩ rfl (by omega) (by omega) (by decide) rfl h93 ?_
                  refine aw_bipush dX12_nextToken_261 rfl ?_
                  refine aw_bipush dX12_nextToken_263 rfl ?_
                  refine aw_callS (as := [ab_i (f q), ab_i 48, ab_i 57]) (rest := []) dX12_nextToken_265 (ct_X12_in G (104, J2, F) (f q) 48 57 (by unfold ab_In; omega) (by unfold ab_In; omega) (by unfold ab_In; omega)) kX12_in sX12_in lX12_75 rfl (Nat.le_of_ble_eq_true rfl) (by decide) (by decide) (by decide) (by decide) ?_
                  rintro r9 _ ⟨e9, rfl⟩
                  rw [if_pos (by omega)] at e9
                  subst e9
                  refine aw_if_eq (tgt := 333) dX12_nextToken_268 rfl ⟨by decide, by decide⟩ (fun c9 => absurd c9 (by decide)) (fun _ => ?_)
                  refine aw_aload_n dX12_nextToken_271 rfl (by decide) ?_
                  refine aw_aload_n dX12_nextToken_272 rfl (by decide) ?_
                  refine aw_getiv (v := ((q - s : Nat) : Int)) dX12_nextToken_273 fX12_121 ⟨Nat.le_of_ble_eq_true rfl, Nat.le_of_ble_eq_true rfl⟩ rfl rfl h15 ?_
                  refine aw_iconst dX12_nextToken_276 ?_
                  refine aw_icmp_ge (tgt := 303) dX12_nextToken_277 rfl (by first | assumption | (unfold ab_In at *; omega)) (by first | assumption | (unfold ab_In at *; omega)) (fun c_277 => ?_) (fun c_277 => ?_)
                  · refine aw_aload_n dX12_nextToken_303 rfl (by decide) ?_
                    refine aw_getiv (v := v) dX12_nextToken_304 fX12_124 ⟨Nat.le_of_ble_eq_true rfl, Nat.le_of_ble_eq_true rfl⟩ rfl rfl h16 ?_
                    refine aw_puti dX12_nextToken_307 fX12_124 ⟨Nat.le_of_ble_eq_true rfl, Nat.le_of_ble_eq_true rfl⟩ rfl rfl ?_
                    refine aw_aload_n dX12_nextToken_310 rfl (by decide) ?_
                    refine aw_dup dX12_nextToken_311 rfl ?_
                    refine aw_getiv (v := ((q - s : Nat) : Int)) dX12_nextToken_312 fX12_121 ⟨Nat.le_of_ble_eq_true rfl, Nat.le_of_ble_eq_true rfl⟩ rfl rfl ((ab_u_j (by decide)).trans h15) ?_
                    refine aw_iconst dX12_nextToken_315 ?_
                    refine aw_iadd dX12_nextToken_316 ?_
                    refine aw_puti dX12_nextToken_317 fX12_121 ⟨Nat.le_of_ble_eq_true rfl, Nat.le_of_ble_eq_true rfl⟩ rfl rfl ?_
                    refine aw_aload_n dX12_nextToken_320 rfl (by decide) ?_
                    refine aw_dup dX12_nextToken_321 rfl ?_
                    refine aw_getiv (v := (q : Int)) dX12_nextToken_322 fX12_115 ⟨Nat.le_of_ble_eq_true rfl, Nat.le_of_ble_eq_true rfl⟩ rfl rfl (((ab_u_j (by decide)).trans (ab_u_j (by decide))).trans h12) ?_
                    refine aw_iconst dX12_nextToken_325 ?_
                    refine aw_iadd dX12_nextToken_326 ?_
                    refine aw_puti dX12_nextToken_327 fX12_115 ⟨Nat.le_of_ble_eq_true rfl, Nat.le_of_ble_eq_true rfl⟩ rfl rfl ?_
                    refine aw_goto (tgt := 241) dX12_nextToken_330 rfl ?_
                    refine ih (q + 1) _ v (by omega) (by omega) hr (fun i b q9 => ?_) (by rw [ab_u_s]; rfl) ?_ ?_ ?_ ?_
                    · rw [ab_u_o (by omega)]; rw [ab_u_o (by omega)]; rw [ab_u_o (by omega)]; exact hg i b q9
                    · rw [ab_u_j (by decide), ab_u_j (by decide), ab_u_j (by decide)]; exact h13
                    · rw [ab_u_j (by decide), ab_u_s]; omega
                    · rw [ab_u_j (by decide), ab_u_j (by decide), ab_u_s]
                    · intro q9; exfalso; omega
                  · refine aw_bipush dX12_nextToken_280 rfl ?_
                    refine aw_aload_n dX12_nextToken_282 rfl (by decide) ?_
                    refine aw_getiv (v := v) dX12_nextToken_283 fX12_124 ⟨Nat.le_of_ble_eq_true rfl, Nat.le_of_ble_eq_true rfl⟩ rfl rfl h16 ?_
                    refine aw_imul dX12_nextToken_286 ?_
                    refine aw_aload_n dX12_nextToken_287 rfl (by decide) ?_
                    refine aw_getrv (r := 93) dX12_nextToken_288 fX12_35 ⟨Nat.le_of_ble_eq_true rfl, Nat.le_of_ble_eq_true rfl⟩ rfl rfl (hF.at 84 11 93 rfl rfl rfl) ?_
                    refine aw_aload_n dX12_nextToken_291 rfl (by decide) ?_
                    refine aw_getiv (v := (q : Int)) dX12_nextToken_292 fX12_115 ⟨Nat.le_of_ble_eq_true rfl, Nat.le_of_ble_eq_true rfl⟩ rfl rfl h12 ?_
                    refine aw_ialdq (q := q) (v := f q) dX12_nextToken_295 ⟨Nat.le_of_ble_eq_true rfl, Nat.le_of_ble_eq_true rfl⟩ rfl (by omega) (by omega) (by decide) rfl h93 ?_
                    refine aw_iadd dX12_nextToken_296 ?_
                    refine aw_bipush dX12_nextToken_297 rfl ?_
                    refine aw_isub dX12_nextToken_299 ?_
                    refine aw_goto (tgt := 307) dX12_nextToken_300 rfl ?_
                    refine aw_puti dX12_nextToken_307 fX12_124 ⟨Nat.le_of_ble_eq_true rfl, Nat.le_of_ble_eq_true rfl⟩ rfl rfl ?_
                    refine aw_aload_n dX12_nextToken_310 rfl (by decide) ?_
                    refine aw_dup dX12_nextToken_311 rfl ?_
                    refine aw_getiv (v := ((q - s : Nat) : Int)) dX12_nextToken_312 fX12_121 ⟨Nat.le_of_ble_eq_true rfl, Nat.le_of_ble_eq_true rfl⟩ rfl rfl ((ab_u_j (by decide)).trans h15) ?_
                    refine aw_iconst dX12_nextToken_315 ?_
                    refine aw_iadd dX12_nextToken_316 ?_
                    refine aw_puti dX12_nextToken_317 fX12_121 ⟨Nat.le_of_ble_eq_true rfl, Nat.le_of_ble_eq_true rfl⟩ rfl rfl ?_
                    refine aw_aload_n dX12_nextToken_320 rfl (by decide) ?_
                    refine aw_dup dX12_nextToken_321 rfl ?_
                    refine aw_getiv (v := (q : Int)) dX12_nextToken_322 fX12_115 ⟨Nat.le_of_ble_eq_true rfl, Nat.le_of_ble_eq_true rfl⟩ rfl rfl (((ab_u_j (by decide)).trans (ab_u_j (by decide))).trans h12) ?_
                    refine aw_iconst dX12_nextToken_325 ?_
                    refine aw_iadd dX12_nextToken_326 ?_
                    refine aw_puti dX12_nextToken_327 fX12_115 ⟨Nat.le_of_ble_eq_true rfl, Nat.le_of_ble_eq_true rfl⟩ rfl rfl ?_
                    refine aw_goto (tgt := 241) dX12_nextToken_330 rfl ?_
                    refine ih (q + 1) _ (((10 * v) + (f q)) - 48) (by omega) (by omega) hr (fun i b q9 => ?_) (by rw [ab_u_s]; rfl) ?_ ?_ ?_ ?_
                    · rw [ab_u_o (by omega)]; rw [ab_u_o (by omega)]; rw [ab_u_o (by omega)]; exact hg i b q9
                    · rw [ab_u_j (by decide), ab_u_j (by decide), ab_u_j (by decide)]; exact h13
                    · rw [ab_u_j (by decide), ab_u_s]; omega
                    · rw [ab_u_j (by decide), ab_u_j (by decide), ab_u_s]
                    · intro q9
                      rw [show q + 1 - s = q - s + 1 by omega, nvT, ← hv (by omega), show s + (q - s) = q by omega]
              · rw [rnT, if_neg (fun q9 => hLq (lk_2.mp q9.2))] at hr
                have hqe : q = teT f n p := hr
                rw [hqe] at hv
                refine aw_aload_n dX12_nextToken_241 rfl (by decide) ?_
                refine aw_getiv (v := (q : Int)) dX12_nextToken_242 fX12_115 ⟨Nat.le_of_ble_eq_true rfl, Nat.le_of_ble_eq_true rfl⟩ rfl rfl h12 ?_
                refine aw_aload_n dX12_nextToken_245 rfl (by decide) ?_
                refine aw_getiv (v := (n : Int)) dX12_nextToken_246 fX12_110 ⟨Nat.le_of_ble_eq_true rfl, Nat.le_of_ble_eq_true rfl⟩ rfl rfl hn1 ?_
                refine aw_icmp_ge (tgt := 333) dX12_nextToken_249 rfl (by first | assumption | (unfold ab_In at *; omega)) (by first | assumption | (unfold ab_In at *; omega)) (fun c_249 => ?_) (fun c_249 => ?_)
                · exfalso; omega
                · refine aw_aload_n dX12_nextToken_252 rfl (by decide) ?_
                  refine aw_getrv (r := 93) dX12_nextToken_253 fX12_35 ⟨Nat.le_of_ble_eq_true rfl, Nat.le_of_ble_eq_true rfl⟩ rfl rfl (hF.at 84 11 93 rfl rfl rfl) ?_
                  refine aw_aload_n dX12_nextToken_256 rfl (by decide) ?_
                  refine aw_getiv (v := (q : Int)) dX12_nextToken_257 fX12_115 ⟨Nat.le_of_ble_eq_true rfl, Nat.le_of_ble_eq_true rfl⟩ rfl rfl h12 ?_
                  refine aw_ialdq (q := q) (v := f q) dX12_nextToken_260 ⟨Nat.le_of_ble_eq_true rfl, Nat.le_of_ble_eq_true rfl⟩ rfl (by omega) (by omega) (by decide) rfl h93 ?_
                  refine aw_bipush dX12_nextToken_261 rfl ?_
                  refine aw_bipush dX12_nextToken_263 rfl ?_
                  refine aw_callS (as := [ab_i (f q), ab_i 48, ab_i 57]) (rest := []) dX12_nextToken_265 (ct_X12_in G (104, J2, F) (f q) 48 57 (by unfold ab_In; omega) (by unfold ab_In; omega) (by unfold ab_In; omega)) kX12_in sX12_in lX12_75 rfl (Nat.le_of_ble_eq_true rfl) (by decide) (by decide) (by decide) (by decide) ?_
                  rintro r9 _ ⟨e9, rfl⟩
                  rw [if_neg (by omega)] at e9
                  subst e9
                  refine aw_if_eq (tgt := 333) dX12_nextToken_268 rfl ⟨by decide, by decide⟩ (fun _ => ?_) (fun c9 => absurd (by decide) c9)
                  refine aw_aload_n dX12_nextToken_333 rfl (by decide) ?_
                  refine aw_aload_n dX12_nextToken_334 rfl (by decide) ?_
                  refine aw_getiv (v := ((q - s : Nat) : Int)) dX12_nextToken_335 fX12_121 ⟨Nat.le_of_ble_eq_true rfl, Nat.le_of_ble_eq_true rfl⟩ rfl rfl h15 ?_
                  refine aw_iconst dX12_nextToken_338 ?_
                  refine aw_icmp_le (tgt := 348) dX12_nextToken_339 rfl (by first | assumption | (unfold ab_In at *; omega)) (by first | assumption | (unfold ab_In at *; omega)) (fun c_339 => ?_) (fun c_339 => ?_)
                  · refine aw_ldc2 (z := (-1)) dX12_nextToken_348 nX12_139 ?_
                    refine aw_putl dX12_nextToken_351 fX12_129 ⟨Nat.le_of_ble_eq_true rfl, Nat.le_of_ble_eq_true rfl⟩ rfl rfl ?_
                    refine aw_goto (tgt := 394) dX12_nextToken_354 rfl ?_
                    rw [← hZ]
                    refine aw_return dX12_nextToken_394 rfl ?_
                    refine ⟨rfl, _, rfl, fun i b q9 => ?_, ?_, ?_, ?_, fun q9 => ?_⟩
                    · rw [ab_u_o (by omega)]; exact hg i b q9
                    · rw [ab_u_j (by decide), h12, hqe]
                    · rw [ab_u_j (by decide), h13, hs]
                    · rw [ab_u_s, htk0]; rw [if_pos (by omega)]
                    · rw [ab_u_j (by decide), h16]; unfold nmT; rw [hs]; exact hv (by rw [← hs]; exact (tk_num.mp q9).2)
                  · refine aw_ldc2 (z := (-4)) dX12_nextToken_342 nX12_137 ?_
                    refine aw_goto (tgt := 351) dX12_nextToken_345 rfl ?_
                    refine aw_putl dX12_nextToken_351 fX12_129 ⟨Nat.le_of_ble_eq_true rfl, Nat.le_of_ble_eq_true rfl⟩ rfl rfl ?_
                    refine aw_goto (tgt := 394) dX12_nextToken_354 rfl ?_
                    rw [← hZ]
                    refine aw_return dX12_nextToken_394 rfl ?_
                    refine ⟨rfl, _, rfl, fun i b q9 => ?_, ?_, ?_, ?_, fun q9 => ?_⟩
                    · rw [ab_u_o (by omega)]; exact hg i b q9
                    · rw [ab_u_j (by decide), h12, hqe]
                    · rw [ab_u_j (by decide), h13, hs]
                    · rw [ab_u_s, htk0]; rw [if_neg (by omega)]
                    · rw [ab_u_j (by decide), h16]; unfold nmT; rw [hs]; exact hv (by rw [← hs]; exact (tk_num.mp q9).2)
          refine aw_aload_n dX12_nextToken_38 rfl (by decide) ?_
          refine aw_aload_n dX12_nextToken_39 rfl (by decide) ?_
          refine aw_getiv (v := (s : Int)) dX12_nextToken_40 fX12_115 ⟨Nat.le_of_ble_eq_true rfl, Nat.le_of_ble_eq_true rfl⟩ rfl rfl h12 ?_
          refine aw_puti dX12_nextToken_43 fX12_118 ⟨Nat.le_of_ble_eq_true rfl, Nat.le_of_ble_eq_true rfl⟩ rfl rfl ?_
          refine aw_aload_n dX12_nextToken_46 rfl (by decide) ?_
          refine aw_iconst dX12_nextToken_47 ?_
          refine aw_puti dX12_nextToken_48 fX12_121 ⟨Nat.le_of_ble_eq_true rfl, Nat.le_of_ble_eq_true rfl⟩ rfl rfl ?_
          refine aw_aload_n dX12_nextToken_51 rfl (by decide) ?_
          refine aw_iconst dX12_nextToken_52 ?_
          refine aw_puti dX12_nextToken_53 fX12_124 ⟨Nat.le_of_ble_eq_true rfl, Nat.le_of_ble_eq_true rfl⟩ rfl rfl ?_
          refine aw_aload_n dX12_nextToken_56 rfl (by decide) ?_
          refine aw_getiv (v := (s : Int)) dX12_nextToken_57 fX12_115 ⟨Nat.le_of_ble_eq_true rfl, Nat.le_of_ble_eq_true rfl⟩ rfl rfl ((((ab_u_j (by decide)).trans (ab_u_j (by decide))).trans (ab_u_j (by decide))).trans h12) ?_
          refine aw_aload_n dX12_nextToken_60 rfl (by decide) ?_
          refine aw_getiv (v := (n : Int)) dX12_nextToken_61 fX12_110 ⟨Nat.le_of_ble_eq_true rfl, Nat.le_of_ble_eq_true rfl⟩ rfl rfl ((((ab_u_j (by decide)).trans (ab_u_j (by decide))).trans (ab_u_j (by decide))).trans hn1) ?_
          refine aw_icmp_ne (tgt := 77) dX12_nextToken_64 rfl (by first | assumption | (unfold ab_In at *; omega)) (by first | assumption | (unfold ab_In at *; omega)) (fun c_64 => ?_) (fun c_64 => ?_)
          · refine aw_aload_n dX12_nextToken_77 rfl (by decide) ?_
            refine aw_getrv (r := 93) dX12_nextToken_78 fX12_35 ⟨Nat.le_of_ble_eq_true rfl, Nat.le_of_ble_eq_true rfl⟩ rfl rfl (hF.at 84 11 93 rfl rfl rfl) ?_
            refine aw_aload_n dX12_nextToken_81 rfl (by decide) ?_
            refine aw_getiv (v := (s : Int)) dX12_nextToken_82 fX12_115 ⟨Nat.le_of_ble_eq_true rfl, Nat.le_of_ble_eq_true rfl⟩ rfl rfl ((((ab_u_j (by decide)).trans (ab_u_j (by decide))).trans (ab_u_j (by decide))).trans h12) ?_
            refine aw_ialdq (q := s) (v := f s) dX12_nextToken_85 ⟨Nat.le_of_ble_eq_true rfl, Nat.le_of_ble_eq_true rfl⟩ rfl (by omega) (by omega) (by decide) rfl ((((ab_u_i (by decide)).trans (ab_u_i (by decide))).trans (ab_u_i (by decide))).trans h93) ?_
            refine aw_bipush dX12_nextToken_86 rfl ?_
            refine aw_bipush dX12_nextToken_88 rfl ?_
            refine aw_callS (as := [ab_i (f s), ab_i 97, ab_i 122]) (rest := []) dX12_nextToken_90 (ct_X12_in G (104, ab_u (ab_u (ab_u J 84 13 (s : Int)) 84 15 0) 84 16 0, F) (f s) 97 122 (by unfold ab_In; omega) (by unfold ab_In; omega) (by unfold ab_In; omega)) kX12_in sX12_in lX12_75 rfl (Nat.le_of_ble_eq_true rfl) (by decide) (by decide) (by decide) (by decide) ?_
            rintro r9 _ ⟨e9, rfl⟩
            rw [if_neg (by omega)] at e9
            subst e9
            refine aw_if_eq (tgt := 222) dX12_nextToken_93 rfl ⟨by decide, by decide⟩ (fun _ => ?_) (fun c9 => absurd (by decide) c9)
            refine aw_aload_n dX12_nextToken_222 rfl (by decide) ?_
            refine aw_getrv (r := 93) dX12_nextToken_223 fX12_35 ⟨Nat.le_of_ble_eq_true rfl, Nat.le_of_ble_eq_true rfl⟩ rfl rfl (hF.at 84 11 93 rfl rfl rfl) ?_
            refine aw_aload_n dX12_nextToken_226 rfl (by decide) ?_
            refine aw_getiv (v := (s : Int)) dX12_nextToken_227 fX12_115 ⟨Nat.le_of_ble_eq_true rfl, Nat.le_of_ble_eq_true rfl⟩ rfl rfl ((((ab_u_j (by decide)).trans (ab_u_j (by decide))).trans (ab_u_j (by decide))).trans h12) ?_
            refine aw_ialdq (q := s) (v := f s) dX12_nextToken_230 ⟨Nat.le_of_ble_eq_true rfl, Nat.le_of_ble_eq_true rfl⟩ rfl (by omega) (by omega) (by decide) rfl ((((ab_u_i (by decide)).trans (ab_u_i (by decide))).trans (ab_u_i (by decide))).trans h93) ?_
            refine aw_bipush dX12_nextToken_231 rfl ?_
            refine aw_bipush dX12_nextToken_233 rfl ?_
            refine aw_callS (as := [ab_i (f s), ab_i 48, ab_i 57]) (rest := []) dX12_nextToken_235 (ct_X12_in G (104, ab_u (ab_u (ab_u J 84 13 (s : Int)) 84 15 0) 84 16 0, F) (f s) 48 57 (by unfold ab_In; omega) (by unfold ab_In; omega) (by unfold ab_In; omega)) kX12_in sX12_in lX12_75 rfl (Nat.le_of_ble_eq_true rfl) (by decide) (by decide) (by decide) (by decide) ?_
            rintro r9 _ ⟨e9, rfl⟩
            rw [if_pos (by omega)] at e9
            subst e9
            refine aw_if_eq (tgt := 357) dX12_nextToken_238 rfl ⟨by decide, by decide⟩ (fun c9 => absurd c9 (by decide)) (fun _ => ?_)
            refine lp (n - s) s _ 0 (by omega) (Nat.le_refl _) hte.symm (fun i b q9 => ?_) ?_ ?_ ?_ ?_ ?_
            · rw [ab_u_o (by omega)]; rw [ab_u_o (by omega)]; rw [ab_u_o (by omega)]; exact hg i b q9
            · simp [ab_u, h12]
            · simp [ab_u, h12]
            · simp [ab_u]
            · simp [ab_u]
            · intro _; rw [Nat.sub_self]; rfl
          · exfalso; omega
        · have hl1 : tlT f n p = 0 := by
            rw [htl]
            have q1 : ¬ lkT (f s) = 1 := fun q => hL (lk_1.mp q)
            have q2 : ¬ lkT (f s) = 2 := fun q => hDg (lk_2.mp q)
            omega
          rw [hl1, if_neg (by decide), if_neg (by decide)] at htk0
          have hte := tok_0 (f := f) hlts hl1
          rw [hs] at hte
          refine aw_aload_n dX12_nextToken_38 rfl (by decide) ?_
          refine aw_aload_n dX12_nextToken_39 rfl (by decide) ?_
          refine aw_getiv (v := (s : Int)) dX12_nextToken_40 fX12_115 ⟨Nat.le_of_ble_eq_true rfl, Nat.le_of_ble_eq_true rfl⟩ rfl rfl h12 ?_
          refine aw_puti dX12_nextToken_43 fX12_118 ⟨Nat.le_of_ble_eq_true rfl, Nat.le_of_ble_eq_true rfl⟩ rfl rfl ?_
          refine aw_aload_n dX12_nextToken_46 rfl (by decide) ?_
          refine aw_iconst dX12_nextToken_47 ?_
          refine aw_puti dX12_nextToken_48 fX12_121 ⟨Nat.le_of_ble_eq_true rfl, Nat.le_of_ble_eq_true rfl⟩ rfl rfl ?_
          refine aw_aload_n dX12_nextToken_51 rfl (by decide) ?_
          refine aw_iconst dX12_nextToken_52 ?_
          refine aw_puti dX12_nextToken_53 fX12_124 ⟨Nat.le_of_ble_eq_true rfl, Nat.le_of_ble_eq_true rfl⟩ rfl rfl ?_
          refine aw_aload_n dX12_nextToken_56 rfl (by decide) ?_
          refine aw_getiv (v := (s : Int)) dX12_nextToken_57 fX12_115 ⟨Nat.le_of_ble_eq_true rfl, Nat.le_of_ble_eq_true rfl⟩ rfl rfl ((((ab_u_j (by decide)).trans (ab_u_j (by decide))).trans (ab_u_j (by decide))).trans h12) ?_
          refine aw_aload_n dX12_nextToken_60 rfl (by decide) ?_
          refine aw_getiv (v := (n : Int)) dX12_nextToken_61 fX12_110 ⟨Nat.le_of_ble_eq_true rfl, Nat.le_of_ble_eq_true rfl⟩ rfl rfl ((((ab_u_j (by decide)).trans (ab_u_j (by decide))).trans (ab_u_j (by decide))).trans hn1) ?_
          refine aw_icmp_ne (tgt := 77) dX12_nextToken_64 rfl (by first | assumption | (unfold ab_In at *; omega)) (by first | assumption | (unfold ab_In at *; omega)) (fun c_64 => ?_) (fun c_64 => ?_)
          · refine aw_aload_n dX12_nextToken_77 rfl (by decide) ?_
            refine aw_getrv (r := 93) dX12_nextToken_78 fX12_35 ⟨Nat.le_of_ble_eq_true rfl, Nat.le_of_ble_eq_true rfl⟩ rfl rfl (hF.at 84 11 93 rfl rfl rfl) ?_
            refine aw_aload_n dX12_nextToken_81 rfl (by decide) ?_
            refine aw_getiv (v := (s : Int)) dX12_nextToken_82 fX12_115 ⟨Nat.le_of_ble_eq_true rfl, Nat.le_of_ble_eq_true rfl⟩ rfl rfl ((((ab_u_j (by decide)).trans (ab_u_j (by decide))).trans (ab_u_j (by decide))).trans h12) ?_
            refine aw_ialdq (q := s) (v := f s) dX12_nextToken_85 ⟨Nat.le_of_ble_eq_true rfl, Nat.le_of_ble_eq_true rfl⟩ rfl (by omega) (by omega) (by decide) rfl ((((ab_u_i (by decide)).trans (ab_u_i (by decide))).trans (ab_u_i (by decide))).trans h93) ?_
            refine aw_bipush dX12_nextToken_86 rfl ?_
            refine aw_bipush dX12_nextToken_88 rfl ?_
            refine aw_callS (as := [ab_i (f s), ab_i 97, ab_i 122]) (rest := []) dX12_nextToken_90 (ct_X12_in G (104, ab_u (ab_u (ab_u J 84 13 (s : Int)) 84 15 0) 84 16 0, F) (f s) 97 122 (by unfold ab_In; omega) (by unfold ab_In; omega) (by unfold ab_In; omega)) kX12_in sX12_in lX12_75 rfl (Nat.le_of_ble_eq_true rfl) (by decide) (by decide) (by decide) (by decide) ?_
            rintro r9 _ ⟨e9, rfl⟩
            rw [if_neg (by omega)] at e9
            subst e9
            refine aw_if_eq (tgt := 222) dX12_nextToken_93 rfl ⟨by decide, by decide⟩ (fun _ => ?_) (fun c9 => absurd (by decide) c9)
            refine aw_aload_n dX12_nextToken_222 rfl (by decide) ?_
            refine aw_getrv (r := 93) dX12_nextToken_223 fX12_35 ⟨Nat.le_of_ble_eq_true rfl, Nat.le_of_ble_eq_true rfl⟩ rfl rfl (hF.at 84 11 93 rfl rfl rfl) ?_
            refine aw_aload_n dX12_nextToken_226 rfl (by decide) ?_
            refine aw_getiv (v := (s : Int)) dX12_nextToken_227 fX12_115 ⟨Nat.le_of_ble_eq_true rfl, Nat.le_of_ble_eq_true rfl⟩ rfl rfl ((((ab_u_j (by decide)).trans (ab_u_j (by decide))).trans (ab_u_j (by decide))).trans h12) ?_
            refine aw_ialdq (q := s) (v := f s) dX12_nextToken_230 ⟨Nat.le_of_ble_eq_true rfl, Nat.le_of_ble_eq_true rfl⟩ rfl (by omega) (by omega) (by decide) rfl ((((ab_u_i (by decide)).trans (ab_u_i (by decide))).trans (ab_u_i (by decide))).trans h93) ?_
            refine aw_bipush dX12_nextToken_231 rfl ?_
            refine aw_bipush dX12_nextToken_233 rfl ?_
            refine aw_callS (as := [ab_i (f s), ab_i 48, ab_i 57]) (rest := []) dX12_nextToken_235 (ct_X12_in G (104, ab_u (ab_u (ab_u J 84 13 (s : Int)) 84 15 0) 84 16 0, F) (f s) 48 57 (by unfold ab_In; omega) (by unfold ab_In; omega) (by unfold ab_In; omega)) kX12_in sX12_in lX12_75 rfl (Nat.le_of_ble_eq_true rfl) (by decide) (by decide) (by decide) (by decide) ?_
            rintro r9 _ ⟨e9, rfl⟩
            rw [if_neg (by omega)] at e9
            subst e9
            refine aw_if_eq (tgt := 357) dX12_nextToken_238 rfl ⟨by decide, by decide⟩ (fun _ => ?_) (fun c9 => absurd (by decide) c9)
            refine aw_aload_n dX12_nextToken_357 rfl (by decide) ?_
            refine aw_aload_n dX12_nextToken_358 rfl (by decide) ?_
            refine aw_getrv (r := 93) dX12_nextToken_359 fX12_35 ⟨Nat.le_of_ble_eq_true rfl, Nat.le_of_ble_eq_true rfl⟩ rfl rfl (hF.at 84 11 93 rfl rfl rfl) ?_
            refine aw_aload_n dX12_nextToken_362 rfl (by decide) ?_
            refine aw_getiv (v := (s : Int)) dX12_nextToken_363 fX12_115 ⟨Nat.le_of_ble_eq_true rfl, Nat.le_of_ble_eq_true rfl⟩ rfl rfl ((((ab_u_j (by decide)).trans (ab_u_j (by decide))).trans (ab_u_j (by decide))).trans h12) ?_
            refine aw_ialdq (q := s) (v := f s) dX12_nextToken_366 ⟨Nat.le_of_ble_eq_true rfl, Nat.le_of_ble_eq_true rfl⟩ rfl (by omega) (by omega) (by decide) rfl ((((ab_u_i (by decide)).trans (ab_u_i (by decide))).trans (ab_u_i (by decide))).trans h93) ?_
            refine aw_bipush dX12_nextToken_367 rfl ?_
            refine aw_icmp_ne (tgt := 378) dX12_nextToken_369 rfl (by first | assumption | (unfold ab_In at *; omega)) (by first | assumption | (unfold ab_In at *; omega)) (fun c_369 => ?_) (fun c_369 => ?_)
            · refine aw_ldc2 (z := (-4)) dX12_nextToken_378 nX12_137 ?_
              refine aw_putl dX12_nextToken_381 fX12_129 ⟨Nat.le_of_ble_eq_true rfl, Nat.le_of_ble_eq_true rfl⟩ rfl rfl ?_
              refine aw_aload_n dX12_nextToken_384 rfl (by decide) ?_
              refine aw_dup dX12_nextToken_385 rfl ?_
              refine aw_getiv (v := (s : Int)) dX12_nextToken_386 fX12_115 ⟨Nat.le_of_ble_eq_true rfl, Nat.le_of_ble_eq_true rfl⟩ rfl rfl (((((ab_u_j (by decide)).trans (ab_u_j (by decide))).trans (ab_u_j (by decide))).trans (ab_u_j (by decide))).trans h12) ?_
              refine aw_iconst dX12_nextToken_389 ?_
              refine aw_iadd dX12_nextToken_390 ?_
              refine aw_puti dX12_nextToken_391 fX12_115 ⟨Nat.le_of_ble_eq_true rfl, Nat.le_of_ble_eq_true rfl⟩ rfl rfl ?_
              rw [← hZ]
              refine aw_return dX12_nextToken_394 rfl ?_
              have hnk : ¬ tkT f n p = -1 := by rw [htk0, if_neg c_369]; decide
              refine ⟨rfl, _, rfl, fun i b q9 => ?_, ?_, ?_, ?_, fun q9 => absurd q9 hnk⟩
              · rw [ab_u_o (by omega)]; rw [ab_u_o (by omega)]; rw [ab_u_o (by omega)]; rw [ab_u_o (by omega)]; rw [ab_u_o (by omega)]; exact hg i b q9
              · rw [hte]; simp [ab_u, h12]
              · rw [hs]; simp [ab_u, h12]
              · rw [htk0, if_neg c_369]; simp [ab_u]
            · refine aw_ldc2 (z := (-3)) dX12_nextToken_372 nX12_141 ?_
              refine aw_goto (tgt := 381) dX12_nextToken_375 rfl ?_
              refine aw_putl dX12_nextToken_381 fX12_129 ⟨Nat.le_of_ble_eq_true rfl, Nat.le_of_ble_eq_true rfl⟩ rfl rfl ?_
              refine aw_aload_n dX12_nextToken_384 rfl (by decide) ?_
              refine aw_dup dX12_nextToken_385 rfl ?_
              refine aw_getiv (v := (s : Int)) dX12_nextToken_386 fX12_115 ⟨Nat.le_of_ble_eq_true rfl, Nat.le_of_ble_eq_true rfl⟩ rfl rfl (((((ab_u_j (by decide)).trans (ab_u_j (by decide))).trans (ab_u_j (by decide))).trans (ab_u_j (by decide))).trans h12) ?_
              refine aw_iconst dX12_nextToken_389 ?_
              refine aw_iadd dX12_nextToken_390 ?_
              refine aw_puti dX12_nextToken_391 fX12_115 ⟨Nat.le_of_ble_eq_true rfl, Nat.le_of_ble_eq_true rfl⟩ rfl rfl ?_
              rw [← hZ]
              refine aw_return dX12_nextToken_394 rfl ?_
              have hnk : ¬ tkT f n p = -1 := by rw [htk0, if_pos c_369]; decide
              refine ⟨rfl, _, rfl, fun i b q9 => ?_, ?_, ?_, ?_, fun q9 => absurd q9 hnk⟩
              · rw [ab_u_o (by omega)]; rw [ab_u_o (by omega)]; rw [ab_u_o (by omega)]; rw [ab_u_o (by omega)]; rw [ab_u_o (by omega)]; exact hg i b q9
              · rw [hte]; simp [ab_u, h12]
              · rw [hs]; simp [ab_u, h12]
              · rw [htk0, if_pos c_369]; simp [ab_u]
          · exfalso; omega
    · have htk : tkT f n p = -2 := by unfold tkT; rw [hs, if_neg hlt]
      have hte : teT f n p = s := by unfold teT; rw [hs, if_neg hlt]
      refine aw_aload_n dX12_nextToken_38 rfl (by decide) ?_
      refine aw_aload_n dX12_nextToken_39 rfl (by decide) ?_
      refine aw_getiv (v := (s : Int)) dX12_nextToken_40 fX12_115 ⟨Nat.le_of_ble_eq_true rfl, Nat.le_of_ble_eq_true rfl⟩ rfl rfl h12 ?_
      refine aw_puti dX12_nextToken_43 fX12_118 ⟨Nat.le_of_ble_eq_true rfl, Nat.le_of_ble_eq_true rfl⟩ rfl rfl ?_
      refine aw_aload_n dX12_nextToken_46 rfl (by decide) ?_
      refine aw_iconst dX12_nextToken_47 ?_
      refine aw_puti dX12_nextToken_48 fX12_121 ⟨Nat.le_of_ble_eq_true rfl, Nat.le_of_ble_eq_true rfl⟩ rfl rfl ?_
      refine aw_aload_n dX12_nextToken_51 rfl (by decide) ?_
      refine aw_iconst dX12_nextToken_52 ?_
      refine aw_puti dX12_nextToken_53 fX12_124 ⟨Nat.le_of_ble_eq_true rfl, Nat.le_of_ble_eq_true rfl⟩ rfl rfl ?_
      refine aw_aload_n dX12_nextToken_56 rfl (by decide) ?_
      refine aw_getiv (v := (s : Int)) dX12_nextToken_57 fX12_115 ⟨Nat.le_of_ble_eq_true rfl, Nat.le_of_ble_eq_true rfl⟩ rfl rfl ((((ab_u_j (by decide)).trans (ab_u_j (by decide))).trans (ab_u_j (by decide))).trans h12) ?_
      refine aw_aload_n dX12_nextToken_60 rfl (by decide) ?_
      refine aw_getiv (v := (n : Int)) dX12_nextToken_61 fX12_110 ⟨Nat.le_of_ble_eq_true rfl, Nat.le_of_ble_eq_true rfl⟩ rfl rfl ((((ab_u_j (by decide)).trans (ab_u_j (by decide))).trans (ab_u_j (by decide))).trans hn1) ?_
      refine aw_icmp_ne (tgt := 77) dX12_nextToken_64 rfl (by first | assumption | (unfold ab_In at *; omega)) (by first | assumption | (unfold ab_In at *; omega)) (fun c_64 => ?_) (fun c_64 => ?_)
      · exfalso; omega
      · refine aw_aload_n dX12_nextToken_67 rfl (by decide) ?_
        refine aw_ldc2 (z := (-2)) dX12_nextToken_68 nX12_127 ?_
        refine aw_putl dX12_nextToken_71 fX12_129 ⟨Nat.le_of_ble_eq_true rfl, Nat.le_of_ble_eq_true rfl⟩ rfl rfl ?_
        refine aw_goto (tgt := 394) dX12_nextToken_74 rfl ?_
        rw [← hZ]
        refine aw_return dX12_nextToken_394 rfl ?_
        refine ⟨rfl, _, rfl, fun i b q9 => ?_, ?_, ?_, ?_, fun q9 => ?_⟩
        · rw [ab_u_o (by omega)]; rw [ab_u_o (by omega)]; rw [ab_u_o (by omega)]; rw [ab_u_o (by omega)]; exact hg i b q9
        · rw [hte]; simp [ab_u, h12]
        · rw [hs]; simp [ab_u, h12]
        · rw [htk]; simp [ab_u]
        · rw [htk] at q9; exact absurd q9 (by decide)
  have lp0 : ∀ (u q : Nat) (J : Nat → Nat → Int), q + u = n → skT f n u q = s → NFx I J → J 84 12 = (q : Int) → aW G YX12_nextToken (ab_rm 1 0 0) Z 0 0 (104, J, F) 0 [some (ab_r 84)] [] := by
    intro u
    induction u with
    | zero =>
      intro q J hq hr hg h12
      have hn1 : J 84 10 = (n : Int) := (hg 84 10 (by omega)).trans hX.1
      have hqs : q = s := hr
      refine aw_aload_n dX12_nextToken_0 rfl (by decide) ?_
      refine aw_getiv (v := (q : Int)) dX12_nextToken_1 fX12_115 ⟨Nat.le_of_ble_eq_true rfl, Nat.le_of_ble_eq_true rfl⟩ rfl rfl h12 ?_
      refine aw_aload_n dX12_nextToken_4 rfl (by decide) ?_
      refine aw_getiv (v := (n : Int)) dX12_nextToken_5 fX12_110 ⟨Nat.le_of_ble_eq_true rfl, Nat.le_of_ble_eq_true rfl⟩ rfl rfl hn1 ?_
      refine aw_icmp_ge (tgt := 38) dX12_nextToken_8 rfl (by first | assumption | (unfold ab_In at *; omega)) (by first | assumption | (unfold ab_In at *; omega)) (fun c_8 => ?_) (fun c_8 => ?_)
      · exact s38 J hg (by rw [h12, hqs])
      · exfalso; omega
    | succ u ih =>
      intro q J hq hr hg h12
      have hn1 : J 84 10 = (n : Int) := (hg 84 10 (by omega)).trans hX.1
      have hfq := hX.2.2 q (by omega)
      have h93 : J 93 q = f q := (hg 93 q (by omega)).trans hfq.1
      refine aw_aload_n dX12_nextToken_0 rfl (by decide) ?_
      refine aw_getiv (v := (q : Int)) dX12_nextToken_1 fX12_115 ⟨Nat.le_of_ble_eq_true rfl, Nat.le_of_ble_eq_true rfl⟩ rfl rfl h12 ?_
      refine aw_aload_n dX12_nextToken_4 rfl (by decide) ?_
      refine aw_getiv (v := (n : Int)) dX12_nextToken_5 fX12_110 ⟨Nat.le_of_ble_eq_true rfl, Nat.le_of_ble_eq_true rfl⟩ rfl rfl hn1 ?_
      refine aw_icmp_ge (tgt := 38) dX12_nextToken_8 rfl (by first | assumption | (unfold ab_In at *; omega)) (by first | assumption | (unfold ab_In at *; omega)) (fun c_8 => ?_) (fun c_8 => ?_)
      · exfalso; omega
      · refine aw_aload_n dX12_nextToken_11 rfl (by decide) ?_
        refine aw_getrv (r := 93) dX12_nextToken_12 fX12_35 ⟨Nat.le_of_ble_eq_true rfl, Nat.le_of_ble_eq_true rfl⟩ rfl rfl (hF.at 84 11 93 rfl rfl rfl) ?_
        refine aw_aload_n dX12_nextToken_15 rfl (by decide) ?_
        refine aw_getiv (v := (q : Int)) dX12_nextToken_16 fX12_115 ⟨Nat.le_of_ble_eq_true rfl, Nat.le_of_ble_eq_true rfl⟩ rfl rfl h12 ?_
        refine aw_ialdq (q := q) (v := f q) dX12_nextToken_19 ⟨Nat.le_of_ble_eq_true rfl, Nat.le_of_ble_eq_true rfl⟩ rfl (by omega) (by omega) (by decide) rfl h93 ?_
        refine aw_bipush dX12_nextToken_20 rfl ?_
        refine aw_icmp_ne (tgt := 38) dX12_nextToken_22 rfl (by first | assumption | (unfold ab_In at *; omega)) (by first | assumption | (unfold ab_In at *; omega)) (fun c_22 => ?_) (fun c_22 => ?_)
        · have hqs : q = s := by rw [← hr, skT, if_neg (by omega)]
          exact s38 J hg (by rw [h12, hqs])
        · refine aw_aload_n dX12_nextToken_25 rfl (by decide) ?_
          refine aw_dup dX12_nextToken_26 rfl ?_
          refine aw_getiv (v := (q : Int)) dX12_nextToken_27 fX12_115 ⟨Nat.le_of_ble_eq_true rfl, Nat.le_of_ble_eq_true rfl⟩ rfl rfl h12 ?_
          refine aw_iconst dX12_nextToken_30 ?_
          refine aw_iadd dX12_nextToken_31 ?_
          refine aw_puti dX12_nextToken_32 fX12_115 ⟨Nat.le_of_ble_eq_true rfl, Nat.le_of_ble_eq_true rfl⟩ rfl rfl ?_
          refine aw_goto (tgt := 0) dX12_nextToken_35 rfl ?_
          exact ih (q + 1) (ab_u J 84 12 ((q : Int) + 1)) (by omega) (by rw [← hr, skT, if_pos ⟨by omega, by omega⟩]) (fun i b q9 => by rw [ab_u_o (by omega)]; exact hg i b q9) (by rw [ab_u_s]; rfl)
  exact lp0 (n - p) p I (by omega) hs (fun _ _ _ => rfl) he
set_option maxHeartbeats 4000000 in
set_option maxRecDepth 100000 in
theorem ct_X12_fails (G : ab_G) (I : Nat → Nat → Int) (F : Nat → Nat → Nat) : Ct G 0 0 0 YX12_fails [ab_r 84] (104, I, F) (fun r h => r = some (ab_i 0) ∧ h = (104, ab_u I 84 17 (I 84 13), F)) := by
  refine Ct.ofW kX12_fails (ls := [some (ab_r 84)]) (Nat.le_of_ble_eq_true rfl) rfl ?_
  refine aw_aload_n dX12_fails_0 rfl (by decide) ?_
  refine aw_aload_n dX12_fails_1 rfl (by decide) ?_
  refine aw_geti dX12_fails_2 fX12_118 ⟨Nat.le_of_ble_eq_true rfl, Nat.le_of_ble_eq_true rfl⟩ rfl rfl ?_
  refine aw_puti dX12_fails_5 fX12_143 ⟨Nat.le_of_ble_eq_true rfl, Nat.le_of_ble_eq_true rfl⟩ rfl rfl ?_
  refine aw_iconst dX12_fails_8 ?_
  refine aw_breturn dX12_fails_9 rfl (by omega) ?_
  exact ⟨rfl, rfl⟩
set_option maxHeartbeats 4000000 in
set_option maxRecDepth 100000 in
theorem ct_X12_isNumber (G : ab_G) (I : Nat → Nat → Int) (F : Nat → Nat → Nat) (hF : ab_FB F) (f : Nat → Int) (n : Nat) (hX : RXx f n I) (p : Nat) (hp : p ≤ n) (he : I 84 12 = (p : Int)) (at9 : Nat) (hat : at9 < 16) (most : Int) (hmost : ab_In most) : Ct G 2 0 0 YX12_isNumber [ab_r 84, ab_i (at9 : Int), ab_i most] (104, I, F) (fun r h => ∃ J : Nat → Nat → Int, h = (104, J, F) ∧ MFx I J ∧ ((nuT f n p most = -1 ∧ r = some (ab_i 0) ∧ J 84 17 = (tsT f n p : Int)) ∨ (¬ nuT f n p most = -1 ∧ r = some (ab_i 1) ∧ J 84 12 = (teT f n p : Int) ∧ J 94 at9 = nuT f n p most ∧ ∀ b, b ≠ at9 → J 94 b = I 94 b))) := by
  refine Ct.ofW kX12_isNumber (ls := [some (ab_r 84), some (ab_i (at9 : Int)), some (ab_i most)]) (Nat.le_of_ble_eq_true rfl) rfl ?_
  refine aw_aload_n dX12_isNumber_0 rfl (by decide) ?_
  refine aw_callV (as := []) (rest := []) dX12_isNumber_1 (ct_X12_nextToken G I F hF f n hX p hp he) ⟨Nat.le_of_ble_eq_true rfl, Nat.le_of_ble_eq_true rfl⟩ rfl kc12 rfl kX12_nextToken iX12_nextToken eX12_nextToken lX12_146 rfl (Nat.le_of_ble_eq_true rfl) (by decide) (by decide) (by decide) (by decide) ?_
  rintro _ _ ⟨rfl, J1, rfl, g1, a12, a13, a14, a16⟩
  have tb := tk_bd (f := f) (n := n) p
  have hl := lcmp_iff (x := tkT f n p) (y := -1) (by unfold ab_Il; omega) (by unfold ab_Il; omega)
  refine aw_aload_n dX12_isNumber_4 rfl (by decide) ?_
  refine aw_getlv (v := (tkT f n p)) dX12_isNumber_5 fX12_129 ⟨Nat.le_of_ble_eq_true rfl, Nat.le_of_ble_eq_true rfl⟩ rfl rfl a14 ?_
  refine aw_ldc2 (z := (-1)) dX12_isNumber_8 nX12_139 ?_
  refine aw_lcmp dX12_isNumber_11 ?_
  refine aw_if_ne (tgt := 23) dX12_isNumber_12 rfl (by first | assumption | (unfold ab_In at *; omega)) (fun c_12 => ?_) (fun c_12 => ?_)
  · refine aw_aload_n dX12_isNumber_23 rfl (by decide) ?_
    refine aw_callV (as := []) (rest := []) dX12_isNumber_24 (ct_X12_fails G J1 F) ⟨Nat.le_of_ble_eq_true rfl, Nat.le_of_ble_eq_true rfl⟩ rfl kc12 rfl kX12_fails iX12_fails eX12_fails lX12_149 rfl (Nat.le_of_ble_eq_true rfl) (by decide) (by decide) (by decide) (by decide) ?_
    rintro _ _ ⟨rfl, rfl⟩
    refine aw_breturn dX12_isNumber_27 rfl (by omega) ?_
    refine ⟨_, rfl, fun i b q1 q2 => by rw [ab_u_o (by omega)]; exact g1 i b (by omega), Or.inl ⟨?_, rfl, by rw [ab_u_s]; exact a13⟩⟩
    unfold nuT; rw [if_neg]
    rintro ⟨q1, q2⟩
    have q3 := a16 q1
    omega
  · refine aw_aload_n dX12_isNumber_15 rfl (by decide) ?_
    refine aw_geti dX12_isNumber_16 fX12_124 ⟨Nat.le_of_ble_eq_true rfl, Nat.le_of_ble_eq_true rfl⟩ rfl rfl ?_
    refine aw_iload_n dX12_isNumber_19 rfl ?_
    refine aw_icmp_le (tgt := 28) dX12_isNumber_20 rfl (by rw [a16 (by omega)]; have := nm_bd (f := f) (n := n) (p := p) (by omega); unfold ab_In; omega) hmost (fun c_20 => ?_) (fun c_20 => ?_)
    · refine aw_aload_n dX12_isNumber_28 rfl (by decide) ?_
      refine aw_getrv (r := 94) dX12_isNumber_29 fX12_38 ⟨Nat.le_of_ble_eq_true rfl, Nat.le_of_ble_eq_true rfl⟩ rfl rfl (hF.at 84 19 94 rfl rfl rfl) ?_
      refine aw_iload_n dX12_isNumber_32 rfl ?_
      refine aw_aload_n dX12_isNumber_33 rfl (by decide) ?_
      refine aw_geti dX12_isNumber_34 fX12_124 ⟨Nat.le_of_ble_eq_true rfl, Nat.le_of_ble_eq_true rfl⟩ rfl rfl ?_
      refine aw_iastv (q := at9) dX12_isNumber_37 ⟨Nat.le_of_ble_eq_true rfl, Nat.le_of_ble_eq_true rfl⟩ rfl (by omega) (by omega) (by decide) rfl ?_
      refine aw_iconst dX12_isNumber_38 ?_
      refine aw_breturn dX12_isNumber_39 rfl (by omega) ?_
      have q1 : tkT f n p = -1 := by omega
      have q3 := a16 q1
      have hnb := nm_bd q1
      have hnu : nuT f n p most = nmT f n p := by unfold nuT; rw [if_pos ⟨q1, by omega⟩]
      exact ⟨_, rfl, fun i b q1 q2 => by rw [ab_u_i q2]; exact g1 i b (by omega), Or.inr ⟨by rw [hnu]; omega, rfl, by rw [ab_u_i (by decide)]; exact a12, by rw [ab_u_s, q3, hnu], fun b hb => by rw [ab_u_j hb]; exact g1 94 b (by omega)⟩⟩
    · refine aw_aload_n dX12_isNumber_23 rfl (by decide) ?_
      refine aw_callV (as := []) (rest := []) dX12_isNumber_24 (ct_X12_fails G J1 F) ⟨Nat.le_of_ble_eq_true rfl, Nat.le_of_ble_eq_true rfl⟩ rfl kc12 rfl kX12_fails iX12_fails eX12_fails lX12_149 rfl (Nat.le_of_ble_eq_true rfl) (by decide) (by decide) (by decide) (by decide) ?_
      rintro _ _ ⟨rfl, rfl⟩
      refine aw_breturn dX12_isNumber_27 rfl (by omega) ?_
      refine ⟨_, rfl, fun i b q1 q2 => by rw [ab_u_o (by omega)]; exact g1 i b (by omega), Or.inl ⟨?_, rfl, by rw [ab_u_s]; exact a13⟩⟩
      unfold nuT; rw [if_neg]
      rintro ⟨q1, q2⟩
      have q3 := a16 q1
      omega
set_option maxHeartbeats 4000000 in
set_option maxRecDepth 100000 in
theorem ct_X12_isOf (G : ab_G) (I : Nat → Nat → Int) (F : Nat → Nat → Nat) (hF : ab_FB F) (f : Nat → Int) (n : Nat) (hX : RXx f n I) (p : Nat) (hp : p ≤ n) (he : I 84 12 = (p : Int)) (at9 : Nat) (hat : at9 < 16) (x y z : Int) (hx : ab_Il x) (hy : ab_Il y) (hz : ab_Il z) : Ct G 2 0 0 YX12_isOf [ab_r 84, ab_i (at9 : Int), ab_l x, ab_l y, ab_l z] (104, I, F) (fun r h => ∃ J : Nat → Nat → Int, h = (104, J, F) ∧ MFx I J ∧ ((chT f n p x y z = -1 ∧ r = some (ab_i 0) ∧ J 84 17 = (tsT f n p : Int)) ∨ (¬ chT f n p x y z = -1 ∧ r = some (ab_i 1) ∧ J 84 12 = (teT f n p : Int) ∧ J 94 at9 = chT f n p x y z ∧ ∀ b, b ≠ at9 → J 94 b = I 94 b))) := by
  refine Ct.ofW kX12_isOf (ls := [some (ab_r 84), some (ab_i (at9 : Int)), some (ab_l x), none, some (ab_l y), none, some (ab_l z), none]) (Nat.le_of_ble_eq_true rfl) rfl ?_
  refine aw_aload_n dX12_isOf_0 rfl (by decide) ?_
  refine aw_callV (as := []) (rest := []) dX12_isOf_1 (ct_X12_nextToken G I F hF f n hX p hp he) ⟨Nat.le_of_ble_eq_true rfl, Nat.le_of_ble_eq_true rfl⟩ rfl kc12 rfl kX12_nextToken iX12_nextToken eX12_nextToken lX12_146 rfl (Nat.le_of_ble_eq_true rfl) (by decide) (by decide) (by decide) (by decide) ?_
  rintro _ _ ⟨rfl, J1, rfl, g1, a12, a13, a14, a16⟩
  have tb := tk_bd (f := f) (n := n) p
  have hlx := lcmp_iff (x := tkT f n p) (y := x) (by unfold ab_Il; omega) hx
  have hly := lcmp_iff (x := tkT f n p) (y := y) (by unfold ab_Il; omega) hy
  have hlz := lcmp_iff (x := tkT f n p) (y := z) (by unfold ab_Il; omega) hz
  refine aw_aload_n dX12_isOf_4 rfl (by decide) ?_
  refine aw_getrv (r := 94) dX12_isOf_5 fX12_38 ⟨Nat.le_of_ble_eq_true rfl, Nat.le_of_ble_eq_true rfl⟩ rfl rfl (hF.at 84 19 94 rfl rfl rfl) ?_
  refine aw_iload_n dX12_isOf_8 rfl ?_
  refine aw_aload_n dX12_isOf_9 rfl (by decide) ?_
  refine aw_getlv (v := (tkT f n p)) dX12_isOf_10 fX12_129 ⟨Nat.le_of_ble_eq_true rfl, Nat.le_of_ble_eq_true rfl⟩ rfl rfl a14 ?_
  refine aw_lload_n dX12_isOf_13 rfl ?_
  refine aw_lcmp dX12_isOf_14 ?_
  refine aw_if_ne (tgt := 22) dX12_isOf_15 rfl (by first | assumption | (unfold ab_In at *; omega)) (fun c_15 => ?_) (fun c_15 => ?_)
  · refine aw_aload_n dX12_isOf_22 rfl (by decide) ?_
    refine aw_getlv (v := (tkT f n p)) dX12_isOf_23 fX12_129 ⟨Nat.le_of_ble_eq_true rfl, Nat.le_of_ble_eq_true rfl⟩ rfl rfl a14 ?_
    refine aw_lload dX12_isOf_26 rfl ?_
    refine aw_lcmp dX12_isOf_28 ?_
    refine aw_if_ne (tgt := 36) dX12_isOf_29 rfl (by first | assumption | (unfold ab_In at *; omega)) (fun c_29 => ?_) (fun c_29 => ?_)
    · refine aw_aload_n dX12_isOf_36 rfl (by decide) ?_
      refine aw_getlv (v := (tkT f n p)) dX12_isOf_37 fX12_129 ⟨Nat.le_of_ble_eq_true rfl, Nat.le_of_ble_eq_true rfl⟩ rfl rfl a14 ?_
      refine aw_lload dX12_isOf_40 rfl ?_
      refine aw_lcmp dX12_isOf_42 ?_
      refine aw_if_ne (tgt := 50) dX12_isOf_43 rfl (by first | assumption | (unfold ab_In at *; omega)) (fun c_43 => ?_) (fun c_43 => ?_)
      · refine aw_iconst dX12_isOf_50 ?_
        refine aw_iastv (q := at9) dX12_isOf_51 ⟨Nat.le_of_ble_eq_true rfl, Nat.le_of_ble_eq_true rfl⟩ rfl (by omega) (by omega) (by decide) rfl ?_
        refine aw_aload_n dX12_isOf_52 rfl (by decide) ?_
        refine aw_getrv (r := 94) dX12_isOf_53 fX12_38 ⟨Nat.le_of_ble_eq_true rfl, Nat.le_of_ble_eq_true rfl⟩ rfl rfl (hF.at 84 19 94 rfl rfl rfl) ?_
        refine aw_iload_n dX12_isOf_56 rfl ?_
        refine aw_ialdq (q := at9) (v := (-1)) dX12_isOf_57 ⟨Nat.le_of_ble_eq_true rfl, Nat.le_of_ble_eq_true rfl⟩ rfl (by omega) (by omega) (by decide) rfl ab_u_s ?_
        refine aw_iconst dX12_isOf_58 ?_
        refine aw_icmp_ne (tgt := 69) dX12_isOf_59 rfl ⟨by decide, by decide⟩ ⟨by decide, by decide⟩ (fun c9 => absurd rfl c9) (fun _ => ?_)
        refine aw_aload_n dX12_isOf_62 rfl (by decide) ?_
        refine aw_callV (as := []) (rest := []) dX12_isOf_63 (ct_X12_fails G (ab_u J1 94 at9 (-1)) F) ⟨Nat.le_of_ble_eq_true rfl, Nat.le_of_ble_eq_true rfl⟩ rfl kc12 rfl kX12_fails iX12_fails eX12_fails lX12_149 rfl (Nat.le_of_ble_eq_true rfl) (by decide) (by decide) (by decide) (by decide) ?_
        rintro _ _ ⟨rfl, rfl⟩
        refine aw_if_eq (tgt := 73) dX12_isOf_66 rfl ⟨by decide, by decide⟩ (fun _ => ?_) (fun c9 => absurd (by decide) c9)
        refine aw_iconst dX12_isOf_73 ?_
        refine aw_breturn dX12_isOf_74 rfl (by omega) ?_
        have hv : chT f n p x y z = -1 := by unfold chT; rw [if_neg (by omega), if_neg (by omega), if_neg (by omega)]
        exact ⟨_, rfl, fun i b q1 q2 => by rw [ab_u_o (by omega), ab_u_i q2]; exact g1 i b (by omega), Or.inl ⟨hv, rfl, by rw [ab_u_s, ab_u_i (by decide)]; exact a13⟩⟩
      · refine aw_iconst dX12_isOf_46 ?_
        refine aw_goto (tgt := 51) dX12_isOf_47 rfl ?_
        refine aw_iastv (q := at9) dX12_isOf_51 ⟨Nat.le_of_ble_eq_true rfl, Nat.le_of_ble_eq_true rfl⟩ rfl (by omega) (by omega) (by decide) rfl ?_
        refine aw_aload_n dX12_isOf_52 rfl (by decide) ?_
        refine aw_getrv (r := 94) dX12_isOf_53 fX12_38 ⟨Nat.le_of_ble_eq_true rfl, Nat.le_of_ble_eq_true rfl⟩ rfl rfl (hF.at 84 19 94 rfl rfl rfl) ?_
        refine aw_iload_n dX12_isOf_56 rfl ?_
        refine aw_ialdq (q := at9) (v := 2) dX12_isOf_57 ⟨Nat.le_of_ble_eq_true rfl, Nat.le_of_ble_eq_true rfl⟩ rfl (by omega) (by omega) (by decide) rfl ab_u_s ?_
        refine aw_iconst dX12_isOf_58 ?_
        refine aw_icmp_ne (tgt := 69) dX12_isOf_59 rfl ⟨by decide, by decide⟩ ⟨by decide, by decide⟩ (fun _ => ?_) (fun c9 => absurd c9 (by decide))
        refine aw_iconst dX12_isOf_69 ?_
        refine aw_goto (tgt := 74) dX12_isOf_70 rfl ?_
        refine aw_breturn dX12_isOf_74 rfl (by omega) ?_
        have hv : chT f n p x y z = 2 := by unfold chT; rw [if_neg (by omega), if_neg (by omega), if_pos (by omega)]
        exact ⟨_, rfl, fun i b q1 q2 => by rw [ab_u_i q2]; exact g1 i b (by omega), Or.inr ⟨by rw [hv]; decide, rfl, by rw [ab_u_i (by decide)]; exact a12, by rw [ab_u_s, hv], fun b hb => by rw [ab_u_j hb]; exact g1 94 b (by omega)⟩⟩
    · refine aw_iconst dX12_isOf_32 ?_
      refine aw_goto (tgt := 51) dX12_isOf_33 rfl ?_
      refine aw_iastv (q := at9) dX12_isOf_51 ⟨Nat.le_of_ble_eq_true rfl, Nat.le_of_ble_eq_true rfl⟩ rfl (by omega) (by omega) (by decide) rfl ?_
      refine aw_aload_n dX12_isOf_52 rfl (by decide) ?_
      refine aw_getrv (r := 94) dX12_isOf_53 fX12_38 ⟨Nat.le_of_ble_eq_true rfl, Nat.le_of_ble_eq_true rfl⟩ rfl rfl (hF.at 84 19 94 rfl rfl rfl) ?_
      refine aw_iload_n dX12_isOf_56 rfl ?_
      refine aw_ialdq (q := at9) (v := 1) dX12_isOf_57 ⟨Nat.le_of_ble_eq_true rfl, Nat.le_of_ble_eq_true rfl⟩ rfl (by omega) (by omega) (by decide) rfl ab_u_s ?_
      refine aw_iconst dX12_isOf_58 ?_
      refine aw_icmp_ne (tgt := 69) dX12_isOf_59 rfl ⟨by decide, by decide⟩ ⟨by decide, by decide⟩ (fun _ => ?_) (fun c9 => absurd c9 (by decide))
      refine aw_iconst dX12_isOf_69 ?_
      refine aw_goto (tgt := 74) dX12_isOf_70 rfl ?_
      refine aw_breturn dX12_isOf_74 rfl (by omega) ?_
      have hv : chT f n p x y z = 1 := by unfold chT; rw [if_neg (by omega), if_pos (by omega)]
      exact ⟨_, rfl, fun i b q1 q2 => by rw [ab_u_i q2]; exact g1 i b (by omega), Or.inr ⟨by rw [hv]; decide, rfl, by rw [ab_u_i (by decide)]; exact a12, by rw [ab_u_s, hv], fun b hb => by rw [ab_u_j hb]; exact g1 94 b (by omega)⟩⟩
  · refine aw_iconst dX12_isOf_18 ?_
    refine aw_goto (tgt := 51) dX12_isOf_19 rfl ?_
    refine aw_iastv (q := at9) dX12_isOf_51 ⟨Nat.le_of_ble_eq_true rfl, Nat.le_of_ble_eq_true rfl⟩ rfl (by omega) (by omega) (by decide) rfl ?_
    refine aw_aload_n dX12_isOf_52 rfl (by decide) ?_
    refine aw_getrv (r := 94) dX12_isOf_53 fX12_38 ⟨Nat.le_of_ble_eq_true rfl, Nat.le_of_ble_eq_true rfl⟩ rfl rfl (hF.at 84 19 94 rfl rfl rfl) ?_
    refine aw_iload_n dX12_isOf_56 rfl ?_
    refine aw_ialdq (q := at9) (v := 0) dX12_isOf_57 ⟨Nat.le_of_ble_eq_true rfl, Nat.le_of_ble_eq_true rfl⟩ rfl (by omega) (by omega) (by decide) rfl ab_u_s ?_
    refine aw_iconst dX12_isOf_58 ?_
    refine aw_icmp_ne (tgt := 69) dX12_isOf_59 rfl ⟨by decide, by decide⟩ ⟨by decide, by decide⟩ (fun _ => ?_) (fun c9 => absurd c9 (by decide))
    refine aw_iconst dX12_isOf_69 ?_
    refine aw_goto (tgt := 74) dX12_isOf_70 rfl ?_
    refine aw_breturn dX12_isOf_74 rfl (by omega) ?_
    have hv : chT f n p x y z = 0 := by unfold chT; rw [if_pos (by omega)]
    exact ⟨_, rfl, fun i b q1 q2 => by rw [ab_u_i q2]; exact g1 i b (by omega), Or.inr ⟨by rw [hv]; decide, rfl, by rw [ab_u_i (by decide)]; exact a12, by rw [ab_u_s, hv], fun b hb => by rw [ab_u_j hb]; exact g1 94 b (by omega)⟩⟩
