theorem ring_one {f : Nat → Nat} {h k ring : Nat} (hb : ∀ o, ring.testBit o = true ↔ vis f h (k + 1) o = true) (hn : ∀ i, 0 < i → i ≤ k → itp f i h ≠ h) : (ring = 2 ^ h ↔ k = 0) := by
  constructor
  · intro e
    rcases Nat.eq_zero_or_pos k with q | q
    · exact q
    · have h1 := (hb (itp f 1 h)).mpr (vis_true.mpr ⟨1, by omega, rfl⟩)
      rw [e, Nat.testBit_two_pow] at h1
      exact absurd (of_decide_eq_true h1).symm (hn 1 (by omega) (by omega))
  · intro e
    subst e
    apply Nat.eq_of_testBit_eq
    intro o
    rw [Nat.testBit_two_pow]
    have h1 := hb o
    rw [vis_true] at h1
    by_cases q : h = o
    · rw [h1.mpr ⟨0, by omega, q⟩]; simp [q]
    · cases q2 : ring.testBit o with
      | false => simp [q]
      | true =>
        obtain ⟨i, hi, he⟩ := h1.mp q2
        rw [show i = 0 by omega] at he
        exact absurd he q
set_option maxHeartbeats 4000000 in
set_option maxRecDepth 100000 in
theorem ct_X12_worthTo (G : ab_G) (I : Nat → Nat → Int) (F : Nat → Nat → Nat) (hF : ab_FB F) (h q s k : Nat) (hh : h < 8) (hq : q < 8) (h100 : I 100 h = (s : Int)) (h101 : I 101 q = (k : Int)) (hs : s < 4) (hk : k < 4) : Ct G 0 0 0 YX12_worthTo [ab_r 84, ab_i (h : Int), ab_i (q : Int)] (104, I, F) (fun r h => r = some (ab_i (I 85 (4 * s + k))) ∧ h = (104, I, F)) := by
  refine Ct.ofW kX12_worthTo (ls := [some (ab_r 84), some (ab_i (h : Int)), some (ab_i (q : Int))]) (Nat.le_of_ble_eq_true rfl) rfl ?_
  refine aw_aload_n dX12_worthTo_0 rfl (by decide) ?_
  refine aw_getrv (r := 85) dX12_worthTo_1 fX12_7 ⟨Nat.le_of_ble_eq_true rfl, Nat.le_of_ble_eq_true rfl⟩ rfl rfl (hF.at 84 0 85 rfl rfl rfl) ?_
  refine aw_iconst dX12_worthTo_4 ?_
  refine aw_aload_n dX12_worthTo_5 rfl (by decide) ?_
  refine aw_getrv (r := 100) dX12_worthTo_6 fX12_56 ⟨Nat.le_of_ble_eq_true rfl, Nat.le_of_ble_eq_true rfl⟩ rfl rfl (hF.at 84 26 100 rfl rfl rfl) ?_
  refine aw_iload_n dX12_worthTo_9 rfl ?_
  refine aw_ialdq (q := h) (v := (s : Int)) dX12_worthTo_10 ⟨Nat.le_of_ble_eq_true rfl, Nat.le_of_ble_eq_true rfl⟩ rfl (by omega) (by omega) (by decide) rfl h100 ?_
  refine aw_imul dX12_worthTo_11 ?_
  refine aw_aload_n dX12_worthTo_12 rfl (by decide) ?_
  refine aw_getrv (r := 101) dX12_worthTo_13 fX12_59 ⟨Nat.le_of_ble_eq_true rfl, Nat.le_of_ble_eq_true rfl⟩ rfl rfl (hF.at 84 27 101 rfl rfl rfl) ?_
  refine aw_iload_n dX12_worthTo_16 rfl ?_
  refine aw_ialdq (q := q) (v := (k : Int)) dX12_worthTo_17 ⟨Nat.le_of_ble_eq_true rfl, Nat.le_of_ble_eq_true rfl⟩ rfl (by omega) (by omega) (by decide) rfl h101 ?_
  refine aw_iadd dX12_worthTo_18 ?_
  refine aw_ialdq (q := (4 * s + k)) (v := I 85 (4 * s + k)) dX12_worthTo_19 ⟨Nat.le_of_ble_eq_true rfl, Nat.le_of_ble_eq_true rfl⟩ rfl (by omega) (by omega) (by decide) (by omega) rfl ?_
  refine aw_ireturn dX12_worthTo_20 rfl ?_
  exact ⟨rfl, rfl⟩
set_option maxHeartbeats 4000000 in
set_option maxRecDepth 100000 in
theorem ct_X12_swapAll (G : ab_G) (I0 : Nat → Nat → Int) (F : Nat → Nat → Nat) (hF : ab_FB F) (N : Nat) (hN : I0 84 25 = (N : Int)) (hN8 : N ≤ 8) (hh : ∀ j, j < 8 → (0 ≤ I0 100 j ∧ I0 100 j ≤ 3) ∧ (0 ≤ I0 101 j ∧ I0 101 j ≤ 3)) (hw : ∀ s k, s < 4 → k < 4 → 0 ≤ I0 85 (4 * s + k) ∧ I0 85 (4 * s + k) ≤ 99) : Ct G 1 0 0 YX12_swapAll [ab_r 84] (104, I0, F) (fun r h9 => r = none ∧ ∃ J : Nat → Nat → Int, h9 = (104, J, F) ∧ SFM I0 J ∧ SWP (whM I0) N (2 ^ N - 1) (I0 103) (J 103) 0 (J 84 30)) := by
  have h256 := (bit_all ⟨N, by omega⟩)
  simp only [] at h256
  refine Ct.ofW kX12_swapAll (ls := [some (ab_r 84), none, none, none, none, none, none]) (Nat.le_of_ble_eq_true rfl) rfl ?_
  generalize hZ : ab_Z G (fun r h9 => r = none ∧ ∃ J : Nat → Nat → Int, h9 = (104, J, F) ∧ SFM I0 J ∧ SWP (whM I0) N (2 ^ N - 1) (I0 103) (J 103) 0 (J 84 30)) 0 0 = Z
  have loop : ∀ (u m : Nat) (J : Nat → Nat → Int), m ≤ u → m < 2 ^ N → SFM I0 J → (∀ J2 : Nat → Nat → Int, SFM I0 J2 → SWP (whM I0) N m (J 103) (J2 103) (J 84 30) (J2 84 30) → SWP (whM I0) N (2 ^ N - 1) (I0 103) (J2 103) 0 (J2 84 30)) → aW G YX12_swapAll (ab_rm 1 0 0) Z 0 0 (104, J, F) 14 [some (ab_r 84), some (ab_i (m : Int)), none, none, none, none, none] [] := by
    intro u
    induction u with
    | zero =>
      intro m J hu hm hsf hK
      have hm0 : m = 0 := by omega
      subst hm0
      refine aw_iload_n dX12_swapAll_14 rfl ?_
      refine aw_if_eq (tgt := 314) dX12_swapAll_15 rfl (by first | assumption | (unfold ab_In at *; omega)) (fun c_15 => ?_) (fun c_15 => ?_)
      · rw [← hZ]
        refine aw_return dX12_swapAll_314 rfl ?_
        exact ⟨rfl, J, rfl, hsf, hK J hsf SWP.zero⟩
      · exfalso; omega
    | succ u ihu =>
      intro m J hu hm hsf hK
      by_cases hm0 : m = 0
      · subst hm0
        refine aw_iload_n dX12_swapAll_14 rfl ?_
        refine aw_if_eq (tgt := 314) dX12_swapAll_15 rfl (by first | assumption | (unfold ab_In at *; omega)) (fun c_15 => ?_) (fun c_15 => ?_)
        · rw [← hZ]
          refine aw_return dX12_swapAll_314 rfl ?_
          exact ⟨rfl, J, rfl, hsf, hK J hsf SWP.zero⟩
        · exfalso; omega
      have hm8 : m < 256 := by omega
      obtain ⟨_, hz8, hzb⟩ := tz_all ⟨m, hm8⟩ hm0
      simp only [] at hz8 hzb
      have hzN := tb_lt hm hzb
      have p3 : ∀ (g r1 : Nat), g < 2 ^ N → GIv (whM I0) N (tbS m) N (tbS g) r1 → ∀ (e h : Nat) (J1 : Nat → Nat → Int), h + e = N → (∀ h9, h9 < N → tbS m h9 = true → J1 102 h9 = ((spt (whM I0) N (tbS m)) h9 : Int)) → J1 84 30 = J 84 30 + (r1 : Int) → SFM I0 J1 → (∀ q, q < h → J1 103 q = if g.testBit q = true then ((spt (whM I0) N (tbS m)) q : Int) else J 103 q) → (∀ q, h ≤ q → J1 103 q = J 103 q) → aW G YX12_swapAll (ab_rm 1 0 0) Z 0 0 (104, J1, F) 261 [some (ab_r 84), some (ab_i (m : Int)), some (ab_i (g : Int)), some (ab_i (h : Int)), none, none, none] [] := by
        intro g r1 hg hG e
        have hg8 : g < 256 := by omega
        induction e with
        | zero =>
          intro h J1 he hPT hq hs1 h1 h2
          have hhN : h = N := by omega
          subst hhN
          have e84 : J1 84 25 = (h : Int) := (hs1 84 25 (by decide) (by decide) (by decide)).trans hN
          have hdn := dif_nat hm8 hg8
          have hdb := difb_bit hm8 hg8
          have hdl : difb m g ≤ m := difb_le
          obtain ⟨y, hy1, hy2⟩ := hG.some hzN hzb
          have hdne : difb m g ≠ m := fun q => by
            have q1 := hdb y
            rw [q] at q1
            unfold tbS at hy1 hy2
            rw [hy1, hy2] at q1; cases q1
          have htb : tbS (difb m g) = sdf (tbS m) (tbS g) := funext fun q => by unfold sdf tbS; exact hdb q
          obtain ⟨m2, hm2⟩ : ∃ m2, difb m g = m2 := ⟨_, rfl⟩
          rw [hm2] at hdn hdl hdne htb
          refine aw_iload_n dX12_swapAll_261 rfl ?_
          refine aw_aload_n dX12_swapAll_262 rfl (by decide) ?_
          refine aw_getiv (v := (h : Int)) dX12_swapAll_263 fX12_238 ⟨Nat.le_of_ble_eq_true rfl, Nat.le_of_ble_eq_true rfl⟩ rfl rfl e84 ?_
          refine aw_icmp_ge (tgt := 305) dX12_swapAll_266 rfl (by first | assumption | (unfold ab_In at *; omega)) (by first | assumption | (unfold ab_In at *; omega)) (fun c_266 => ?_) (fun c_266 => ?_)
          · refine aw_iload_n dX12_swapAll_305 rfl ?_
            refine aw_iload_n dX12_swapAll_306 rfl ?_
            refine aw_iconst dX12_swapAll_307 ?_
            refine aw_ixor dX12_swapAll_308 ?_
            refine aw_iand dX12_swapAll_309 ?_
            refine aw_to (z := (m2 : Int)) hdn ?_
            refine aw_istore_n (ls' := [some (ab_r 84), some (ab_i (m2 : Int)), some (ab_i (g : Int)), some (ab_i (h : Int)), none, none, none]) dX12_swapAll_310 (by decide) rfl ?_
            refine aw_goto (tgt := 14) dX12_swapAll_311 rfl ?_
            refine aw_le (ab_le_c (ab_le_c (ab_le_n (ab_le_n (ab_le_c (ab_le_c (ab_le_c ab_le_nil))))))) (ihu m2 J1 (by omega) (by omega) hs1 (fun J2 q1 q2 => hK J2 q1 (SWP.all hG htb (fun q hq2 => ?_) (fun q hq2 => ?_) hq q2)))
            · rw [h1 q (tb_lt hg hq2), if_pos (show g.testBit q = true from hq2)]
            · by_cases q3 : q < h
              · rw [h1 q q3, if_neg (by unfold tbS at hq2; rw [hq2]; decide)]
              · exact h2 q (by omega)
          · exfalso; omega
        | succ e ihe =>
          intro h J1 he hPT hq hs1 h1 h2
          have e84 : J1 84 25 = (N : Int) := (hs1 84 25 (by decide) (by decide) (by decide)).trans hN
          have hh8 : h < 8 := by omega
          have hbm := (bit_m ⟨g, hg8⟩ ⟨h, hh8⟩).1
          simp only [] at hbm
          by_cases hb : g.testBit h = true
          · rw [if_pos hb] at hbm
            have hSh : tbS m h = true := by
              obtain ⟨C, c1, c2, _⟩ := hG.1 h hb
              exact c1.sub h c2
            have e102 := hPT h (by omega) hSh
            refine aw_iload_n dX12_swapAll_261 rfl ?_
            refine aw_aload_n dX12_swapAll_262 rfl (by decide) ?_
            refine aw_getiv (v := (N : Int)) dX12_swapAll_263 fX12_238 ⟨Nat.le_of_ble_eq_true rfl, Nat.le_of_ble_eq_true rfl⟩ rfl rfl e84 ?_
            refine aw_icmp_ge (tgt := 305) dX12_swapAll_266 rfl (by first | assumption | (unfold ab_In at *; omega)) (by first | assumption | (unfold ab_In at *; omega)) (fun c_266 => ?_) (fun c_266 => ?_)
            · exfalso; omega
            · refine aw_aload_n dX12_swapAll_269 rfl (by decide) ?_
              refine aw_getrv (r := 103) dX12_swapAll_270 fX12_65 ⟨Nat.le_of_ble_eq_true rfl, Nat.le_of_ble_eq_true rfl⟩ rfl rfl (hF.at 84 29 103 rfl rfl rfl) ?_
              refine aw_iload_n dX12_swapAll_273 rfl ?_
              refine aw_iload_n dX12_swapAll_274 rfl ?_
              refine aw_iload_n dX12_swapAll_275 rfl ?_
              refine aw_ishr dX12_swapAll_276 ?_
              refine aw_iconst dX12_swapAll_277 ?_
              refine aw_iand dX12_swapAll_278 ?_
              refine aw_to (z := 1) hbm ?_
              refine aw_iconst dX12_swapAll_279 ?_
              refine aw_icmp_ne (tgt := 292) dX12_swapAll_280 rfl ⟨by decide, by decide⟩ ⟨by decide, by decide⟩ (fun c9 => absurd rfl c9) (fun _ => ?_)
              refine aw_aload_n dX12_swapAll_283 rfl (by decide) ?_
              refine aw_getrv (r := 102) dX12_swapAll_284 fX12_62 ⟨Nat.le_of_ble_eq_true rfl, Nat.le_of_ble_eq_true rfl⟩ rfl rfl (hF.at 84 28 102 rfl rfl rfl) ?_
              refine aw_iload_n dX12_swapAll_287 rfl ?_
              refine aw_ialdq (q := h) (v := ((spt (whM I0) N (tbS m)) h : Int)) dX12_swapAll_288 ⟨Nat.le_of_ble_eq_true rfl, Nat.le_of_ble_eq_true rfl⟩ rfl (by omega) (by omega) (by decide) rfl e102 ?_
              refine aw_goto (tgt := 298) dX12_swapAll_289 rfl ?_
              refine aw_iastv (q := h) dX12_swapAll_298 ⟨Nat.le_of_ble_eq_true rfl, Nat.le_of_ble_eq_true rfl⟩ rfl (by omega) (by omega) (by decide) rfl ?_
              refine aw_iinc (ls' := [some (ab_r 84), some (ab_i (m : Int)), some (ab_i (g : Int)), some (ab_i ((h : Int) + 1)), none, none, none]) dX12_swapAll_299 (by decide) rfl rfl ?_
              refine aw_goto (tgt := 261) dX12_swapAll_302 rfl ?_
              refine ihe (h + 1) (ab_u J1 103 h ((spt (whM I0) N (tbS m)) h : Int)) (by omega) (fun h9 q1 q2 => by rw [ab_u_i (by decide)]; exact hPT h9 q1 q2) (by rw [ab_u_i (by decide)]; exact hq) (fun i b q1 q2 q3 => by rw [ab_u_i q2]; exact hs1 i b q1 q2 q3) (fun q q1 => ?_) (fun q q1 => ?_)
              · by_cases q2 : q = h
                · rw [q2, ab_u_s, if_pos hb]
                · rw [ab_u_j q2]; exact h1 q (by omega)
              · rw [ab_u_j (by omega)]; exact h2 q (by omega)
          · rw [if_neg hb] at hbm
            refine aw_iload_n dX12_swapAll_261 rfl ?_
            refine aw_aload_n dX12_swapAll_262 rfl (by decide) ?_
            refine aw_getiv (v := (N : Int)) dX12_swapAll_263 fX12_238 ⟨Nat.le_of_ble_eq_true rfl, Nat.le_of_ble_eq_true rfl⟩ rfl rfl e84 ?_
            refine aw_icmp_ge (tgt := 305) dX12_swapAll_266 rfl (by first | assumption | (unfold ab_In at *; omega)) (by first | assumption | (unfold ab_In at *; omega)) (fun c_266 => ?_) (fun c_266 => ?_)
            · exfalso; omega
            · refine aw_aload_n dX12_swapAll_269 rfl (by decide) ?_
              refine aw_getrv (r := 103) dX12_swapAll_270 fX12_65 ⟨Nat.le_of_ble_eq_true rfl, Nat.le_of_ble_eq_true rfl⟩ rfl rfl (hF.at 84 29 103 rfl rfl rfl) ?_
              refine aw_iload_n dX12_swapAll_273 rfl ?_
              refine aw_iload_n dX12_swapAll_274 rfl ?_
              refine aw_iload_n dX12_swapAll_275 rfl ?_
              refine aw_ishr dX12_swapAll_276 ?_
              refine aw_iconst dX12_swapAll_277 ?_
              refine aw_iand dX12_swapAll_278 ?_
              refine aw_to (z := 0) hbm ?_
              refine aw_iconst dX12_swapAll_279 ?_
              refine aw_icmp_ne (tgt := 292) dX12_swapAll_280 rfl ⟨by decide, by decide⟩ ⟨by decide, by decide⟩ (fun _ => ?_) (fun c9 => absurd c9 (by decide))
              refine aw_aload_n dX12_swapAll_292 rfl (by decide) ?_
              refine aw_getrv (r := 103) dX12_swapAll_293 fX12_65 ⟨Nat.le_of_ble_eq_true rfl, Nat.le_of_ble_eq_true rfl⟩ rfl rfl (hF.at 84 29 103 rfl rfl rfl) ?_
              refine aw_iload_n dX12_swapAll_296 rfl ?_
              refine aw_ialdq (q := h) (v := J1 103 h) dX12_swapAll_297 ⟨Nat.le_of_ble_eq_true rfl, Nat.le_of_ble_eq_true rfl⟩ rfl (by omega) (by omega) (by decide) rfl rfl ?_
              refine aw_iastv (q := h) dX12_swapAll_298 ⟨Nat.le_of_ble_eq_true rfl, Nat.le_of_ble_eq_true rfl⟩ rfl (by omega) (by omega) (by decide) rfl ?_
              refine aw_iinc (ls' := [some (ab_r 84), some (ab_i (m : Int)), some (ab_i (g : Int)), some (ab_i ((h : Int) + 1)), none, none, none]) dX12_swapAll_299 (by decide) rfl rfl ?_
              refine aw_goto (tgt := 261) dX12_swapAll_302 rfl ?_
              refine ihe (h + 1) (ab_u J1 103 h (J1 103 h)) (by omega) (fun h9 q1 q2 => by rw [ab_u_i (by decide)]; exact hPT h9 q1 q2) (by rw [ab_u_i (by decide)]; exact hq) (fun i b q1 q2 q3 => by rw [ab_u_i q2]; exact hs1 i b q1 q2 q3) (fun q q1 => ?_) (fun q q1 => ?_)
              · by_cases q2 : q = h
                · rw [q2, ab_u_s, if_neg hb, h2 h (by omega)]
                · rw [ab_u_j q2]; exact h1 q (by omega)
              · rw [ab_u_j (by omega)]; exact h2 q (by omega)
      have p2 : ∀ (e h g r1 : Nat) (J1 : Nat → Nat → Int), h + e = N → g < 2 ^ N → GIv (whM I0) N (tbS m) h (tbS g) r1 → (∀ h9, h9 < N → tbS m h9 = true → J1 102 h9 = ((spt (whM I0) N (tbS m)) h9 : Int)) → J1 84 30 = J 84 30 + (r1 : Int) → SFM I0 J1 → (∀ q, J1 103 q = J 103 q) → aW G YX12_swapAll (ab_rm 1 0 0) Z 0 0 (104, J1, F) 140 [some (ab_r 84), some (ab_i (m : Int)), some (ab_i (g : Int)), some (ab_i (h : Int)), none, none, none] [] := by
        intro e
        induction e with
        | zero =>
          intro h g r1 J1 he hg hG hPT hq hs1 h1
          have hhN : h = N := by omega
          subst hhN
          have e84 : J1 84 25 = (h : Int) := (hs1 84 25 (by decide) (by decide) (by decide)).trans hN
          refine aw_iload_n dX12_swapAll_140 rfl ?_
          refine aw_aload_n dX12_swapAll_141 rfl (by decide) ?_
          refine aw_getiv (v := (h : Int)) dX12_swapAll_142 fX12_238 ⟨Nat.le_of_ble_eq_true rfl, Nat.le_of_ble_eq_true rfl⟩ rfl rfl e84 ?_
          refine aw_icmp_ge (tgt := 259) dX12_swapAll_145 rfl (by first | assumption | (unfold ab_In at *; omega)) (by first | assumption | (unfold ab_In at *; omega)) (fun c_145 => ?_) (fun c_145 => ?_)
          · refine aw_iconst dX12_swapAll_259 ?_
            refine aw_istore_n (ls' := [some (ab_r 84), some (ab_i (m : Int)), some (ab_i (g : Int)), some (ab_i 0), none, none, none]) dX12_swapAll_260 (by decide) rfl ?_
            exact p3 g r1 hg hG h 0 J1 (by omega) hPT hq hs1 (fun q q1 => by omega) (fun q _ => h1 q)
          · exfalso; omega
        | succ e ihe =>
          intro h g r1 J1 he hg hG hPT hq hs1 h1
          have hg8 : g < 256 := by omega
          have hhN : h < N := by omega
          have e84 : J1 84 25 = (N : Int) := (hs1 84 25 (by decide) (by decide) (by decide)).trans hN
          have hh8 : h < 8 := by omega
          have hbm := (bit_m ⟨m, hm8⟩ ⟨h, hh8⟩).1
          have hbg := (bit_m ⟨g, hg8⟩ ⟨h, hh8⟩).1
          simp only [] at hbm hbg
          have nxt : ∀ (a b c : Option ab_V) , GIv (whM I0) N (tbS m) (h + 1) (tbS g) r1 → aW G YX12_swapAll (ab_rm 1 0 0) Z 0 0 (104, J1, F) 253 [some (ab_r 84), some (ab_i (m : Int)), some (ab_i (g : Int)), some (ab_i (h : Int)), a, b, c] [] := by
            intro a b c hG1
            refine aw_iinc (ls' := [some (ab_r 84), some (ab_i (m : Int)), some (ab_i (g : Int)), some (ab_i ((h : Int) + 1)), a, b, c]) dX12_swapAll_253 (by decide) rfl rfl ?_
            refine aw_goto (tgt := 140) dX12_swapAll_256 rfl ?_
            exact aw_le (ab_le_c (ab_le_c (ab_le_c (ab_le_c (ab_le_n (ab_le_n (ab_le_n ab_le_nil))))))) (ihe (h + 1) g r1 J1 (by omega) hg hG1 hPT hq hs1 h1)
          by_cases hb : m.testBit h = true
          · rw [if_pos hb] at hbm
            by_cases hb2 : g.testBit h = true
            · rw [if_pos hb2] at hbg
              refine aw_iload_n dX12_swapAll_140 rfl ?_
              refine aw_aload_n dX12_swapAll_141 rfl (by decide) ?_
              refine aw_getiv (v := (N : Int)) dX12_swapAll_142 fX12_238 ⟨Nat.le_of_ble_eq_true rfl, Nat.le_of_ble_eq_true rfl⟩ rfl rfl e84 ?_
              refine aw_icmp_ge (tgt := 259) dX12_swapAll_145 rfl (by first | assumption | (unfold ab_In at *; omega)) (by first | assumption | (unfold ab_In at *; omega)) (fun c_145 => ?_) (fun c_145 => ?_)
              · exfalso; omega
              · refine aw_iload_n dX12_swapAll_148 rfl ?_
                refine aw_iload_n dX12_swapAll_149 rfl ?_
                refine aw_ishr dX12_swapAll_150 ?_
                refine aw_iconst dX12_swapAll_151 ?_
                refine aw_iand dX12_swapAll_152 ?_
                refine aw_to (z := 1) hbm ?_
                refine aw_iconst dX12_swapAll_153 ?_
                refine aw_icmp_ne (tgt := 253) dX12_swapAll_154 rfl ⟨by decide, by decide⟩ ⟨by decide, by decide⟩ (fun c9 => absurd rfl c9) (fun _ => ?_)
                refine aw_iload_n dX12_swapAll_157 rfl ?_
                refine aw_iload_n dX12_swapAll_158 rfl ?_
                refine aw_ishr dX12_swapAll_159 ?_
                refine aw_iconst dX12_swapAll_160 ?_
                refine aw_iand dX12_swapAll_161 ?_
                refine aw_to (z := 1) hbg ?_
                refine aw_if_ne (tgt := 253) dX12_swapAll_162 rfl ⟨by decide, by decide⟩ (fun _ => ?_) (fun c9 => absurd c9 (by decide))
                exact nxt _ _ _ (hG.skip (Or.inr (Or.inl hb2)))
            · rw [if_neg hb2] at hbg
              have hbf : tbS g h = false := by unfold tbS; simpa using hb2
              have e102 := hPT h hhN hb
              have hsl := sl_all ⟨h, hh8⟩
              simp only [] at hsl
              have hsl1 := hsl.1
              have h2N : 2 ^ h < 2 ^ N := Nat.pow_lt_pow_right (by decide) hhN
              obtain ⟨p2, hp2⟩ : ∃ p2, 2 ^ h = p2 := ⟨_, rfl⟩
              rw [hp2] at hsl hsl1 h2N
              have s220 : ∀ (k ring : Nat), k ≤ N → itp (spt (whM I0) N (tbS m)) (k + 1) h = h → ring < 2 ^ N → (∀ q, ring.testBit q = true ↔ vis (spt (whM I0) N (tbS m)) h (k + 1) q = true) → (∀ i, 0 < i → i ≤ k → itp (spt (whM I0) N (tbS m)) i h ≠ h) → aW G YX12_swapAll (ab_rm 1 0 0) Z 0 0 (104, J1, F) 220 [some (ab_r 84), some (ab_i (m : Int)), some (ab_i (g : Int)), some (ab_i (h : Int)), some (ab_i (h : Int)), some (ab_i (ring : Int)), some (ab_i (k : Int))] [] := by
                intro k ring hkN hcy hrN hrb hri
                have hr8 : ring < 256 := by omega
                have hone := ring_one hrb hri
                rw [hp2] at hone
                have hgo := or_nat hg8 hr8
                obtain ⟨g2, hg2⟩ : ∃ g2, g ||| ring = g2 := ⟨_, rfl⟩
                rw [hg2] at hgo
                have hg2N : g2 < 2 ^ N := by rw [← hg2]; exact Nat.or_lt_two_pow hg hrN
                have hR : Ring (whM I0) N (tbS m) (vis (spt (whM I0) N (tbS m)) h (k + 1)) := vis_ring (by omega) hcy hb (itp_clo2 (by omega) (Nat.le_refl _) hcy)
                have hC : vis (spt (whM I0) N (tbS m)) h (k + 1) h = true := vis_true.mpr ⟨0, by omega, rfl⟩
                have htb : tbS g2 = fun q => tbS g q || vis (spt (whM I0) N (tbS m)) h (k + 1) q := tb_or hg2 hrb
                refine aw_iload dX12_swapAll_220 rfl ?_
                refine aw_iload_n dX12_swapAll_222 rfl ?_
                refine aw_icmp_ne (tgt := 253) dX12_swapAll_223 rfl (by first | assumption | (unfold ab_In at *; omega)) (by first | assumption | (unfold ab_In at *; omega)) (fun c_223 => ?_) (fun c_223 => ?_)
                · exfalso; omega
                · refine aw_iload_n dX12_swapAll_226 rfl ?_
                  refine aw_iload dX12_swapAll_227 rfl ?_
                  refine aw_ior dX12_swapAll_229 ?_
                  refine aw_to (z := (g2 : Int)) hgo ?_
                  refine aw_istore_n (ls' := [some (ab_r 84), some (ab_i (m : Int)), some (ab_i (g2 : Int)), some (ab_i (h : Int)), some (ab_i (h : Int)), some (ab_i (ring : Int)), some (ab_i (k : Int))]) dX12_swapAll_230 (by decide) rfl ?_
                  refine aw_aload_n dX12_swapAll_231 rfl (by decide) ?_
                  refine aw_dup dX12_swapAll_232 rfl ?_
                  refine aw_geti dX12_swapAll_233 fX12_241 ⟨Nat.le_of_ble_eq_true rfl, Nat.le_of_ble_eq_true rfl⟩ rfl rfl ?_
                  refine aw_iload dX12_swapAll_236 rfl ?_
                  refine aw_iconst dX12_swapAll_238 ?_
                  refine aw_iload_n dX12_swapAll_239 rfl ?_
                  refine aw_ishl dX12_swapAll_240 ?_
                  refine aw_to (z := (p2 : Int)) hsl1 ?_
                  refine aw_icmp_ne (tgt := 248) dX12_swapAll_241 rfl (by first | assumption | (unfold ab_In at *; omega)) (by first | assumption | (unfold ab_In at *; omega)) (fun c_241 => ?_) (fun c_241 => ?_)
                  · refine aw_iconst dX12_swapAll_248 ?_
                    refine aw_iadd dX12_swapAll_249 ?_
                    refine aw_puti dX12_swapAll_250 fX12_241 ⟨Nat.le_of_ble_eq_true rfl, Nat.le_of_ble_eq_true rfl⟩ rfl rfl ?_
                    refine aw_iinc (ls' := [some (ab_r 84), some (ab_i (m : Int)), some (ab_i (g2 : Int)), some (ab_i ((h : Int) + 1)), some (ab_i (h : Int)), some (ab_i (ring : Int)), some (ab_i (k : Int))]) dX12_swapAll_253 (by decide) rfl rfl ?_
                    refine aw_goto (tgt := 140) dX12_swapAll_256 rfl ?_
                    have hk0 : 0 < k := by
                      exact Nat.pos_of_ne_zero (fun q => c_241 (by rw [hone.mpr q]))
                    have hG2 := hG.ring (r' := r1 + 1) hbf hR hC (Or.inl ⟨vis_svr (by omega) (hri 1 (by omega) (by omega)), rfl⟩)
                    rw [← htb] at hG2
                    exact aw_le (ab_le_c (ab_le_c (ab_le_c (ab_le_c (ab_le_n (ab_le_n (ab_le_n ab_le_nil))))))) (ihe (h + 1) g2 (r1 + 1) (ab_u J1 84 30 ((J1 84 30) + 1)) (by omega) hg2N hG2 (fun h9 q1 q2 => by rw [ab_u_i (by decide)]; exact hPT h9 q1 q2) (by rw [ab_u_s, hq]; omega) (fun i b q1 q2 q3 => by rw [ab_u_o (by omega)]; exact hs1 i b q1 q2 q3) (fun q => by rw [ab_u_i (by decide)]; exact h1 q))
                  · refine aw_iconst dX12_swapAll_244 ?_
                    refine aw_goto (tgt := 249) dX12_swapAll_245 rfl ?_
                    refine aw_iadd dX12_swapAll_249 ?_
                    refine aw_puti dX12_swapAll_250 fX12_241 ⟨Nat.le_of_ble_eq_true rfl, Nat.le_of_ble_eq_true rfl⟩ rfl rfl ?_
                    refine aw_iinc (ls' := [some (ab_r 84), some (ab_i (m : Int)), some (ab_i (g2 : Int)), some (ab_i ((h : Int) + 1)), some (ab_i (h : Int)), some (ab_i (ring : Int)), some (ab_i (k : Int))]) dX12_swapAll_253 (by decide) rfl rfl ?_
                    refine aw_goto (tgt := 140) dX12_swapAll_256 rfl ?_
                    have hk0 : k = 0 := by
                      exact hone.mp (by omega)
                    have hG2 := hG.ring (r' := r1) hbf hR hC (Or.inr ⟨vis_one (by omega), rfl⟩)
                    rw [← htb] at hG2
                    exact aw_le (ab_le_c (ab_le_c (ab_le_c (ab_le_c (ab_le_n (ab_le_n (ab_le_n ab_le_nil))))))) (ihe (h + 1) g2 (r1) (ab_u J1 84 30 ((J1 84 30) + 0)) (by omega) hg2N hG2 (fun h9 q1 q2 => by rw [ab_u_i (by decide)]; exact hPT h9 q1 q2) (by rw [ab_u_s, hq]; omega) (fun i b q1 q2 q3 => by rw [ab_u_o (by omega)]; exact hs1 i b q1 q2 q3) (fun q => by rw [ab_u_i (by decide)]; exact h1 q))
              have rl : ∀ (d k at9 ring : Nat), k + d = N → at9 = itp (spt (whM I0) N (tbS m)) (k + 1) h → ring < 2 ^ N → (∀ q, ring.testBit q = true ↔ vis (spt (whM I0) N (tbS m)) h (k + 1) q = true) → (∀ i, 0 < i → i ≤ k → itp (spt (whM I0) N (tbS m)) i h ≠ h) → aW G YX12_swapAll (ab_rm 1 0 0) Z 0 0 (104, J1, F) 181 [some (ab_r 84), some (ab_i (m : Int)), some (ab_i (g : Int)), some (ab_i (h : Int)), some (ab_i (at9 : Int)), some (ab_i (ring : Int)), some (ab_i (k : Int))] [] := by
                intro d
                induction d with
                | zero =>
                  intro k at9 ring hk hat hrN hrb hri
                  have hkN : k = N := by omega
                  have hatN : at9 < N := by rw [hat]; exact itp_lt hhN _
                  by_cases hah : at9 = h
                  · subst hah
                    refine aw_iload dX12_swapAll_181 rfl ?_
                    refine aw_aload_n dX12_swapAll_183 rfl (by decide) ?_
                    refine aw_getiv (v := (N : Int)) dX12_swapAll_184 fX12_238 ⟨Nat.le_of_ble_eq_true rfl, Nat.le_of_ble_eq_true rfl⟩ rfl rfl e84 ?_
                    refine aw_icmp_ge (tgt := 220) dX12_swapAll_187 rfl (by first | assumption | (unfold ab_In at *; omega)) (by first | assumption | (unfold ab_In at *; omega)) (fun c_187 => ?_) (fun c_187 => ?_)
                    · exact s220 k ring (by omega) hat.symm hrN hrb hri
                    · exfalso; omega
                  · skip
                    refine aw_iload dX12_swapAll_181 rfl ?_
                    refine aw_aload_n dX12_swapAll_183 rfl (by decide) ?_
                    refine aw_getiv (v := (N : Int)) dX12_swapAll_184 fX12_238 ⟨Nat.le_of_ble_eq_true rfl, Nat.le_of_ble_eq_true rfl⟩ rfl rfl e84 ?_
                    refine aw_icmp_ge (tgt := 220) dX12_swapAll_187 rfl (by first | assumption | (unfold ab_In at *; omega)) (by first | assumption | (unfold ab_In at *; omega)) (fun c_187 => ?_) (fun c_187 => ?_)
                    · refine aw_iload dX12_swapAll_220 rfl ?_
                      refine aw_iload_n dX12_swapAll_222 rfl ?_
                      refine aw_icmp_ne (tgt := 253) dX12_swapAll_223 rfl (by first | assumption | (unfold ab_In at *; omega)) (by first | assumption | (unfold ab_In at *; omega)) (fun c_223 => ?_) (fun c_223 => ?_)
                      · exact nxt _ _ _ (hG.skip (Or.inr (Or.inr (fun n n0 n1 => hri n n0 (by omega)))))
                      · exfalso; omega
                    · exfalso; omega
                | succ d ihd =>
                  intro k at9 ring hk hat hrN hrb hri
                  have hatN : at9 < N := by rw [hat]; exact itp_lt hhN _
                  have hatS : tbS m at9 = true := by rw [hat]; exact itp_in hb _
                  by_cases hah : at9 = h
                  · subst hah
                    refine aw_iload dX12_swapAll_181 rfl ?_
                    refine aw_aload_n dX12_swapAll_183 rfl (by decide) ?_
                    refine aw_getiv (v := (N : Int)) dX12_swapAll_184 fX12_238 ⟨Nat.le_of_ble_eq_true rfl, Nat.le_of_ble_eq_true rfl⟩ rfl rfl e84 ?_
                    refine aw_icmp_ge (tgt := 220) dX12_swapAll_187 rfl (by first | assumption | (unfold ab_In at *; omega)) (by first | assumption | (unfold ab_In at *; omega)) (fun c_187 => ?_) (fun c_187 => ?_)
                    · exfalso; omega
                    · refine aw_iload dX12_swapAll_190 rfl ?_
                      refine aw_iload_n dX12_swapAll_192 rfl ?_
                      refine aw_icmp_eq (tgt := 220) dX12_swapAll_193 rfl (by first | assumption | (unfold ab_In at *; omega)) (by first | assumption | (unfold ab_In at *; omega)) (fun c_193 => ?_) (fun c_193 => ?_)
                      · exact s220 k ring (by omega) hat.symm hrN hrb hri
                      · exfalso; omega
                  · have hat8 : at9 < 8 := by omega
                    have e102a := hPT at9 hatN hatS
                    have hor := (bit_m ⟨ring, by omega⟩ ⟨at9, hat8⟩).2
                    simp only [] at hor
                    have hsla := sl_all ⟨at9, hat8⟩
                    simp only [] at hsla
                    have h2Na : 2 ^ at9 < 2 ^ N := Nat.pow_lt_pow_right (by decide) hatN
                    obtain ⟨ring2, hr2⟩ : ∃ ring2, ring ||| 2 ^ at9 = ring2 := ⟨_, rfl⟩
                    rw [hr2] at hor
                    refine aw_iload dX12_swapAll_181 rfl ?_
                    refine aw_aload_n dX12_swapAll_183 rfl (by decide) ?_
                    refine aw_getiv (v := (N : Int)) dX12_swapAll_184 fX12_238 ⟨Nat.le_of_ble_eq_true rfl, Nat.le_of_ble_eq_true rfl⟩ rfl rfl e84 ?_
                    refine aw_icmp_ge (tgt := 220) dX12_swapAll_187 rfl (by first | assumption | (unfold ab_In at *; omega)) (by first | assumption | (unfold ab_In at *; omega)) (fun c_187 => ?_) (fun c_187 => ?_)
                    · exfalso; omega
                    · refine aw_iload dX12_swapAll_190 rfl ?_
                      refine aw_iload_n dX12_swapAll_192 rfl ?_
                      refine aw_icmp_eq (tgt := 220) dX12_swapAll_193 rfl (by first | assumption | (unfold ab_In at *; omega)) (by first | assumption | (unfold ab_In at *; omega)) (fun c_193 => ?_) (fun c_193 => ?_)
                      · exfalso; omega
                      · refine aw_iload dX12_swapAll_196 rfl ?_
                        refine aw_iconst dX12_swapAll_198 ?_
                        refine aw_iload dX12_swapAll_199 rfl ?_
                        refine aw_ishl dX12_swapAll_201 ?_
                        refine aw_ior dX12_swapAll_202 ?_
                        refine aw_to (z := (ring2 : Int)) hor ?_
                        refine aw_istore (ls' := [some (ab_r 84), some (ab_i (m : Int)), some (ab_i (g : Int)), some (ab_i (h : Int)), some (ab_i (at9 : Int)), some (ab_i (ring2 : Int)), some (ab_i (k : Int))]) dX12_swapAll_203 (by decide) rfl ?_
                        refine aw_aload_n dX12_swapAll_205 rfl (by decide) ?_
                        refine aw_getrv (r := 102) dX12_swapAll_206 fX12_62 ⟨Nat.le_of_ble_eq_true rfl, Nat.le_of_ble_eq_true rfl⟩ rfl rfl (hF.at 84 28 102 rfl rfl rfl) ?_
                        refine aw_iload dX12_swapAll_209 rfl ?_
                        refine aw_ialdq (q := at9) (v := ((spt (whM I0) N (tbS m)) at9 : Int)) dX12_swapAll_211 ⟨Nat.le_of_ble_eq_true rfl, Nat.le_of_ble_eq_true rfl⟩ rfl (by omega) (by omega) (by decide) rfl e102a ?_
                        refine aw_istore (ls' := [some (ab_r 84), some (ab_i (m : Int)), some (ab_i (g : Int)), some (ab_i (h : Int)), some (ab_i ((spt (whM I0) N (tbS m)) at9 : Int)), some (ab_i (ring2 : Int)), some (ab_i (k : Int))]) dX12_swapAll_212 (by decide) rfl ?_
                        refine aw_iinc (ls' := [some (ab_r 84), some (ab_i (m : Int)), some (ab_i (g : Int)), some (ab_i (h : Int)), some (ab_i ((spt (whM I0) N (tbS m)) at9 : Int)), some (ab_i (ring2 : Int)), some (ab_i ((k : Int) + 1))]) dX12_swapAll_214 (by decide) rfl rfl ?_
                        refine aw_goto (tgt := 181) dX12_swapAll_217 rfl ?_
                        refine ihd (k + 1) ((spt (whM I0) N (tbS m)) at9) ring2 (by omega) (by rw [itp, ← hat]) (by rw [← hr2]; exact Nat.or_lt_two_pow hrN h2Na) (fun q => ?_) (fun i i0 i1 => ?_)
                        · rw [← hr2, Nat.testBit_or, Nat.testBit_two_pow, Bool.or_eq_true, hrb q, vis_true, vis_true, decide_eq_true_eq]
                          constructor
                          · rintro (⟨i, hi, he⟩ | he)
                            · exact ⟨i, by omega, he⟩
                            · exact ⟨k + 1, by omega, by rw [← hat]; exact he⟩
                          · rintro ⟨i, hi, he⟩
                            by_cases q2 : i = k + 1
                            · right; rw [hat, ← q2]; exact he
                            · left; exact ⟨i, by omega, he⟩
                        · by_cases q2 : i = k + 1
                          · rw [q2, ← hat]; exact hah
                          · exact hri i i0 (by omega)
              refine aw_iload_n dX12_swapAll_140 rfl ?_
              refine aw_aload_n dX12_swapAll_141 rfl (by decide) ?_
              refine aw_getiv (v := (N : Int)) dX12_swapAll_142 fX12_238 ⟨Nat.le_of_ble_eq_true rfl, Nat.le_of_ble_eq_true rfl⟩ rfl rfl e84 ?_
              refine aw_icmp_ge (tgt := 259) dX12_swapAll_145 rfl (by first | assumption | (unfold ab_In at *; omega)) (by first | assumption | (unfold ab_In at *; omega)) (fun c_145 => ?_) (fun c_145 => ?_)
              · exfalso; omega
              · refine aw_iload_n dX12_swapAll_148 rfl ?_
                refine aw_iload_n dX12_swapAll_149 rfl ?_
                refine aw_ishr dX12_swapAll_150 ?_
                refine aw_iconst dX12_swapAll_151 ?_
                refine aw_iand dX12_swapAll_152 ?_
                refine aw_to (z := 1) hbm ?_
                refine aw_iconst dX12_swapAll_153 ?_
                refine aw_icmp_ne (tgt := 253) dX12_swapAll_154 rfl ⟨by decide, by decide⟩ ⟨by decide, by decide⟩ (fun c9 => absurd rfl c9) (fun _ => ?_)
                refine aw_iload_n dX12_swapAll_157 rfl ?_
                refine aw_iload_n dX12_swapAll_158 rfl ?_
                refine aw_ishr dX12_swapAll_159 ?_
                refine aw_iconst dX12_swapAll_160 ?_
                refine aw_iand dX12_swapAll_161 ?_
                refine aw_to (z := 0) hbg ?_
                refine aw_if_ne (tgt := 253) dX12_swapAll_162 rfl ⟨by decide, by decide⟩ (fun c9 => absurd rfl c9) (fun _ => ?_)
                refine aw_aload_n dX12_swapAll_165 rfl (by decide) ?_
                refine aw_getrv (r := 102) dX12_swapAll_166 fX12_62 ⟨Nat.le_of_ble_eq_true rfl, Nat.le_of_ble_eq_true rfl⟩ rfl rfl (hF.at 84 28 102 rfl rfl rfl) ?_
                refine aw_iload_n dX12_swapAll_169 rfl ?_
                refine aw_ialdq (q := h) (v := ((spt (whM I0) N (tbS m)) h : Int)) dX12_swapAll_170 ⟨Nat.le_of_ble_eq_true rfl, Nat.le_of_ble_eq_true rfl⟩ rfl (by omega) (by omega) (by decide) rfl e102 ?_
                refine aw_istore (ls' := [some (ab_r 84), some (ab_i (m : Int)), some (ab_i (g : Int)), some (ab_i (h : Int)), some (ab_i ((spt (whM I0) N (tbS m)) h : Int)), none, none]) dX12_swapAll_171 (by decide) rfl ?_
                refine aw_iconst dX12_swapAll_173 ?_
                refine aw_iload_n dX12_swapAll_174 rfl ?_
                refine aw_ishl dX12_swapAll_175 ?_
                refine aw_to (z := (p2 : Int)) hsl1 ?_
                refine aw_istore (ls' := [some (ab_r 84), some (ab_i (m : Int)), some (ab_i (g : Int)), some (ab_i (h : Int)), some (ab_i ((spt (whM I0) N (tbS m)) h : Int)), some (ab_i (p2 : Int)), none]) dX12_swapAll_176 (by decide) rfl ?_
                refine aw_iconst dX12_swapAll_178 ?_
                refine aw_istore (ls' := [some (ab_r 84), some (ab_i (m : Int)), some (ab_i (g : Int)), some (ab_i (h : Int)), some (ab_i ((spt (whM I0) N (tbS m)) h : Int)), some (ab_i (p2 : Int)), some (ab_i 0)]) dX12_swapAll_179 (by decide) rfl ?_
                refine rl N 0 _ p2 (by omega) rfl h2N (fun q => ?_) (fun i i0 i1 => by omega)
                rw [← hp2, vis_true, Nat.testBit_two_pow, decide_eq_true_eq]
                constructor
                · intro q2; exact ⟨0, by omega, q2⟩
                · rintro ⟨i, hi, he⟩
                  rw [show i = 0 by omega] at he; exact he
          · rw [if_neg hb] at hbm
            have hbf : tbS m h = false := by unfold tbS; simpa using hb
            refine aw_iload_n dX12_swapAll_140 rfl ?_
            refine aw_aload_n dX12_swapAll_141 rfl (by decide) ?_
            refine aw_getiv (v := (N : Int)) dX12_swapAll_142 fX12_238 ⟨Nat.le_of_ble_eq_true rfl, Nat.le_of_ble_eq_true rfl⟩ rfl rfl e84 ?_
            refine aw_icmp_ge (tgt := 259) dX12_swapAll_145 rfl (by first | assumption | (unfold ab_In at *; omega)) (by first | assumption | (unfold ab_In at *; omega)) (fun c_145 => ?_) (fun c_145 => ?_)
            · exfalso; omega
            · refine aw_iload_n dX12_swapAll_148 rfl ?_
              refine aw_iload_n dX12_swapAll_149 rfl ?_
              refine aw_ishr dX12_swapAll_150 ?_
              refine aw_iconst dX12_swapAll_151 ?_
              refine aw_iand dX12_swapAll_152 ?_
              refine aw_to (z := 0) hbm ?_
              refine aw_iconst dX12_swapAll_153 ?_
              refine aw_icmp_ne (tgt := 253) dX12_swapAll_154 rfl ⟨by decide, by decide⟩ ⟨by decide, by decide⟩ (fun _ => ?_) (fun c9 => absurd c9 (by decide))
              exact nxt _ _ _ (hG.skip (Or.inl hbf))
      have p1 : ∀ (e h : Nat) (J1 : Nat → Nat → Int), h + e = N → (∀ h9, h9 < h → tbS m h9 = true → J1 102 h9 = ((spt (whM I0) N (tbS m)) h9 : Int)) → J1 84 30 = J 84 30 → SFM I0 J1 → (∀ q, J1 103 q = J 103 q) → aW G YX12_swapAll (ab_rm 1 0 0) Z 0 0 (104, J1, F) 20 [some (ab_r 84), some (ab_i (m : Int)), some (ab_i (h : Int)), none, none, none, none] [] := by
        intro e
        induction e with
        | zero =>
          intro h J1 he hPT hq hs1 h1
          have hhN : h = N := by omega
          subst hhN
          have e84 : J1 84 25 = (h : Int) := (hs1 84 25 (by decide) (by decide) (by decide)).trans hN
          refine aw_iload_n dX12_swapAll_20 rfl ?_
          refine aw_aload_n dX12_swapAll_21 rfl (by decide) ?_
          refine aw_getiv (v := (h : Int)) dX12_swapAll_22 fX12_238 ⟨Nat.le_of_ble_eq_true rfl, Nat.le_of_ble_eq_true rfl⟩ rfl rfl e84 ?_
          refine aw_icmp_ge (tgt := 136) dX12_swapAll_25 rfl (by first | assumption | (unfold ab_In at *; omega)) (by first | assumption | (unfold ab_In at *; omega)) (fun c_25 => ?_) (fun c_25 => ?_)
          · refine aw_iconst dX12_swapAll_136 ?_
            refine aw_istore_n (ls' := [some (ab_r 84), some (ab_i (m : Int)), some (ab_i 0), none, none, none, none]) dX12_swapAll_137 (by decide) rfl ?_
            refine aw_iconst dX12_swapAll_138 ?_
            refine aw_istore_n (ls' := [some (ab_r 84), some (ab_i (m : Int)), some (ab_i 0), some (ab_i 0), none, none, none]) dX12_swapAll_139 (by decide) rfl ?_
            exact p2 h 0 0 0 J1 (by omega) (by omega) (by rw [show tbS 0 = fun _ => false from funext fun q => by unfold tbS; simp]; exact GIv.zero) hPT (by rw [hq]; simp) hs1 h1
          · exfalso; omega
        | succ e ihe =>
          intro h J1 he hPT hq hs1 h1
          have hhN : h < N := by omega
          have e84 : J1 84 25 = (N : Int) := (hs1 84 25 (by decide) (by decide) (by decide)).trans hN
          have hh8 : h < 8 := by omega
          have hbm := (bit_m ⟨m, hm8⟩ ⟨h, hh8⟩).1
          simp only [] at hbm
          have e84u : ab_u J1 102 h (-1) 84 25 = (N : Int) := (ab_u_i (by decide)).trans e84
          by_cases hb : m.testBit h = true
          · rw [if_pos hb] at hbm
            have hhj := hh h hh8
            obtain ⟨s, hs0⟩ : ∃ s : Nat, I0 100 h = (s : Int) := ⟨(I0 100 h).toNat, by omega⟩
            have hs : s < 4 := by omega
            have pi : ∀ (d j : Nat) (b : Int) (J2 : Nat → Nat → Int), j + d = N → J2 102 h = b → RPt (whM I0) (tbS m) h j b → (∀ h9, h9 < h → tbS m h9 = true → J2 102 h9 = ((spt (whM I0) N (tbS m)) h9 : Int)) → J2 84 30 = J 84 30 → SFM I0 J2 → (∀ q, J2 103 q = J 103 q) → aW G YX12_swapAll (ab_rm 1 0 0) Z 0 0 (104, J2, F) 37 [some (ab_r 84), some (ab_i (m : Int)), some (ab_i (h : Int)), some (ab_i (j : Int)), none, none, none] [] := by
              intro d
              induction d with
              | zero =>
                intro j b J2 hj hb9 hR hPT2 hq2 hs2 h12
                have hjN : j = N := by omega
                subst hjN
                have e84j : J2 84 25 = (j : Int) := (hs2 84 25 (by decide) (by decide) (by decide)).trans hN
                have hfin := hR.fin hb hhN
                refine aw_iload_n dX12_swapAll_37 rfl ?_
                refine aw_aload_n dX12_swapAll_38 rfl (by decide) ?_
                refine aw_getiv (v := (j : Int)) dX12_swapAll_39 fX12_238 ⟨Nat.le_of_ble_eq_true rfl, Nat.le_of_ble_eq_true rfl⟩ rfl rfl e84j ?_
                refine aw_icmp_ge (tgt := 130) dX12_swapAll_42 rfl (by first | assumption | (unfold ab_In at *; omega)) (by first | assumption | (unfold ab_In at *; omega)) (fun c_42 => ?_) (fun c_42 => ?_)
                · refine aw_iinc (ls' := [some (ab_r 84), some (ab_i (m : Int)), some (ab_i ((h : Int) + 1)), some (ab_i (j : Int)), none, none, none]) dX12_swapAll_130 (by decide) rfl rfl ?_
                  refine aw_goto (tgt := 20) dX12_swapAll_133 rfl ?_
                  refine aw_le (ab_le_c (ab_le_c (ab_le_c (ab_le_n (ab_le_c (ab_le_c (ab_le_c ab_le_nil))))))) (ihe (h + 1) J2 (by omega) (fun h9 q1 q2 => ?_) hq2 hs2 h12)
                  by_cases q3 : h9 = h
                  · rw [q3, hb9]; exact hfin
                  · exact hPT2 h9 (by omega) q2
                · exfalso; omega
              | succ d ihd =>
                intro j b J2 hj hb9 hR hPT2 hq2 hs2 h12
                have e84j : J2 84 25 = (N : Int) := (hs2 84 25 (by decide) (by decide) (by decide)).trans hN
                have hj8 : j < 8 := by omega
                have hbj := (bit_m ⟨m, hm8⟩ ⟨j, hj8⟩).1
                simp only [] at hbj
                have upd : ∀ (v : Int), RPt (whM I0) (tbS m) h (j + 1) v → aW G YX12_swapAll (ab_rm 1 0 0) Z 0 0 (104, ab_u J2 102 h v, F) 37 [some (ab_r 84), some (ab_i (m : Int)), some (ab_i (h : Int)), some (ab_i ((j + 1 : Nat) : Int)), none, none, none] [] := fun v hv => ihd (j + 1) v _ (by omega) ab_u_s hv (fun h9 q1 q2 => by rw [ab_u_j (by omega)]; exact hPT2 h9 q1 q2) (by rw [ab_u_i (by decide)]; exact hq2) (fun i b q1 q2 q3 => by rw [ab_u_i q1]; exact hs2 i b q1 q2 q3) (fun q => by rw [ab_u_i (by decide)]; exact h12 q)
                by_cases hbt : m.testBit j = true
                · rw [if_pos hbt] at hbj
                  rcases hR.bd with hbb | ⟨c, hbb, hcj⟩
                  · subst hbb
                    refine aw_iload_n dX12_swapAll_37 rfl ?_
                    refine aw_aload_n dX12_swapAll_38 rfl (by decide) ?_
                    refine aw_getiv (v := (N : Int)) dX12_swapAll_39 fX12_238 ⟨Nat.le_of_ble_eq_true rfl, Nat.le_of_ble_eq_true rfl⟩ rfl rfl e84j ?_
                    refine aw_icmp_ge (tgt := 130) dX12_swapAll_42 rfl (by first | assumption | (unfold ab_In at *; omega)) (by first | assumption | (unfold ab_In at *; omega)) (fun c_42 => ?_) (fun c_42 => ?_)
                    · exfalso; omega
                    · refine aw_iload_n dX12_swapAll_45 rfl ?_
                      refine aw_iload_n dX12_swapAll_46 rfl ?_
                      refine aw_ishr dX12_swapAll_47 ?_
                      refine aw_iconst dX12_swapAll_48 ?_
                      refine aw_iand dX12_swapAll_49 ?_
                      refine aw_to (z := 1) hbm ?_
                      refine aw_iconst dX12_swapAll_50 ?_
                      refine aw_icmp_ne (tgt := 130) dX12_swapAll_51 rfl ⟨by decide, by decide⟩ ⟨by decide, by decide⟩ (fun c9 => absurd rfl c9) (fun _ => ?_)
                      refine aw_iload_n dX12_swapAll_54 rfl ?_
                      refine aw_iload_n dX12_swapAll_55 rfl ?_
                      refine aw_ishr dX12_swapAll_56 ?_
                      refine aw_iconst dX12_swapAll_57 ?_
                      refine aw_iand dX12_swapAll_58 ?_
                      refine aw_to (z := 1) hbj ?_
                      refine aw_iconst dX12_swapAll_59 ?_
                      refine aw_icmp_ne (tgt := 124) dX12_swapAll_60 rfl ⟨by decide, by decide⟩ ⟨by decide, by decide⟩ (fun c9 => absurd rfl c9) (fun _ => ?_)
                      refine aw_aload_n dX12_swapAll_63 rfl (by decide) ?_
                      refine aw_getrv (r := 102) dX12_swapAll_64 fX12_62 ⟨Nat.le_of_ble_eq_true rfl, Nat.le_of_ble_eq_true rfl⟩ rfl rfl (hF.at 84 28 102 rfl rfl rfl) ?_
                      refine aw_iload_n dX12_swapAll_67 rfl ?_
                      refine aw_ialdq (q := h) (v := -1) dX12_swapAll_68 ⟨Nat.le_of_ble_eq_true rfl, Nat.le_of_ble_eq_true rfl⟩ rfl (by omega) (by omega) (by decide) rfl hb9 ?_
                      refine aw_istore (ls' := [some (ab_r 84), some (ab_i (m : Int)), some (ab_i (h : Int)), some (ab_i (j : Int)), some (ab_i (-1)), none, none]) dX12_swapAll_69 (by decide) rfl ?_
                      refine aw_iload dX12_swapAll_71 rfl ?_
                      refine aw_iconst dX12_swapAll_73 ?_
                      refine aw_icmp_ne (tgt := 81) dX12_swapAll_74 rfl ⟨by decide, by decide⟩ ⟨by decide, by decide⟩ (fun c9 => absurd rfl c9) (fun _ => ?_)
                      refine aw_iconst dX12_swapAll_77 ?_
                      refine aw_goto (tgt := 95) dX12_swapAll_78 rfl ?_
                      refine aw_istore (ls' := [some (ab_r 84), some (ab_i (m : Int)), some (ab_i (h : Int)), some (ab_i (j : Int)), some (ab_i (-1)), some (ab_i 1), none]) dX12_swapAll_95 (by decide) rfl ?_
                      refine aw_aload_n dX12_swapAll_97 rfl (by decide) ?_
                      refine aw_getrv (r := 102) dX12_swapAll_98 fX12_62 ⟨Nat.le_of_ble_eq_true rfl, Nat.le_of_ble_eq_true rfl⟩ rfl rfl (hF.at 84 28 102 rfl rfl rfl) ?_
                      refine aw_iload_n dX12_swapAll_101 rfl ?_
                      refine aw_iload dX12_swapAll_102 rfl ?_
                      refine aw_if_gt (tgt := 117) dX12_swapAll_104 rfl ⟨by decide, by decide⟩ (fun _ => ?_) (fun c9 => absurd (by decide) c9)
                      refine aw_iload_n dX12_swapAll_117 rfl ?_
                      refine aw_goto (tgt := 123) dX12_swapAll_118 rfl ?_
                      refine aw_iastv (q := h) dX12_swapAll_123 ⟨Nat.le_of_ble_eq_true rfl, Nat.le_of_ble_eq_true rfl⟩ rfl (by omega) (by omega) (by decide) rfl ?_
                      refine aw_iinc (ls' := [some (ab_r 84), some (ab_i (m : Int)), some (ab_i (h : Int)), some (ab_i ((j : Int) + 1)), some (ab_i (-1)), some (ab_i 1), none]) dX12_swapAll_124 (by decide) rfl rfl ?_
                      refine aw_goto (tgt := 37) dX12_swapAll_127 rfl ?_
                      exact aw_le (ab_le_c (ab_le_c (ab_le_c (ab_le_c (ab_le_n (ab_le_n (ab_le_c ab_le_nil))))))) (upd (j : Int) (hR.first hb hbt))
                  · subst hbb
                    have hc8 : c < 8 := by omega
                    have hhj2 := hh j hj8
                    have hhc := hh c hc8
                    obtain ⟨kj, hkj0⟩ : ∃ kj : Nat, I0 101 j = (kj : Int) := ⟨(I0 101 j).toNat, by omega⟩
                    obtain ⟨kc, hkc0⟩ : ∃ kc : Nat, I0 101 c = (kc : Int) := ⟨(I0 101 c).toNat, by omega⟩
                    have hkj : kj < 4 := by omega
                    have hkc : kc < 4 := by omega
                    have w1 := whM_at hh8 hj8 hs0 hkj0
                    have w2 := whM_at hh8 hc8 hs0 hkc0
                    have hw1 := hw s kj hs hkj
                    have hw2 := hw s kc hs hkc
                    have e100 : J2 100 h = (s : Int) := (hs2 100 h (by decide) (by decide) (by omega)).trans hs0
                    have e101 : J2 101 j = (kj : Int) := (hs2 101 j (by decide) (by decide) (by omega)).trans hkj0
                    have e101c : J2 101 c = (kc : Int) := (hs2 101 c (by decide) (by decide) (by omega)).trans hkc0
                    have ew : ∀ b, J2 85 b = I0 85 b := fun b => hs2 85 b (by decide) (by decide) (by omega)
                    refine aw_iload_n dX12_swapAll_37 rfl ?_
                    refine aw_aload_n dX12_swapAll_38 rfl (by decide) ?_
                    refine aw_getiv (v := (N : Int)) dX12_swapAll_39 fX12_238 ⟨Nat.le_of_ble_eq_true rfl, Nat.le_of_ble_eq_true rfl⟩ rfl rfl e84j ?_
                    refine aw_icmp_ge (tgt := 130) dX12_swapAll_42 rfl (by first | assumption | (unfold ab_In at *; omega)) (by first | assumption | (unfold ab_In at *; omega)) (fun c_42 => ?_) (fun c_42 => ?_)
                    · exfalso; omega
                    · refine aw_iload_n dX12_swapAll_45 rfl ?_
                      refine aw_iload_n dX12_swapAll_46 rfl ?_
                      refine aw_ishr dX12_swapAll_47 ?_
                      refine aw_iconst dX12_swapAll_48 ?_
                      refine aw_iand dX12_swapAll_49 ?_
                      refine aw_to (z := 1) hbm ?_
                      refine aw_iconst dX12_swapAll_50 ?_
                      refine aw_icmp_ne (tgt := 130) dX12_swapAll_51 rfl ⟨by decide, by decide⟩ ⟨by decide, by decide⟩ (fun c9 => absurd rfl c9) (fun _ => ?_)
                      refine aw_iload_n dX12_swapAll_54 rfl ?_
                      refine aw_iload_n dX12_swapAll_55 rfl ?_
                      refine aw_ishr dX12_swapAll_56 ?_
                      refine aw_iconst dX12_swapAll_57 ?_
                      refine aw_iand dX12_swapAll_58 ?_
                      refine aw_to (z := 1) hbj ?_
                      refine aw_iconst dX12_swapAll_59 ?_
                      refine aw_icmp_ne (tgt := 124) dX12_swapAll_60 rfl ⟨by decide, by decide⟩ ⟨by decide, by decide⟩ (fun c9 => absurd rfl c9) (fun _ => ?_)
                      refine aw_aload_n dX12_swapAll_63 rfl (by decide) ?_
                      refine aw_getrv (r := 102) dX12_swapAll_64 fX12_62 ⟨Nat.le_of_ble_eq_true rfl, Nat.le_of_ble_eq_true rfl⟩ rfl rfl (hF.at 84 28 102 rfl rfl rfl) ?_
                      refine aw_iload_n dX12_swapAll_67 rfl ?_
                      refine aw_ialdq (q := h) (v := (c : Int)) dX12_swapAll_68 ⟨Nat.le_of_ble_eq_true rfl, Nat.le_of_ble_eq_true rfl⟩ rfl (by omega) (by omega) (by decide) rfl hb9 ?_
                      refine aw_istore (ls' := [some (ab_r 84), some (ab_i (m : Int)), some (ab_i (h : Int)), some (ab_i (j : Int)), some (ab_i (c : Int)), none, none]) dX12_swapAll_69 (by decide) rfl ?_
                      refine aw_iload dX12_swapAll_71 rfl ?_
                      refine aw_iconst dX12_swapAll_73 ?_
                      refine aw_icmp_ne (tgt := 81) dX12_swapAll_74 rfl (by first | assumption | (unfold ab_In at *; omega)) (by first | assumption | (unfold ab_In at *; omega)) (fun c_74 => ?_) (fun c_74 => ?_)
                      · refine aw_aload_n dX12_swapAll_81 rfl (by decide) ?_
                        refine aw_iload_n dX12_swapAll_82 rfl ?_
                        refine aw_iload_n dX12_swapAll_83 rfl ?_
                        refine aw_callV (as := [ab_i (h : Int), ab_i (j : Int)]) (rest := []) dX12_swapAll_84 (ct_X12_worthTo G J2 F hF h j s kj hh8 hj8 e100 e101 hs hkj) ⟨Nat.le_of_ble_eq_true rfl, Nat.le_of_ble_eq_true rfl⟩ rfl kc12 rfl kX12_worthTo iX12_worthTo eX12_worthTo lX12_244 rfl (Nat.le_of_ble_eq_true rfl) (by decide) (by decide) (by decide) (by decide) ?_
                        rintro _ _ ⟨rfl, rfl⟩
                        rw [ew]
                        refine aw_aload_n dX12_swapAll_87 rfl (by decide) ?_
                        refine aw_iload_n dX12_swapAll_88 rfl ?_
                        refine aw_iload dX12_swapAll_89 rfl ?_
                        refine aw_callV (as := [ab_i (h : Int), ab_i (c : Int)]) (rest := [ab_i (I0 85 (4 * s + kj))]) dX12_swapAll_91 (ct_X12_worthTo G J2 F hF h c s kc hh8 hc8 e100 e101c hs hkc) ⟨Nat.le_of_ble_eq_true rfl, Nat.le_of_ble_eq_true rfl⟩ rfl kc12 rfl kX12_worthTo iX12_worthTo eX12_worthTo lX12_244 rfl (Nat.le_of_ble_eq_true rfl) (by decide) (by decide) (by decide) (by decide) ?_
                        rintro _ _ ⟨rfl, rfl⟩
                        rw [ew]
                        refine aw_isub dX12_swapAll_94 ?_
                        refine aw_istore (ls' := [some (ab_r 84), some (ab_i (m : Int)), some (ab_i (h : Int)), some (ab_i (j : Int)), some (ab_i (c : Int)), some (ab_i ((I0 85 (4 * s + kj)) - (I0 85 (4 * s + kc)))), none]) dX12_swapAll_95 (by decide) rfl ?_
                        refine aw_aload_n dX12_swapAll_97 rfl (by decide) ?_
                        refine aw_getrv (r := 102) dX12_swapAll_98 fX12_62 ⟨Nat.le_of_ble_eq_true rfl, Nat.le_of_ble_eq_true rfl⟩ rfl rfl (hF.at 84 28 102 rfl rfl rfl) ?_
                        refine aw_iload_n dX12_swapAll_101 rfl ?_
                        refine aw_iload dX12_swapAll_102 rfl ?_
                        refine aw_if_gt (tgt := 117) dX12_swapAll_104 rfl (by first | assumption | (unfold ab_In at *; omega)) (fun c_104 => ?_) (fun c_104 => ?_)
                        · refine aw_iload_n dX12_swapAll_117 rfl ?_
                          refine aw_goto (tgt := 123) dX12_swapAll_118 rfl ?_
                          refine aw_iastv (q := h) dX12_swapAll_123 ⟨Nat.le_of_ble_eq_true rfl, Nat.le_of_ble_eq_true rfl⟩ rfl (by omega) (by omega) (by decide) rfl ?_
                          refine aw_iinc (ls' := [some (ab_r 84), some (ab_i (m : Int)), some (ab_i (h : Int)), some (ab_i ((j : Int) + 1)), some (ab_i (c : Int)), some (ab_i ((I0 85 (4 * s + kj)) - (I0 85 (4 * s + kc)))), none]) dX12_swapAll_124 (by decide) rfl rfl ?_
                          refine aw_goto (tgt := 37) dX12_swapAll_127 rfl ?_
                          exact aw_le (ab_le_c (ab_le_c (ab_le_c (ab_le_c (ab_le_n (ab_le_n (ab_le_c ab_le_nil))))))) (upd (j : Int) (hR.yes hbt (by rw [w1, w2]; omega)))
                        · refine aw_iload dX12_swapAll_107 rfl ?_
                          refine aw_if_ne (tgt := 121) dX12_swapAll_109 rfl (by first | assumption | (unfold ab_In at *; omega)) (fun c_109 => ?_) (fun c_109 => ?_)
                          · refine aw_iload dX12_swapAll_121 rfl ?_
                            refine aw_iastv (q := h) dX12_swapAll_123 ⟨Nat.le_of_ble_eq_true rfl, Nat.le_of_ble_eq_true rfl⟩ rfl (by omega) (by omega) (by decide) rfl ?_
                            refine aw_iinc (ls' := [some (ab_r 84), some (ab_i (m : Int)), some (ab_i (h : Int)), some (ab_i ((j : Int) + 1)), some (ab_i (c : Int)), some (ab_i ((I0 85 (4 * s + kj)) - (I0 85 (4 * s + kc)))), none]) dX12_swapAll_124 (by decide) rfl rfl ?_
                            refine aw_goto (tgt := 37) dX12_swapAll_127 rfl ?_
                            exact aw_le (ab_le_c (ab_le_c (ab_le_c (ab_le_c (ab_le_n (ab_le_n (ab_le_c ab_le_nil))))))) (upd (c : Int) (hR.keep hb (by rw [w1, w2]; omega)))
                          · refine aw_iload_n dX12_swapAll_112 rfl ?_
                            refine aw_iload_n dX12_swapAll_113 rfl ?_
                            refine aw_icmp_ne (tgt := 121) dX12_swapAll_114 rfl (by first | assumption | (unfold ab_In at *; omega)) (by first | assumption | (unfold ab_In at *; omega)) (fun c_114 => ?_) (fun c_114 => ?_)
                            · refine aw_iload dX12_swapAll_121 rfl ?_
                              refine aw_iastv (q := h) dX12_swapAll_123 ⟨Nat.le_of_ble_eq_true rfl, Nat.le_of_ble_eq_true rfl⟩ rfl (by omega) (by omega) (by decide) rfl ?_
                              refine aw_iinc (ls' := [some (ab_r 84), some (ab_i (m : Int)), some (ab_i (h : Int)), some (ab_i ((j : Int) + 1)), some (ab_i (c : Int)), some (ab_i ((I0 85 (4 * s + kj)) - (I0 85 (4 * s + kc)))), none]) dX12_swapAll_124 (by decide) rfl rfl ?_
                              refine aw_goto (tgt := 37) dX12_swapAll_127 rfl ?_
                              exact aw_le (ab_le_c (ab_le_c (ab_le_c (ab_le_c (ab_le_n (ab_le_n (ab_le_c ab_le_nil))))))) (upd (c : Int) (hR.keep hb (by rw [w1, w2]; omega)))
                            · refine aw_iload_n dX12_swapAll_117 rfl ?_
                              refine aw_goto (tgt := 123) dX12_swapAll_118 rfl ?_
                              refine aw_iastv (q := h) dX12_swapAll_123 ⟨Nat.le_of_ble_eq_true rfl, Nat.le_of_ble_eq_true rfl⟩ rfl (by omega) (by omega) (by decide) rfl ?_
                              refine aw_iinc (ls' := [some (ab_r 84), some (ab_i (m : Int)), some (ab_i (h : Int)), some (ab_i ((j : Int) + 1)), some (ab_i (c : Int)), some (ab_i ((I0 85 (4 * s + kj)) - (I0 85 (4 * s + kc)))), none]) dX12_swapAll_124 (by decide) rfl rfl ?_
                              refine aw_goto (tgt := 37) dX12_swapAll_127 rfl ?_
                              exact aw_le (ab_le_c (ab_le_c (ab_le_c (ab_le_c (ab_le_n (ab_le_n (ab_le_c ab_le_nil))))))) (upd (j : Int) (hR.yes hbt (by rw [w1, w2]; omega)))
                      · exfalso; omega
                · rw [if_neg hbt] at hbj
                  have hbf : tbS m j = false := by unfold tbS; simpa using hbt
                  refine aw_iload_n dX12_swapAll_37 rfl ?_
                  refine aw_aload_n dX12_swapAll_38 rfl (by decide) ?_
                  refine aw_getiv (v := (N : Int)) dX12_swapAll_39 fX12_238 ⟨Nat.le_of_ble_eq_true rfl, Nat.le_of_ble_eq_true rfl⟩ rfl rfl e84j ?_
                  refine aw_icmp_ge (tgt := 130) dX12_swapAll_42 rfl (by first | assumption | (unfold ab_In at *; omega)) (by first | assumption | (unfold ab_In at *; omega)) (fun c_42 => ?_) (fun c_42 => ?_)
                  · exfalso; omega
                  · refine aw_iload_n dX12_swapAll_45 rfl ?_
                    refine aw_iload_n dX12_swapAll_46 rfl ?_
                    refine aw_ishr dX12_swapAll_47 ?_
                    refine aw_iconst dX12_swapAll_48 ?_
                    refine aw_iand dX12_swapAll_49 ?_
                    refine aw_to (z := 1) hbm ?_
                    refine aw_iconst dX12_swapAll_50 ?_
                    refine aw_icmp_ne (tgt := 130) dX12_swapAll_51 rfl ⟨by decide, by decide⟩ ⟨by decide, by decide⟩ (fun c9 => absurd rfl c9) (fun _ => ?_)
                    refine aw_iload_n dX12_swapAll_54 rfl ?_
                    refine aw_iload_n dX12_swapAll_55 rfl ?_
                    refine aw_ishr dX12_swapAll_56 ?_
                    refine aw_iconst dX12_swapAll_57 ?_
                    refine aw_iand dX12_swapAll_58 ?_
                    refine aw_to (z := 0) hbj ?_
                    refine aw_iconst dX12_swapAll_59 ?_
                    refine aw_icmp_ne (tgt := 124) dX12_swapAll_60 rfl ⟨by decide, by decide⟩ ⟨by decide, by decide⟩ (fun _ => ?_) (fun c9 => absurd c9 (by decide))
                    refine aw_iinc (ls' := [some (ab_r 84), some (ab_i (m : Int)), some (ab_i (h : Int)), some (ab_i ((j : Int) + 1)), none, none, none]) dX12_swapAll_124 (by decide) rfl rfl ?_
                    refine aw_goto (tgt := 37) dX12_swapAll_127 rfl ?_
                    exact aw_le (ab_le_c (ab_le_c (ab_le_c (ab_le_c (ab_le_c (ab_le_c (ab_le_c ab_le_nil))))))) (ihd (j + 1) b J2 (by omega) hb9 (hR.no hb hbf) hPT2 hq2 hs2 h12)
            refine aw_iload_n dX12_swapAll_20 rfl ?_
            refine aw_aload_n dX12_swapAll_21 rfl (by decide) ?_
            refine aw_getiv (v := (N : Int)) dX12_swapAll_22 fX12_238 ⟨Nat.le_of_ble_eq_true rfl, Nat.le_of_ble_eq_true rfl⟩ rfl rfl e84 ?_
            refine aw_icmp_ge (tgt := 136) dX12_swapAll_25 rfl (by first | assumption | (unfold ab_In at *; omega)) (by first | assumption | (unfold ab_In at *; omega)) (fun c_25 => ?_) (fun c_25 => ?_)
            · exfalso; omega
            · refine aw_aload_n dX12_swapAll_28 rfl (by decide) ?_
              refine aw_getrv (r := 102) dX12_swapAll_29 fX12_62 ⟨Nat.le_of_ble_eq_true rfl, Nat.le_of_ble_eq_true rfl⟩ rfl rfl (hF.at 84 28 102 rfl rfl rfl) ?_
              refine aw_iload_n dX12_swapAll_32 rfl ?_
              refine aw_iconst dX12_swapAll_33 ?_
              refine aw_iastv (q := h) dX12_swapAll_34 ⟨Nat.le_of_ble_eq_true rfl, Nat.le_of_ble_eq_true rfl⟩ rfl (by omega) (by omega) (by decide) rfl ?_
              refine aw_iconst dX12_swapAll_35 ?_
              refine aw_istore_n (ls' := [some (ab_r 84), some (ab_i (m : Int)), some (ab_i (h : Int)), some (ab_i 0), none, none, none]) dX12_swapAll_36 (by decide) rfl ?_
              exact pi N 0 (-1) _ (by omega) ab_u_s (Or.inl ⟨rfl, fun q hq9 => by omega⟩) (fun h9 q1 q2 => by rw [ab_u_j (by omega)]; exact hPT h9 q1 q2) (by rw [ab_u_i (by decide)]; exact hq) (fun i b q1 q2 q3 => by rw [ab_u_i q1]; exact hs1 i b q1 q2 q3) (fun q => by rw [ab_u_i (by decide)]; exact h1 q)
          · rw [if_neg hb] at hbm
            refine aw_iload_n dX12_swapAll_20 rfl ?_
            refine aw_aload_n dX12_swapAll_21 rfl (by decide) ?_
            refine aw_getiv (v := (N : Int)) dX12_swapAll_22 fX12_238 ⟨Nat.le_of_ble_eq_true rfl, Nat.le_of_ble_eq_true rfl⟩ rfl rfl e84 ?_
            refine aw_icmp_ge (tgt := 136) dX12_swapAll_25 rfl (by first | assumption | (unfold ab_In at *; omega)) (by first | assumption | (unfold ab_In at *; omega)) (fun c_25 => ?_) (fun c_25 => ?_)
            · exfalso; omega
            · refine aw_aload_n dX12_swapAll_28 rfl (by decide) ?_
              refine aw_getrv (r := 102) dX12_swapAll_29 fX12_62 ⟨Nat.le_of_ble_eq_true rfl, Nat.le_of_ble_eq_true rfl⟩ rfl rfl (hF.at 84 28 102 rfl rfl rfl) ?_
              refine aw_iload_n dX12_swapAll_32 rfl ?_
              refine aw_iconst dX12_swapAll_33 ?_
              refine aw_iastv (q := h) dX12_swapAll_34 ⟨Nat.le_of_ble_eq_true rfl, Nat.le_of_ble_eq_true rfl⟩ rfl (by omega) (by omega) (by decide) rfl ?_
              refine aw_iconst dX12_swapAll_35 ?_
              refine aw_istore_n (ls' := [some (ab_r 84), some (ab_i (m : Int)), some (ab_i (h : Int)), some (ab_i 0), none, none, none]) dX12_swapAll_36 (by decide) rfl ?_
              refine aw_iload_n dX12_swapAll_37 rfl ?_
              refine aw_aload_n dX12_swapAll_38 rfl (by decide) ?_
              refine aw_getiv (v := (N : Int)) dX12_swapAll_39 fX12_238 ⟨Nat.le_of_ble_eq_true rfl, Nat.le_of_ble_eq_true rfl⟩ rfl rfl ((ab_u_i (by decide)).trans e84) ?_
              refine aw_icmp_ge (tgt := 130) dX12_swapAll_42 rfl (by first | assumption | (unfold ab_In at *; omega)) (by first | assumption | (unfold ab_In at *; omega)) (fun c_42 => ?_) (fun c_42 => ?_)
              · exfalso; omega
              · refine aw_iload_n dX12_swapAll_45 rfl ?_
                refine aw_iload_n dX12_swapAll_46 rfl ?_
                refine aw_ishr dX12_swapAll_47 ?_
                refine aw_iconst dX12_swapAll_48 ?_
                refine aw_iand dX12_swapAll_49 ?_
                refine aw_to (z := 0) hbm ?_
                refine aw_iconst dX12_swapAll_50 ?_
                refine aw_icmp_ne (tgt := 130) dX12_swapAll_51 rfl ⟨by decide, by decide⟩ ⟨by decide, by decide⟩ (fun _ => ?_) (fun c9 => absurd c9 (by decide))
                refine aw_iinc (ls' := [some (ab_r 84), some (ab_i (m : Int)), some (ab_i ((h : Int) + 1)), some (ab_i 0), none, none, none]) dX12_swapAll_130 (by decide) rfl rfl ?_
                refine aw_goto (tgt := 20) dX12_swapAll_133 rfl ?_
                exact aw_le (ab_le_c (ab_le_c (ab_le_c (ab_le_n (ab_le_c (ab_le_c (ab_le_c ab_le_nil))))))) (ihe (h + 1) (ab_u J1 102 h (-1)) (by omega) (fun h9 q1 q2 => by
  by_cases q3 : h9 = h
  · rw [q3] at q2; exact absurd q2 hb
  · rw [ab_u_j q3]; exact hPT h9 (by omega) q2) (by rw [ab_u_i (by decide)]; exact hq) (fun i b q1 q2 q3 => by rw [ab_u_i q1]; exact hs1 i b q1 q2 q3) (fun q => by rw [ab_u_i (by decide)]; exact h1 q))
      refine aw_iload_n dX12_swapAll_14 rfl ?_
      refine aw_if_eq (tgt := 314) dX12_swapAll_15 rfl (by first | assumption | (unfold ab_In at *; omega)) (fun c_15 => ?_) (fun c_15 => ?_)
      · exfalso; omega
      · refine aw_iconst dX12_swapAll_18 ?_
        refine aw_istore_n (ls' := [some (ab_r 84), some (ab_i (m : Int)), some (ab_i 0), none, none, none, none]) dX12_swapAll_19 (by decide) rfl ?_
        exact p1 N 0 J (by omega) (fun h9 q1 => by omega) rfl hsf (fun _ => rfl)
  refine aw_iconst dX12_swapAll_0 ?_
  refine aw_aload_n dX12_swapAll_1 rfl (by decide) ?_
  refine aw_getiv (v := (N : Int)) dX12_swapAll_2 fX12_238 ⟨Nat.le_of_ble_eq_true rfl, Nat.le_of_ble_eq_true rfl⟩ rfl rfl hN ?_
  refine aw_ishl dX12_swapAll_5 ?_
  refine aw_iconst dX12_swapAll_6 ?_
  refine aw_isub dX12_swapAll_7 ?_
  refine aw_to (z := ((2 ^ N - 1 : Nat) : Int)) h256.1 ?_
  refine aw_istore_n (ls' := [some (ab_r 84), some (ab_i ((2 ^ N - 1 : Nat) : Int)), none, none, none, none, none]) dX12_swapAll_8 (by decide) rfl ?_
  refine aw_aload_n dX12_swapAll_9 rfl (by decide) ?_
  refine aw_iconst dX12_swapAll_10 ?_
  refine aw_puti dX12_swapAll_11 fX12_241 ⟨Nat.le_of_ble_eq_true rfl, Nat.le_of_ble_eq_true rfl⟩ rfl rfl ?_
  refine loop _ _ (ab_u I0 84 30 0) (Nat.le_refl _) (by omega) (fun i b q1 q2 q3 => ab_u_o (by omega)) (fun J2 _ q => ?_)
  rw [show (ab_u I0 84 30 0) 103 = I0 103 from funext fun b => ab_u_i (by decide), ab_u_s] at q; exact q
set_option maxHeartbeats 4000000 in
set_option maxRecDepth 100000 in
theorem ct_X12_swaps_bad (G : ab_G) (I : Nat → Nat → Int) (F : Nat → Nat → Nat) (hF : ab_FB F) (a : Int) (ha : ab_In a) (hr : 0 ≤ I 84 25 ∧ I 84 25 ≤ 8) (hbad : ¬ (0 ≤ a ∧ a ≤ I 84 25 - 1)) : Ct G 2 0 0 YX12_swaps [ab_r 84, ab_i a] (104, I, F) (fun r h => r = some (ab_i (-2)) ∧ h = (104, I, F)) := by
  refine Ct.ofW kX12_swaps (ls := [some (ab_r 84), some (ab_i a)]) (Nat.le_of_ble_eq_true rfl) rfl ?_
  refine aw_iload_n dX12_swaps_0 rfl ?_
  refine aw_iconst dX12_swaps_1 ?_
  refine aw_aload_n dX12_swaps_2 rfl (by decide) ?_
  refine aw_geti dX12_swaps_3 fX12_238 ⟨Nat.le_of_ble_eq_true rfl, Nat.le_of_ble_eq_true rfl⟩ rfl rfl ?_
  refine aw_iconst dX12_swaps_6 ?_
  refine aw_isub dX12_swaps_7 ?_
  refine aw_callS (as := [ab_i a, ab_i 0, ab_i ((I 84 25) - 1)]) (rest := []) dX12_swaps_8 (ct_X12_in G (104, I, F) a 0 (I 84 25 - 1) (by first | assumption | (unfold ab_In at *; omega)) (by first | assumption | (unfold ab_In at *; omega)) (by first | assumption | (unfold ab_In at *; omega))) kX12_in sX12_in lX12_75 rfl (Nat.le_of_ble_eq_true rfl) (by decide) (by decide) (by decide) (by decide) ?_
  rintro r9 _ ⟨e9, rfl⟩
  by_cases q1 : 0 ≤ a ∧ a ≤ I 84 25 - 1
  · rw [if_pos q1] at e9
    subst e9
    refine aw_if_ne (tgt := 17) dX12_swaps_11 rfl ⟨by decide, by decide⟩ (fun _ => ?_) (fun c9 => absurd c9 (by decide))
    exfalso; omega
  · rw [if_neg q1] at e9
    subst e9
    refine aw_if_ne (tgt := 17) dX12_swaps_11 rfl ⟨by decide, by decide⟩ (fun c9 => absurd rfl c9) (fun _ => ?_)
    refine aw_bipush dX12_swaps_14 rfl ?_
    refine aw_ireturn dX12_swaps_16 rfl ?_
    exact ⟨by first | rw [if_pos (by omega)] | rw [if_neg (by omega)] | rfl, rfl⟩
set_option maxHeartbeats 4000000 in
set_option maxRecDepth 100000 in
theorem ct_X12_swaps (G : ab_G) (I : Nat → Nat → Int) (F : Nat → Nat → Nat) (hF : ab_FB F) (N : Nat) (hN : I 84 25 = (N : Int)) (hN8 : N ≤ 8) (hh : ∀ j, j < 8 → (0 ≤ I 100 j ∧ I 100 j ≤ 3) ∧ (0 ≤ I 101 j ∧ I 101 j ≤ 3)) (hw : ∀ s k, s < 4 → k < 4 → 0 ≤ I 85 (4 * s + k) ∧ I 85 (4 * s + k) ≤ 99) (a : Nat) (ha : a < N) : Ct G 2 0 0 YX12_swaps [ab_r 84, ab_i (a : Int)] (104, I, F) (fun r h9 => ∃ J : Nat → Nat → Int, r = some (ab_i (J 103 a)) ∧ h9 = (104, J, F) ∧ SFM I J ∧ SWP (whM I) N (2 ^ N - 1) (I 103) (J 103) 0 (J 84 30)) := by
  refine Ct.ofW kX12_swaps (ls := [some (ab_r 84), some (ab_i (a : Int))]) (Nat.le_of_ble_eq_true rfl) rfl ?_
  refine aw_iload_n dX12_swaps_0 rfl ?_
  refine aw_iconst dX12_swaps_1 ?_
  refine aw_aload_n dX12_swaps_2 rfl (by decide) ?_
  refine aw_getiv (v := (N : Int)) dX12_swaps_3 fX12_238 ⟨Nat.le_of_ble_eq_true rfl, Nat.le_of_ble_eq_true rfl⟩ rfl rfl hN ?_
  refine aw_iconst dX12_swaps_6 ?_
  refine aw_isub dX12_swaps_7 ?_
  refine aw_callS (as := [ab_i (a : Int), ab_i 0, ab_i ((N : Int) - 1)]) (rest := []) dX12_swaps_8 (ct_X12_in G (104, I, F) (a : Int) 0 ((N : Int) - 1) (by first | assumption | (unfold ab_In at *; omega)) (by first | assumption | (unfold ab_In at *; omega)) (by first | assumption | (unfold ab_In at *; omega))) kX12_in sX12_in lX12_75 rfl (Nat.le_of_ble_eq_true rfl) (by decide) (by decide) (by decide) (by decide) ?_
  rintro r9 _ ⟨e9, rfl⟩
  rw [if_pos (by omega)] at e9
  subst e9
  refine aw_if_ne (tgt := 17) dX12_swaps_11 rfl ⟨by decide, by decide⟩ (fun _ => ?_) (fun c9 => absurd c9 (by decide))
  refine aw_aload_n dX12_swaps_17 rfl (by decide) ?_
  refine aw_callV (as := []) (rest := []) dX12_swaps_18 (ct_X12_swapAll G I F hF N hN hN8 hh hw) ⟨Nat.le_of_ble_eq_true rfl, Nat.le_of_ble_eq_true rfl⟩ rfl kc12 rfl kX12_swapAll iX12_swapAll eX12_swapAll lX12_248 rfl (Nat.le_of_ble_eq_true rfl) (by decide) (by decide) (by decide) (by decide) ?_
  rintro _ _ ⟨rfl, J, rfl, hs2, hP⟩
  refine aw_aload_n dX12_swaps_21 rfl (by decide) ?_
  refine aw_getrv (r := 103) dX12_swaps_22 fX12_65 ⟨Nat.le_of_ble_eq_true rfl, Nat.le_of_ble_eq_true rfl⟩ rfl rfl (hF.at 84 29 103 rfl rfl rfl) ?_
  refine aw_iload_n dX12_swaps_25 rfl ?_
  refine aw_ialdq (q := a) (v := J 103 a) dX12_swaps_26 ⟨Nat.le_of_ble_eq_true rfl, Nat.le_of_ble_eq_true rfl⟩ rfl (by omega) (by omega) (by decide) rfl rfl ?_
  refine aw_ireturn dX12_swaps_27 rfl ?_
  exact ⟨J, by rfl, rfl, hs2, hP⟩
set_option maxHeartbeats 4000000 in
set_option maxRecDepth 100000 in
theorem ct_X12_rings (G : ab_G) (I : Nat → Nat → Int) (F : Nat → Nat → Nat) (hF : ab_FB F) (N : Nat) (hN : I 84 25 = (N : Int)) (hN8 : N ≤ 8) (hh : ∀ j, j < 8 → (0 ≤ I 100 j ∧ I 100 j ≤ 3) ∧ (0 ≤ I 101 j ∧ I 101 j ≤ 3)) (hw : ∀ s k, s < 4 → k < 4 → 0 ≤ I 85 (4 * s + k) ∧ I 85 (4 * s + k) ≤ 99) : Ct G 2 0 0 YX12_rings [ab_r 84] (104, I, F) (fun r h9 => ∃ J : Nat → Nat → Int, r = some (ab_i (J 84 30)) ∧ h9 = (104, J, F) ∧ SFM I J ∧ SWP (whM I) N (2 ^ N - 1) (I 103) (J 103) 0 (J 84 30)) := by
  refine Ct.ofW kX12_rings (ls := [some (ab_r 84)]) (Nat.le_of_ble_eq_true rfl) rfl ?_
  refine aw_aload_n dX12_rings_0 rfl (by decide) ?_
  refine aw_callV (as := []) (rest := []) dX12_rings_1 (ct_X12_swapAll G I F hF N hN hN8 hh hw) ⟨Nat.le_of_ble_eq_true rfl, Nat.le_of_ble_eq_true rfl⟩ rfl kc12 rfl kX12_swapAll iX12_swapAll eX12_swapAll lX12_248 rfl (Nat.le_of_ble_eq_true rfl) (by decide) (by decide) (by decide) (by decide) ?_
  rintro _ _ ⟨rfl, J, rfl, hs2, hP⟩
  refine aw_aload_n dX12_rings_4 rfl (by decide) ?_
  refine aw_geti dX12_rings_5 fX12_241 ⟨Nat.le_of_ble_eq_true rfl, Nat.le_of_ble_eq_true rfl⟩ rfl rfl ?_
  refine aw_ireturn dX12_rings_8 rfl ?_
  exact ⟨J, by rfl, rfl, hs2, hP⟩
set_option maxHeartbeats 4000000 in
set_option maxRecDepth 100000 in
theorem pr_swaps (G : ab_G) (I : Nat → Nat → Int) (F : Nat → Nat → Nat) (c : Nat) (h : INV c I F) (hc : c ≤ 600) (a : Int) (ha : ab_In a) : Pair G 4 2 YX11_swaps YX12_swaps [ab_i a] ab_i c I F := by
  have hH := h.2.2.2.2.2.2.1
  have hwe := h.wh
  obtain ⟨N, hN⟩ : ∃ N : Nat, I 76 3 = N := ⟨(I 76 3).toNat, by have := hH.1; omega⟩
  have hN8 : N ≤ 8 := by have := hH.1; omega
  by_cases hv9 : 0 ≤ a ∧ a ≤ I 76 3 - 1
  · obtain ⟨x, rfl⟩ : ∃ x : Nat, a = x := ⟨a.toNat, by omega⟩
    have hxN : x < N := by omega
    refine (ct_X11_swaps G I F h.1 N hN hN8 (fun j hj => (hH.2.2 j hj).2) (fun s k hs hk => h.2.1.2.1 s k hs hk) x hxN).mono ?_
    rintro _ _ ⟨J, rfl, rfl, hfr, hP⟩
    refine ⟨_, _, _, rfl, rfl, ?_⟩
    have e1 : whM J = whX I := by rw [hwe]; funext x y; unfold whM; rw [hfr 85 _ (by decide) (by omega), hfr 100 _ (by decide) (by omega), hfr 101 _ (by decide) (by omega)]
    refine (ct_X12_swaps G J F h.1 N (by rw [hfr 84 25 (by decide) (by decide), hH.2.1]; exact hN) hN8 (fun j hj9 => by rw [hfr 100 _ (by decide) (by omega), hfr 101 _ (by decide) (by omega), (hH.2.2 j hj9).1.1, (hH.2.2 j hj9).1.2]; exact (hH.2.2 j hj9).2) (fun s k hs hk => by rw [hfr 85 _ (by decide) (by omega), ← h.2.2.1.2.1 s k hs hk]; exact h.2.1.2.1 s k hs hk) x hxN).mono ?_
    rintro _ _ ⟨J2, rfl, rfl, hfr2, hP2⟩
    rw [e1] at hP2
    obtain ⟨v1, r1, o1, q1, p1, _⟩ := hP
    obtain ⟨v2, r2, o2, q2, p2, _⟩ := hP2
    obtain ⟨u1, u2⟩ := Out.uniq o1 o2
    have u3 := u1 x (tb_all hxN)
    have u4 := p1 x (tb_all hxN)
    have u5 := p2 x (tb_all hxN)
    refine ⟨by rw [show J2 103 x = J 80 x by omega], _, _, rfl, h.keep (by omega) (fun i b q => by rw [hfr2 i b (by omega) (by omega) (by omega)]; exact hfr i b (by omega) (by omega)) (fun _ _ _ => rfl) (h.2.2.2.2.2.2.2.1.of (fun i b q => by rw [hfr2 i b (by omega) (by omega) (by omega)]; exact hfr i b (by omega) (by omega)))⟩
  · refine (ct_X11_swaps_bad G I F h.1 a ha hH.1 hv9).mono ?_
    rintro _ _ ⟨rfl, rfl⟩
    refine ⟨_, _, _, rfl, rfl, ?_⟩
    refine (ct_X12_swaps_bad G I F h.1 a ha (by rw [hH.2.1]; exact hH.1) (by rw [hH.2.1]; exact hv9)).mono ?_
    rintro _ _ ⟨rfl, rfl⟩
    exact ⟨rfl, _, _, rfl, h.up (by omega)⟩
set_option maxHeartbeats 4000000 in
set_option maxRecDepth 100000 in
theorem pr_rings (G : ab_G) (I : Nat → Nat → Int) (F : Nat → Nat → Nat) (c : Nat) (h : INV c I F) (hc : c ≤ 600)  : Pair G 4 2 YX11_rings YX12_rings [] ab_i c I F := by
  have hH := h.2.2.2.2.2.2.1
  have hwe := h.wh
  obtain ⟨N, hN⟩ : ∃ N : Nat, I 76 3 = N := ⟨(I 76 3).toNat, by have := hH.1; omega⟩
  have hN8 : N ≤ 8 := by have := hH.1; omega
  refine (ct_X11_rings G I F h.1 N hN hN8 (fun j hj => (hH.2.2 j hj).2) (fun s k hs hk => h.2.1.2.1 s k hs hk)).mono ?_
  rintro _ _ ⟨J, rfl, rfl, hfr, hP⟩
  refine ⟨_, _, _, rfl, rfl, ?_⟩
  have e1 : whM J = whX I := by rw [hwe]; funext x y; unfold whM; rw [hfr 85 _ (by decide) (by omega), hfr 100 _ (by decide) (by omega), hfr 101 _ (by decide) (by omega)]
  refine (ct_X12_rings G J F h.1 N (by rw [hfr 84 25 (by decide) (by decide), hH.2.1]; exact hN) hN8 (fun j hj9 => by rw [hfr 100 _ (by decide) (by omega), hfr 101 _ (by decide) (by omega), (hH.2.2 j hj9).1.1, (hH.2.2 j hj9).1.2]; exact (hH.2.2 j hj9).2) (fun s k hs hk => by rw [hfr 85 _ (by decide) (by omega), ← h.2.2.1.2.1 s k hs hk]; exact h.2.1.2.1 s k hs hk)).mono ?_
  rintro _ _ ⟨J2, rfl, rfl, hfr2, hP2⟩
  rw [e1] at hP2
  obtain ⟨v1, r1, o1, q1, p1, _⟩ := hP
  obtain ⟨v2, r2, o2, q2, p2, _⟩ := hP2
  obtain ⟨u1, u2⟩ := Out.uniq o1 o2
  refine ⟨by rw [show J2 84 30 = J 79 2 by omega], _, _, rfl, h.keep (by omega) (fun i b q => by rw [hfr2 i b (by omega) (by omega) (by omega)]; exact hfr i b (by omega) (by omega)) (fun _ _ _ => rfl) (h.2.2.2.2.2.2.2.1.of (fun i b q => by rw [hfr2 i b (by omega) (by omega) (by omega)]; exact hfr i b (by omega) (by omega)))⟩
