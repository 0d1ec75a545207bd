theorem mxp_1 {f : Nat → Nat} {j : Nat} (h : mxp f j < f j) : mxp f (j + 1) = f j := by rw [mxp, if_pos h]
theorem mxp_0 {f : Nat → Nat} {j : Nat} (h : ¬ mxp f j < f j) : mxp f (j + 1) = mxp f j := by rw [mxp, if_neg h]
/-- the first of the largest, or -1 where all are 0 -/
def nxA (f : Nat → Nat) (j : Nat) : Int := if mxp f j = 0 then -1 else (amx f j : Int)
theorem nxA_1 {f : Nat → Nat} {j : Nat} (h : mxp f j < f j) : nxA f (j + 1) = (j : Int) := by
  unfold nxA; rw [mxp_1 h, if_neg (by omega), amx, if_pos h]
theorem nxA_0 {f : Nat → Nat} {j : Nat} (h : ¬ mxp f j < f j) : nxA f (j + 1) = nxA f j := by
  unfold nxA; rw [mxp_0 h, amx, if_neg h]
theorem path_cons {wg : Nat → Nat → Bool} {kd : Nat → Nat} {N m k : Nat} (hN : N ≤ 8) (hm : m < 256) (h : ¬ mxp (fH wg kd N m k) N = 0) : path wg kd N m k = amx (fH wg kd N m k) N :: path wg kd N (m ||| 2 ^ amx (fH wg kd N m k) N) (kd (amx (fH wg kd N m k) N)) := by
  rw [← pj_N hN hm]; unfold pj; rw [if_neg h]
theorem path_nil {wg : Nat → Nat → Bool} {kd : Nat → Nat} {N m k : Nat} (hN : N ≤ 8) (hm : m < 256) (h : mxp (fH wg kd N m k) N = 0) : path wg kd N m k = [] := by
  rw [← pj_N hN hm]; unfold pj; rw [if_pos h]
/-- the table above the set m -/
def DPI (wg : Nat → Nat → Bool) (kd : Nat → Nat) (N m : Nat) (f : Nat → Int) : Prop := ∀ a l, m < a → a < 2 ^ N → l < N → f (8 * a + l) = (mx wg kd N a (kd l) : Int)
def fdA (pre : List Nat) (b : Int) : Int := if 0 ≤ b ∧ b < pre.length then (pre[b.toNat]?.map (fun q => (q : Int))).getD (-1) else -1
theorem fdA_app {pre : List Nat} {b : Int} {x : Nat} : fdA (pre ++ [x]) b = if (pre.length : Int) = b then (x : Int) else fdA pre b := by
  unfold fdA
  rw [List.length_append, List.length_singleton]
  by_cases e : (pre.length : Int) = b
  · rw [if_pos e, if_pos (by omega), ← e]
    have : ((pre.length : Int)).toNat = pre.length := by omega
    rw [this, List.getElem?_append_right (Nat.le_refl _), Nat.sub_self]; rfl
  · rw [if_neg e]
    by_cases e2 : 0 ≤ b ∧ b < pre.length
    · rw [if_pos e2, if_pos (by omega), List.getElem?_append_left (by omega)]
    · rw [if_neg e2, if_neg (by omega)]
theorem fdA_rv {pre : List Nat} {b : Int} (hb : -1 ≤ b) : (if b = -1 then (pre.length : Int) else fdA pre b) = rvL pre b := by
  unfold rvL fdA
  by_cases e : b = -1
  · rw [if_pos e, if_pos e]
  · rw [if_neg e, if_neg e]
    by_cases e2 : b < pre.length
    · rw [if_pos (by omega)]
    · rw [if_neg (by omega), List.getElem?_eq_none (by omega)]; rfl
set_option maxHeartbeats 4000000 in
set_option maxRecDepth 100000 in
theorem ct_X12_wouldGo (G : ab_G) (I : Nat → Nat → Int) (F : Nat → Nat → Nat) (hF : ab_FB F) (h s c k : Nat) (hh : h < 8) (h100 : I 100 h = (s : Int)) (h101 : I 101 h = (c : Int)) (hs : s < 4) (hc : c < 4) (hk : k < 4) (hwa : ab_In (I 85 (4 * s + k))) (hwb : ab_In (I 85 (4 * s + c))) : Ct G 0 0 0 YX12_wouldGo [ab_r 84, ab_i (h : Int), ab_i (k : Int)] (104, I, F) (fun r h => r = some (ab_i (if I 85 (4 * s + c) < I 85 (4 * s + k) then 1 else 0)) ∧ h = (104, I, F)) := by
  refine Ct.ofW kX12_wouldGo (ls := [some (ab_r 84), some (ab_i (h : Int)), some (ab_i (k : Int))]) (Nat.le_of_ble_eq_true rfl) rfl ?_
  refine aw_aload_n dX12_wouldGo_0 rfl (by decide) ?_
  refine aw_getrv (r := 85) dX12_wouldGo_1 fX12_7 ⟨Nat.le_of_ble_eq_true rfl, Nat.le_of_ble_eq_true rfl⟩ rfl rfl (hF.at 84 0 85 rfl rfl rfl) ?_
  refine aw_iconst dX12_wouldGo_4 ?_
  refine aw_aload_n dX12_wouldGo_5 rfl (by decide) ?_
  refine aw_getrv (r := 100) dX12_wouldGo_6 fX12_56 ⟨Nat.le_of_ble_eq_true rfl, Nat.le_of_ble_eq_true rfl⟩ rfl rfl (hF.at 84 26 100 rfl rfl rfl) ?_
  refine aw_iload_n dX12_wouldGo_9 rfl ?_
  refine aw_ialdq (q := h) (v := (s : Int)) dX12_wouldGo_10 ⟨Nat.le_of_ble_eq_true rfl, Nat.le_of_ble_eq_true rfl⟩ rfl (by omega) (by omega) (by decide) rfl h100 ?_
  refine aw_imul dX12_wouldGo_11 ?_
  refine aw_iload_n dX12_wouldGo_12 rfl ?_
  refine aw_iadd dX12_wouldGo_13 ?_
  refine aw_ialdq (q := (4 * s + k)) (v := I 85 (4 * s + k)) dX12_wouldGo_14 ⟨Nat.le_of_ble_eq_true rfl, Nat.le_of_ble_eq_true rfl⟩ rfl (by omega) (by omega) (by decide) (by omega) rfl ?_
  refine aw_aload_n dX12_wouldGo_15 rfl (by decide) ?_
  refine aw_getrv (r := 85) dX12_wouldGo_16 fX12_7 ⟨Nat.le_of_ble_eq_true rfl, Nat.le_of_ble_eq_true rfl⟩ rfl rfl (hF.at 84 0 85 rfl rfl rfl) ?_
  refine aw_iconst dX12_wouldGo_19 ?_
  refine aw_aload_n dX12_wouldGo_20 rfl (by decide) ?_
  refine aw_getrv (r := 100) dX12_wouldGo_21 fX12_56 ⟨Nat.le_of_ble_eq_true rfl, Nat.le_of_ble_eq_true rfl⟩ rfl rfl (hF.at 84 26 100 rfl rfl rfl) ?_
  refine aw_iload_n dX12_wouldGo_24 rfl ?_
  refine aw_ialdq (q := h) (v := (s : Int)) dX12_wouldGo_25 ⟨Nat.le_of_ble_eq_true rfl, Nat.le_of_ble_eq_true rfl⟩ rfl (by omega) (by omega) (by decide) rfl h100 ?_
  refine aw_imul dX12_wouldGo_26 ?_
  refine aw_aload_n dX12_wouldGo_27 rfl (by decide) ?_
  refine aw_getrv (r := 101) dX12_wouldGo_28 fX12_59 ⟨Nat.le_of_ble_eq_true rfl, Nat.le_of_ble_eq_true rfl⟩ rfl rfl (hF.at 84 27 101 rfl rfl rfl) ?_
  refine aw_iload_n dX12_wouldGo_31 rfl ?_
  refine aw_ialdq (q := h) (v := (c : Int)) dX12_wouldGo_32 ⟨Nat.le_of_ble_eq_true rfl, Nat.le_of_ble_eq_true rfl⟩ rfl (by omega) (by omega) (by decide) rfl h101 ?_
  refine aw_iadd dX12_wouldGo_33 ?_
  refine aw_ialdq (q := (4 * s + c)) (v := I 85 (4 * s + c)) dX12_wouldGo_34 ⟨Nat.le_of_ble_eq_true rfl, Nat.le_of_ble_eq_true rfl⟩ rfl (by omega) (by omega) (by decide) (by omega) rfl ?_
  refine aw_icmp_le (tgt := 42) dX12_wouldGo_35 rfl (by first | assumption | (unfold ab_In at *; omega)) (by first | assumption | (unfold ab_In at *; omega)) (fun c_35 => ?_) (fun c_35 => ?_)
  · refine aw_iconst dX12_wouldGo_42 ?_
    refine aw_breturn dX12_wouldGo_43 rfl (by omega) ?_
    exact ⟨by first | rw [if_pos (by omega)] | rw [if_neg (by omega)], rfl⟩
  · refine aw_iconst dX12_wouldGo_38 ?_
    refine aw_goto (tgt := 43) dX12_wouldGo_39 rfl ?_
    refine aw_breturn dX12_wouldGo_43 rfl (by omega) ?_
    exact ⟨by first | rw [if_pos (by omega)] | rw [if_neg (by omega)], rfl⟩
set_option maxHeartbeats 4000000 in
set_option maxRecDepth 100000 in
theorem ct_X12_chain (G : ab_G) (I : Nat → Nat → Int) (F : Nat → Nat → Nat) (hF : ab_FB F) (N : Nat) (hN : I 84 25 = (N : Int)) (hN8 : N ≤ 8) (hh : ∀ j, j < 8 → (0 ≤ I 100 j ∧ I 100 j ≤ 3) ∧ (0 ≤ I 101 j ∧ I 101 j ≤ 3)) (hw : ∀ s k, s < 4 → k < 4 → 0 ≤ I 85 (4 * s + k) ∧ I 85 (4 * s + k) ≤ 99) (k : Nat) (hk : k < 4) (b : Int) (hb : ab_In b) (hb1 : -1 ≤ b) : Ct G 2 0 0 YX12_chain [ab_r 84, ab_i (k : Int), ab_i b] (104, I, F) (fun r h => r = some (ab_i (rvL (path (wgM I) (kdHM I) N 0 k) b)) ∧ ∃ I2, h = (104, I2, F) ∧ (∀ i b, i ≠ 104 → I2 i b = I i b)) := by
  have h256 := (bit_all ⟨N, by omega⟩)
  simp only [] at h256
  refine Ct.ofW kX12_chain (ls := [some (ab_r 84), some (ab_i (k : Int)), some (ab_i b), none, none, none, none, none, none, none, none, none, none]) (Nat.le_of_ble_eq_true rfl) rfl ?_
  generalize hZ : ab_Z G (fun r h => r = some (ab_i (rvL (path (wgM I) (kdHM I) N 0 k) b)) ∧ ∃ I2, h = (104, I2, F) ∧ (∀ i b, i ≠ 104 → I2 i b = I i b)) 0 0 = Z
  have ph2 : ∀ (u m to : Nat) (pre : List Nat) (J : Nat → Nat → Int), u = mx (wgM I) (kdHM I) N m to → m < 2 ^ N → to < 4 → pc8 m = pre.length → DPI (wgM I) (kdHM I) N 0 (J 104) → (∀ i b, i ≠ 104 → J i b = I i b) → pre ++ path (wgM I) (kdHM I) N m to = path (wgM I) (kdHM I) N 0 k → aW G YX12_chain (ab_rm 2 0 0) Z 0 0 (104, J, F) 182 [some (ab_r 84), some (ab_i (k : Int)), some (ab_i b), some (ab_i (m : Int)), some (ab_i (to : Int)), some (ab_i (pre.length : Int)), some (ab_i (fdA pre b)), some (ab_i 1), none, none, none, none, none] [] := by
    intro u
    induction u with
    | zero =>
      intro m to pre J hu hm hto hpc hD hfr hp
      have e84 : J 84 25 = (N : Int) := (hfr 84 25 (by decide)).trans hN
      have hpN := (bit_N ⟨N, by omega⟩ ⟨m, by omega⟩ hm)
      simp only [] at hpN
      have hmx := mx_eq (wg := wgM I) (kd := kdHM I) (k := to) hN8 (show m < 256 by omega)
      have hmb := mx_bd (wg := wgM I) (kd := kdHM I) hN8 to hm
      generalize hfe : fH (wgM I) (kdHM I) N m to = f at hmx
      generalize hfd : fdA pre b = fd
      skip
      have s300 : aW G YX12_chain (ab_rm 2 0 0) Z 0 0 (104, J, F) 300 [some (ab_r 84), some (ab_i (k : Int)), some (ab_i b), some (ab_i (m : Int)), some (ab_i (to : Int)), some (ab_i (pre.length : Int)), some (ab_i fd), some (ab_i 1), some (ab_i (nxA f N)), some (ab_i ((mxp f N : Nat) : Int)), some (ab_i (N : Int)), none, none] [] := by
        have e0 : mxp f N = 0 := by omega
        have en : nxA f N = -1 := by unfold nxA; rw [if_pos e0]
        have hpe : path (wgM I) (kdHM I) N m to = [] := path_nil hN8 (by omega) (by rw [hfe]; exact e0)
        rw [hpe, List.append_nil] at hp
        rw [en]
        refine aw_iload dX12_chain_300 rfl ?_
        refine aw_iconst dX12_chain_302 ?_
        refine aw_icmp_eq (tgt := 310) dX12_chain_303 rfl ⟨by decide, by decide⟩ ⟨by decide, by decide⟩ (fun _ => ?_) (fun c9 => absurd (by decide) c9)
        refine aw_iconst dX12_chain_310 ?_
        refine aw_istore (ls' := [some (ab_r 84), some (ab_i (k : Int)), some (ab_i b), some (ab_i (m : Int)), some (ab_i (to : Int)), some (ab_i (pre.length : Int)), some (ab_i fd), some (ab_i 0), some (ab_i (-1)), some (ab_i ((mxp f N : Nat) : Int)), some (ab_i (N : Int)), none, none]) dX12_chain_311 (by decide) rfl ?_
        refine aw_iload dX12_chain_313 rfl ?_
        refine aw_if_eq (tgt := 352) dX12_chain_315 rfl ⟨by decide, by decide⟩ (fun _ => ?_) (fun c9 => absurd (by decide) c9)
        refine aw_goto (tgt := 182) dX12_chain_352 rfl ?_
        refine aw_iload dX12_chain_182 rfl ?_
        refine aw_if_eq (tgt := 355) dX12_chain_184 rfl ⟨by decide, by decide⟩ (fun _ => ?_) (fun c9 => absurd (by decide) c9)
        refine aw_iload_n dX12_chain_355 rfl ?_
        refine aw_iconst dX12_chain_356 ?_
        refine aw_icmp_ne (tgt := 365) dX12_chain_357 rfl (by first | assumption | (unfold ab_In at *; omega)) (by first | assumption | (unfold ab_In at *; omega)) (fun c_357 => ?_) (fun c_357 => ?_)
        · refine aw_iload dX12_chain_365 rfl ?_
          rw [← hZ]
          refine aw_ireturn dX12_chain_367 rfl ?_
          refine ⟨?_, J, rfl, hfr⟩
          rw [← hp, ← fdA_rv hb1]
          first | rw [if_pos (by omega)] | rw [if_neg (by omega), hfd]
        · refine aw_iload dX12_chain_360 rfl ?_
          refine aw_goto (tgt := 367) dX12_chain_362 rfl ?_
          rw [← hZ]
          refine aw_ireturn dX12_chain_367 rfl ?_
          refine ⟨?_, J, rfl, hfr⟩
          rw [← hp, ← fdA_rv hb1]
          first | rw [if_pos (by omega)] | rw [if_neg (by omega), hfd]
      have lp : ∀ (e h : Nat) (n1 q1 : Int), h + e = N → n1 = nxA f h → q1 = ((mxp f h : Nat) : Int) → aW G YX12_chain (ab_rm 2 0 0) Z 0 0 (104, J, F) 196 [some (ab_r 84), some (ab_i (k : Int)), some (ab_i b), some (ab_i (m : Int)), some (ab_i (to : Int)), some (ab_i (pre.length : Int)), some (ab_i fd), some (ab_i 1), some (ab_i n1), some (ab_i q1), some (ab_i (h : Int)), none, none] [] := by
        intro e
        induction e with
        | zero =>
          intro h n1 q1 he hn1 hq1
          have hNe : h = N := by omega
          subst hNe
          subst hn1
          subst hq1
          refine aw_iload dX12_chain_196 rfl ?_
          refine aw_aload_n dX12_chain_198 rfl (by decide) ?_
          refine aw_getiv (v := (h : Int)) dX12_chain_199 fX12_238 ⟨Nat.le_of_ble_eq_true rfl, Nat.le_of_ble_eq_true rfl⟩ rfl rfl e84 ?_
          refine aw_icmp_ge (tgt := 300) dX12_chain_202 rfl (by first | assumption | (unfold ab_In at *; omega)) (by first | assumption | (unfold ab_In at *; omega)) (fun c_202 => ?_) (fun c_202 => ?_)
          · exact s300
          · exfalso; omega
        | succ e ihe =>
          intro h n1 q1 he hn1 hq1
          have hq8 : mxp f h ≤ 8 := by
            have h1 : mxp f h ≤ mxp f N := mxp_le (fun h9 hh9 => mxp_ge (by omega))
            omega
          have hh8 : h < 8 := by omega
          have hhj := hh h hh8
          obtain ⟨s, hs0⟩ : ∃ s : Nat, I 100 h = (s : Int) := ⟨(I 100 h).toNat, by omega⟩
          obtain ⟨kj, hk0⟩ : ∃ kj : Nat, I 101 h = (kj : Int) := ⟨(I 101 h).toNat, by omega⟩
          have hs : s < 4 := by omega
          have hkj : kj < 4 := by omega
          have ekd : kdHM I h = kj := by unfold kdHM; rw [if_pos hh8]; omega
          have e100 : J 100 h = (s : Int) := (hfr 100 h (by decide)).trans hs0
          have e101 : J 101 h = (kj : Int) := (hfr 101 h (by decide)).trans hk0
          have ew : ∀ b, J 85 b = I 85 b := fun b => hfr 85 b (by decide)
          have hwt := wgM_true (I := I) hh8 hto hs0 hk0
          have hw1 := hw s to hs hto
          have hw2 := hw s kj hs hkj
          have hbm := bit_m ⟨m, by omega⟩ ⟨h, hh8⟩
          simp only [] at hbm
          have hbm1 := hbm.1
          have no : (m.testBit h = true ∨ ¬ wgM I h to = true) → f h = 0 := fun hx => by rw [← hfe]; exact fH_no hx
          by_cases hbt : m.testBit h = true
          · rw [if_pos hbt] at hbm1
            have hf0 := no (Or.inl hbt)
            refine aw_iload dX12_chain_196 rfl ?_
            refine aw_aload_n dX12_chain_198 rfl (by decide) ?_
            refine aw_getiv (v := (N : Int)) dX12_chain_199 fX12_238 ⟨Nat.le_of_ble_eq_true rfl, Nat.le_of_ble_eq_true rfl⟩ rfl rfl e84 ?_
            refine aw_icmp_ge (tgt := 300) dX12_chain_202 rfl (by first | assumption | (unfold ab_In at *; omega)) (by first | assumption | (unfold ab_In at *; omega)) (fun c_202 => ?_) (fun c_202 => ?_)
            · exfalso; omega
            · refine aw_iload_n dX12_chain_205 rfl ?_
              refine aw_iload dX12_chain_206 rfl ?_
              refine aw_ishr dX12_chain_208 ?_
              refine aw_iconst dX12_chain_209 ?_
              refine aw_iand dX12_chain_210 ?_
              refine aw_to (z := 1) hbm1 ?_
              refine aw_if_ne (tgt := 229) dX12_chain_211 rfl ⟨by decide, by decide⟩ (fun _ => ?_) (fun c9 => absurd c9 (by decide))
              refine aw_iconst dX12_chain_229 ?_
              refine aw_istore (ls' := [some (ab_r 84), some (ab_i (k : Int)), some (ab_i b), some (ab_i (m : Int)), some (ab_i (to : Int)), some (ab_i (pre.length : Int)), some (ab_i fd), some (ab_i 1), some (ab_i n1), some (ab_i q1), some (ab_i (h : Int)), some (ab_i 0), none]) dX12_chain_230 (by decide) rfl ?_
              refine aw_iload dX12_chain_232 rfl ?_
              refine aw_if_eq (tgt := 259) dX12_chain_234 rfl ⟨by decide, by decide⟩ (fun _ => ?_) (fun c9 => absurd (by decide) c9)
              refine aw_iconst dX12_chain_259 ?_
              refine aw_istore (ls' := [some (ab_r 84), some (ab_i (k : Int)), some (ab_i b), some (ab_i (m : Int)), some (ab_i (to : Int)), some (ab_i (pre.length : Int)), some (ab_i fd), some (ab_i 1), some (ab_i n1), some (ab_i q1), some (ab_i (h : Int)), some (ab_i 0), some (ab_i 0)]) dX12_chain_260 (by decide) rfl ?_
              refine aw_iload dX12_chain_262 rfl ?_
              refine aw_iload dX12_chain_264 rfl ?_
              refine aw_icmp_le (tgt := 274) dX12_chain_266 rfl (by first | assumption | (unfold ab_In at *; omega)) (by first | assumption | (unfold ab_In at *; omega)) (fun c_266 => ?_) (fun c_266 => ?_)
              · refine aw_iload dX12_chain_274 rfl ?_
                refine aw_istore (ls' := [some (ab_r 84), some (ab_i (k : Int)), some (ab_i b), some (ab_i (m : Int)), some (ab_i (to : Int)), some (ab_i (pre.length : Int)), some (ab_i fd), some (ab_i 1), some (ab_i n1), some (ab_i q1), some (ab_i (h : Int)), some (ab_i 0), some (ab_i 0)]) dX12_chain_276 (by decide) rfl ?_
                refine aw_iload dX12_chain_278 rfl ?_
                refine aw_iload dX12_chain_280 rfl ?_
                refine aw_icmp_le (tgt := 290) dX12_chain_282 rfl (by first | assumption | (unfold ab_In at *; omega)) (by first | assumption | (unfold ab_In at *; omega)) (fun c_282 => ?_) (fun c_282 => ?_)
                · refine aw_iload dX12_chain_290 rfl ?_
                  refine aw_istore (ls' := [some (ab_r 84), some (ab_i (k : Int)), some (ab_i b), some (ab_i (m : Int)), some (ab_i (to : Int)), some (ab_i (pre.length : Int)), some (ab_i fd), some (ab_i 1), some (ab_i n1), some (ab_i q1), some (ab_i (h : Int)), some (ab_i 0), some (ab_i 0)]) dX12_chain_292 (by decide) rfl ?_
                  refine aw_iinc (ls' := [some (ab_r 84), some (ab_i (k : Int)), some (ab_i b), some (ab_i (m : Int)), some (ab_i (to : Int)), some (ab_i (pre.length : Int)), some (ab_i fd), some (ab_i 1), some (ab_i n1), some (ab_i q1), some (ab_i ((h : Int) + 1)), some (ab_i 0), some (ab_i 0)]) dX12_chain_294 (by decide) rfl rfl ?_
                  refine aw_goto (tgt := 196) dX12_chain_297 rfl ?_
                  exact aw_le (ab_le_c (ab_le_c (ab_le_c (ab_le_c (ab_le_c (ab_le_c (ab_le_c (ab_le_c (ab_le_c (ab_le_c (ab_le_c (ab_le_n (ab_le_n ab_le_nil))))))))))))) (ihe (h + 1) n1 q1 (by omega) (by first | rw [nxA_0 (by omega)]; exact hn1 | rw [nxA_1 (by omega)]) (by first | (rw [mxp_0 (by omega)]; exact hq1) | (rw [mxp_1 (by omega)]; omega)))
                · exfalso; omega
              · exfalso; omega
          · rw [if_neg hbt] at hbm1
            have hbf : m.testBit h = false := by simpa using hbt
            have hor := bit_or ⟨m, by omega⟩ ⟨h, hh8⟩ hbf
            simp only [] at hor
            have horN := hpN.2 ⟨h, hh8⟩ (by show h < N; omega)
            simp only [] at horN
            have hbm2 := hbm.2
            have yes := fun hx => fH_yes (wg := wgM I) (kd := kdHM I) (N := N) (k := to) hbf hx
            rw [hfe, ekd] at yes
            obtain ⟨x2, hx2⟩ : ∃ x2, m ||| 2 ^ h = x2 := ⟨_, rfl⟩
            rw [hx2] at hbm2 hor horN yes
            have hD1 := hD x2 h (by omega) horN (by omega)
            rw [ekd] at hD1
            have hmb2 := mx_bd (wg := wgM I) (kd := kdHM I) hN8 kj horN
            generalize mx (wgM I) (kdHM I) N x2 kj = y at hD1 yes hmb2
            refine aw_iload dX12_chain_196 rfl ?_
            refine aw_aload_n dX12_chain_198 rfl (by decide) ?_
            refine aw_getiv (v := (N : Int)) dX12_chain_199 fX12_238 ⟨Nat.le_of_ble_eq_true rfl, Nat.le_of_ble_eq_true rfl⟩ rfl rfl e84 ?_
            refine aw_icmp_ge (tgt := 300) dX12_chain_202 rfl (by first | assumption | (unfold ab_In at *; omega)) (by first | assumption | (unfold ab_In at *; omega)) (fun c_202 => ?_) (fun c_202 => ?_)
            · exfalso; omega
            · refine aw_iload_n dX12_chain_205 rfl ?_
              refine aw_iload dX12_chain_206 rfl ?_
              refine aw_ishr dX12_chain_208 ?_
              refine aw_iconst dX12_chain_209 ?_
              refine aw_iand dX12_chain_210 ?_
              refine aw_to (z := 0) hbm1 ?_
              refine aw_if_ne (tgt := 229) dX12_chain_211 rfl ⟨by decide, by decide⟩ (fun c9 => absurd rfl c9) (fun _ => ?_)
              refine aw_aload_n dX12_chain_214 rfl (by decide) ?_
              refine aw_iload dX12_chain_215 rfl ?_
              refine aw_iload dX12_chain_217 rfl ?_
              refine aw_callV (as := [ab_i (h : Int), ab_i (to : Int)]) (rest := []) dX12_chain_219 (ct_X12_wouldGo G J F hF h s kj to hh8 e100 e101 hs hkj hto (by rw [ew]; unfold ab_In; omega) (by rw [ew]; unfold ab_In; omega)) ⟨Nat.le_of_ble_eq_true rfl, Nat.le_of_ble_eq_true rfl⟩ rfl kc12 rfl kX12_wouldGo iX12_wouldGo eX12_wouldGo lX12_251 rfl (Nat.le_of_ble_eq_true rfl) (by decide) (by decide) (by decide) (by decide) ?_
              rintro r9 _ ⟨e9, rfl⟩
              rw [ew, ew] at e9
              by_cases q01 : I 85 (4 * s + kj) < I 85 (4 * s + to)
              · rw [if_pos q01] at e9
                subst e9
                have hfy := yes (hwt.mpr q01)
                refine aw_if_eq (tgt := 229) dX12_chain_222 rfl ⟨by decide, by decide⟩ (fun c9 => absurd c9 (by decide)) (fun _ => ?_)
                refine aw_iconst dX12_chain_225 ?_
                refine aw_goto (tgt := 230) dX12_chain_226 rfl ?_
                refine aw_istore (ls' := [some (ab_r 84), some (ab_i (k : Int)), some (ab_i b), some (ab_i (m : Int)), some (ab_i (to : Int)), some (ab_i (pre.length : Int)), some (ab_i fd), some (ab_i 1), some (ab_i n1), some (ab_i q1), some (ab_i (h : Int)), some (ab_i 1), none]) dX12_chain_230 (by decide) rfl ?_
                refine aw_iload dX12_chain_232 rfl ?_
                refine aw_if_eq (tgt := 259) dX12_chain_234 rfl ⟨by decide, by decide⟩ (fun c9 => absurd c9 (by decide)) (fun _ => ?_)
                refine aw_iconst dX12_chain_237 ?_
                refine aw_aload_n dX12_chain_238 rfl (by decide) ?_
                refine aw_getrv (r := 104) dX12_chain_239 fX12_68 ⟨Nat.le_of_ble_eq_true rfl, Nat.le_of_ble_eq_true rfl⟩ rfl rfl (hF.at 84 31 104 rfl rfl rfl) ?_
                refine aw_bipush dX12_chain_242 rfl ?_
                refine aw_iload_n dX12_chain_244 rfl ?_
                refine aw_iconst dX12_chain_245 ?_
                refine aw_iload dX12_chain_246 rfl ?_
                refine aw_ishl dX12_chain_248 ?_
                refine aw_ior dX12_chain_249 ?_
                refine aw_to (z := (x2 : Int)) hbm2 ?_
                refine aw_imul dX12_chain_250 ?_
                refine aw_iload dX12_chain_251 rfl ?_
                refine aw_iadd dX12_chain_253 ?_
                refine aw_ialdq (q := (8 * x2 + h)) (v := (y : Int)) dX12_chain_254 ⟨Nat.le_of_ble_eq_true rfl, Nat.le_of_ble_eq_true rfl⟩ rfl (by omega) (by omega) (by decide) (by omega) hD1 ?_
                refine aw_iadd dX12_chain_255 ?_
                refine aw_goto (tgt := 260) dX12_chain_256 rfl ?_
                refine aw_istore (ls' := [some (ab_r 84), some (ab_i (k : Int)), some (ab_i b), some (ab_i (m : Int)), some (ab_i (to : Int)), some (ab_i (pre.length : Int)), some (ab_i fd), some (ab_i 1), some (ab_i n1), some (ab_i q1), some (ab_i (h : Int)), some (ab_i 1), some (ab_i (1 + (y : Int)))]) dX12_chain_260 (by decide) rfl ?_
                refine aw_iload dX12_chain_262 rfl ?_
                refine aw_iload dX12_chain_264 rfl ?_
                refine aw_icmp_le (tgt := 274) dX12_chain_266 rfl (by first | assumption | (unfold ab_In at *; omega)) (by first | assumption | (unfold ab_In at *; omega)) (fun c_266 => ?_) (fun c_266 => ?_)
                · refine aw_iload dX12_chain_274 rfl ?_
                  refine aw_istore (ls' := [some (ab_r 84), some (ab_i (k : Int)), some (ab_i b), some (ab_i (m : Int)), some (ab_i (to : Int)), some (ab_i (pre.length : Int)), some (ab_i fd), some (ab_i 1), some (ab_i n1), some (ab_i q1), some (ab_i (h : Int)), some (ab_i 1), some (ab_i (1 + (y : Int)))]) dX12_chain_276 (by decide) rfl ?_
                  refine aw_iload dX12_chain_278 rfl ?_
                  refine aw_iload dX12_chain_280 rfl ?_
                  refine aw_icmp_le (tgt := 290) dX12_chain_282 rfl (by first | assumption | (unfold ab_In at *; omega)) (by first | assumption | (unfold ab_In at *; omega)) (fun c_282 => ?_) (fun c_282 => ?_)
                  · refine aw_iload dX12_chain_290 rfl ?_
                    refine aw_istore (ls' := [some (ab_r 84), some (ab_i (k : Int)), some (ab_i b), some (ab_i (m : Int)), some (ab_i (to : Int)), some (ab_i (pre.length : Int)), some (ab_i fd), some (ab_i 1), some (ab_i n1), some (ab_i q1), some (ab_i (h : Int)), some (ab_i 1), some (ab_i (1 + (y : Int)))]) dX12_chain_292 (by decide) rfl ?_
                    refine aw_iinc (ls' := [some (ab_r 84), some (ab_i (k : Int)), some (ab_i b), some (ab_i (m : Int)), some (ab_i (to : Int)), some (ab_i (pre.length : Int)), some (ab_i fd), some (ab_i 1), some (ab_i n1), some (ab_i q1), some (ab_i ((h : Int) + 1)), some (ab_i 1), some (ab_i (1 + (y : Int)))]) dX12_chain_294 (by decide) rfl rfl ?_
                    refine aw_goto (tgt := 196) dX12_chain_297 rfl ?_
                    exact aw_le (ab_le_c (ab_le_c (ab_le_c (ab_le_c (ab_le_c (ab_le_c (ab_le_c (ab_le_c (ab_le_c (ab_le_c (ab_le_c (ab_le_n (ab_le_n ab_le_nil))))))))))))) (ihe (h + 1) n1 q1 (by omega) (by first | rw [nxA_0 (by omega)]; exact hn1 | rw [nxA_1 (by omega)]) (by first | (rw [mxp_0 (by omega)]; exact hq1) | (rw [mxp_1 (by omega)]; omega)))
                  · exfalso; omega
                · refine aw_iload dX12_chain_269 rfl ?_
                  refine aw_goto (tgt := 276) dX12_chain_271 rfl ?_
                  refine aw_istore (ls' := [some (ab_r 84), some (ab_i (k : Int)), some (ab_i b), some (ab_i (m : Int)), some (ab_i (to : Int)), some (ab_i (pre.length : Int)), some (ab_i fd), some (ab_i 1), some (ab_i (h : Int)), some (ab_i q1), some (ab_i (h : Int)), some (ab_i 1), some (ab_i (1 + (y : Int)))]) dX12_chain_276 (by decide) rfl ?_
                  refine aw_iload dX12_chain_278 rfl ?_
                  refine aw_iload dX12_chain_280 rfl ?_
                  refine aw_icmp_le (tgt := 290) dX12_chain_282 rfl (by first | assumption | (unfold ab_In at *; omega)) (by first | assumption | (unfold ab_In at *; omega)) (fun c_282 => ?_) (fun c_282 => ?_)
                  · exfalso; omega
                  · refine aw_iload dX12_chain_285 rfl ?_
                    refine aw_goto (tgt := 292) dX12_chain_287 rfl ?_
                    refine aw_istore (ls' := [some (ab_r 84), some (ab_i (k : Int)), some (ab_i b), some (ab_i (m : Int)), some (ab_i (to : Int)), some (ab_i (pre.length : Int)), some (ab_i fd), some (ab_i 1), some (ab_i (h : Int)), some (ab_i (1 + (y : Int))), some (ab_i (h : Int)), some (ab_i 1), some (ab_i (1 + (y : Int)))]) dX12_chain_292 (by decide) rfl ?_
                    refine aw_iinc (ls' := [some (ab_r 84), some (ab_i (k : Int)), some (ab_i b), some (ab_i (m : Int)), some (ab_i (to : Int)), some (ab_i (pre.length : Int)), some (ab_i fd), some (ab_i 1), some (ab_i (h : Int)), some (ab_i (1 + (y : Int))), some (ab_i ((h : Int) + 1)), some (ab_i 1), some (ab_i (1 + (y : Int)))]) dX12_chain_294 (by decide) rfl rfl ?_
                    refine aw_goto (tgt := 196) dX12_chain_297 rfl ?_
                    exact aw_le (ab_le_c (ab_le_c (ab_le_c (ab_le_c (ab_le_c (ab_le_c (ab_le_c (ab_le_c (ab_le_c (ab_le_c (ab_le_c (ab_le_n (ab_le_n ab_le_nil))))))))))))) (ihe (h + 1) (h : Int) (1 + (y : Int)) (by omega) (by first | rw [nxA_0 (by omega)]; exact hn1 | rw [nxA_1 (by omega)]) (by first | (rw [mxp_0 (by omega)]; exact hq1) | (rw [mxp_1 (by omega)]; omega)))
              · rw [if_neg q01] at e9
                subst e9
                have hfy := no (Or.inr (fun q => q01 (hwt.mp q)))
                refine aw_if_eq (tgt := 229) dX12_chain_222 rfl ⟨by decide, by decide⟩ (fun _ => ?_) (fun c9 => absurd (by decide) c9)
                refine aw_iconst dX12_chain_229 ?_
                refine aw_istore (ls' := [some (ab_r 84), some (ab_i (k : Int)), some (ab_i b), some (ab_i (m : Int)), some (ab_i (to : Int)), some (ab_i (pre.length : Int)), some (ab_i fd), some (ab_i 1), some (ab_i n1), some (ab_i q1), some (ab_i (h : Int)), some (ab_i 0), none]) dX12_chain_230 (by decide) rfl ?_
                refine aw_iload dX12_chain_232 rfl ?_
                refine aw_if_eq (tgt := 259) dX12_chain_234 rfl ⟨by decide, by decide⟩ (fun _ => ?_) (fun c9 => absurd (by decide) c9)
                refine aw_iconst dX12_chain_259 ?_
                refine aw_istore (ls' := [some (ab_r 84), some (ab_i (k : Int)), some (ab_i b), some (ab_i (m : Int)), some (ab_i (to : Int)), some (ab_i (pre.length : Int)), some (ab_i fd), some (ab_i 1), some (ab_i n1), some (ab_i q1), some (ab_i (h : Int)), some (ab_i 0), some (ab_i 0)]) dX12_chain_260 (by decide) rfl ?_
                refine aw_iload dX12_chain_262 rfl ?_
                refine aw_iload dX12_chain_264 rfl ?_
                refine aw_icmp_le (tgt := 274) dX12_chain_266 rfl (by first | assumption | (unfold ab_In at *; omega)) (by first | assumption | (unfold ab_In at *; omega)) (fun c_266 => ?_) (fun c_266 => ?_)
                · refine aw_iload dX12_chain_274 rfl ?_
                  refine aw_istore (ls' := [some (ab_r 84), some (ab_i (k : Int)), some (ab_i b), some (ab_i (m : Int)), some (ab_i (to : Int)), some (ab_i (pre.length : Int)), some (ab_i fd), some (ab_i 1), some (ab_i n1), some (ab_i q1), some (ab_i (h : Int)), some (ab_i 0), some (ab_i 0)]) dX12_chain_276 (by decide) rfl ?_
                  refine aw_iload dX12_chain_278 rfl ?_
                  refine aw_iload dX12_chain_280 rfl ?_
                  refine aw_icmp_le (tgt := 290) dX12_chain_282 rfl (by first | assumption | (unfold ab_In at *; omega)) (by first | assumption | (unfold ab_In at *; omega)) (fun c_282 => ?_) (fun c_282 => ?_)
                  · refine aw_iload dX12_chain_290 rfl ?_
                    refine aw_istore (ls' := [some (ab_r 84), some (ab_i (k : Int)), some (ab_i b), some (ab_i (m : Int)), some (ab_i (to : Int)), some (ab_i (pre.length : Int)), some (ab_i fd), some (ab_i 1), some (ab_i n1), some (ab_i q1), some (ab_i (h : Int)), some (ab_i 0), some (ab_i 0)]) dX12_chain_292 (by decide) rfl ?_
                    refine aw_iinc (ls' := [some (ab_r 84), some (ab_i (k : Int)), some (ab_i b), some (ab_i (m : Int)), some (ab_i (to : Int)), some (ab_i (pre.length : Int)), some (ab_i fd), some (ab_i 1), some (ab_i n1), some (ab_i q1), some (ab_i ((h : Int) + 1)), some (ab_i 0), some (ab_i 0)]) dX12_chain_294 (by decide) rfl rfl ?_
                    refine aw_goto (tgt := 196) dX12_chain_297 rfl ?_
                    exact aw_le (ab_le_c (ab_le_c (ab_le_c (ab_le_c (ab_le_c (ab_le_c (ab_le_c (ab_le_c (ab_le_c (ab_le_c (ab_le_c (ab_le_n (ab_le_n ab_le_nil))))))))))))) (ihe (h + 1) n1 q1 (by omega) (by first | rw [nxA_0 (by omega)]; exact hn1 | rw [nxA_1 (by omega)]) (by first | (rw [mxp_0 (by omega)]; exact hq1) | (rw [mxp_1 (by omega)]; omega)))
                  · exfalso; omega
                · exfalso; omega
      refine aw_iload dX12_chain_182 rfl ?_
      refine aw_if_eq (tgt := 355) dX12_chain_184 rfl ⟨by decide, by decide⟩ (fun c9 => absurd c9 (by decide)) (fun _ => ?_)
      refine aw_iconst dX12_chain_187 ?_
      refine aw_istore (ls' := [some (ab_r 84), some (ab_i (k : Int)), some (ab_i b), some (ab_i (m : Int)), some (ab_i (to : Int)), some (ab_i (pre.length : Int)), some (ab_i fd), some (ab_i 1), some (ab_i (-1)), none, none, none, none]) dX12_chain_188 (by decide) rfl ?_
      refine aw_iconst dX12_chain_190 ?_
      refine aw_istore (ls' := [some (ab_r 84), some (ab_i (k : Int)), some (ab_i b), some (ab_i (m : Int)), some (ab_i (to : Int)), some (ab_i (pre.length : Int)), some (ab_i fd), some (ab_i 1), some (ab_i (-1)), some (ab_i 0), none, none, none]) dX12_chain_191 (by decide) rfl ?_
      refine aw_iconst dX12_chain_193 ?_
      refine aw_istore (ls' := [some (ab_r 84), some (ab_i (k : Int)), some (ab_i b), some (ab_i (m : Int)), some (ab_i (to : Int)), some (ab_i (pre.length : Int)), some (ab_i fd), some (ab_i 1), some (ab_i (-1)), some (ab_i 0), some (ab_i 0), none, none]) dX12_chain_194 (by decide) rfl ?_
      exact lp N 0 _ _ (by omega) rfl rfl
    | succ u ihu =>
      intro m to pre J hu hm hto hpc hD hfr hp
      have e84 : J 84 25 = (N : Int) := (hfr 84 25 (by decide)).trans hN
      have hpN := (bit_N ⟨N, by omega⟩ ⟨m, by omega⟩ hm)
      simp only [] at hpN
      have hmx := mx_eq (wg := wgM I) (kd := kdHM I) (k := to) hN8 (show m < 256 by omega)
      have hmb := mx_bd (wg := wgM I) (kd := kdHM I) hN8 to hm
      generalize hfe : fH (wgM I) (kdHM I) N m to = f at hmx
      generalize hfd : fdA pre b = fd
      skip
      have s300 : aW G YX12_chain (ab_rm 2 0 0) Z 0 0 (104, J, F) 300 [some (ab_r 84), some (ab_i (k : Int)), some (ab_i b), some (ab_i (m : Int)), some (ab_i (to : Int)), some (ab_i (pre.length : Int)), some (ab_i fd), some (ab_i 1), some (ab_i (nxA f N)), some (ab_i ((mxp f N : Nat) : Int)), some (ab_i (N : Int)), none, none] [] := by
        have e0 : ¬ mxp f N = 0 := by omega
        have hax := amx_at (f := f) (j := N) (by omega)
        have hpe := path_cons (wg := wgM I) (kd := kdHM I) (k := to) hN8 (show m < 256 by omega) (by rw [hfe]; exact e0)
        rw [hfe] at hpe
        generalize hxe : amx f N = x at hax hpe
        have en : nxA f N = (x : Int) := by unfold nxA; rw [if_neg e0, hxe]
        rw [en]
        have hh8 : x < 8 := by omega
        have hhj := hh x hh8
        obtain ⟨s, hs0⟩ : ∃ s : Nat, I 100 x = (s : Int) := ⟨(I 100 x).toNat, by omega⟩
        obtain ⟨kj, hk0⟩ : ∃ kj : Nat, I 101 x = (kj : Int) := ⟨(I 101 x).toNat, by omega⟩
        have hs : s < 4 := by omega
        have hkj : kj < 4 := by omega
        have ekd : kdHM I x = kj := by unfold kdHM; rw [if_pos hh8]; omega
        have e100 : J 100 x = (s : Int) := (hfr 100 x (by decide)).trans hs0
        have e101 : J 101 x = (kj : Int) := (hfr 101 x (by decide)).trans hk0
        have ew : ∀ b, J 85 b = I 85 b := fun b => hfr 85 b (by decide)
        have hfm := fH_mx (wg := wgM I) (kd := kdHM I) (N := N) (m := m) (k := to) (h := x) (by rw [hfe]; omega)
        rw [hfe] at hfm
        have hbm := bit_m ⟨m, by omega⟩ ⟨x, hh8⟩
        simp only [] at hbm
        have hor := bit_or ⟨m, by omega⟩ ⟨x, hh8⟩ hfm.2.1
        simp only [] at hor
        have horN := hpN.2 ⟨x, hh8⟩ (by show x < N; omega)
        simp only [] at horN
        rw [ekd] at hfm hpe
        obtain ⟨x2, hx2⟩ : ∃ x2, m ||| 2 ^ x = x2 := ⟨_, rfl⟩
        rw [hx2] at hbm hor horN hfm hpe
        have hax1 := hax.1
        have hbm2 := hbm.2
        refine aw_iload dX12_chain_300 rfl ?_
        refine aw_iconst dX12_chain_302 ?_
        refine aw_icmp_eq (tgt := 310) dX12_chain_303 rfl (by first | assumption | (unfold ab_In at *; omega)) (by first | assumption | (unfold ab_In at *; omega)) (fun c_303 => ?_) (fun c_303 => ?_)
        · exfalso; omega
        · refine aw_iconst dX12_chain_306 ?_
          refine aw_goto (tgt := 311) dX12_chain_307 rfl ?_
          refine aw_istore (ls' := [some (ab_r 84), some (ab_i (k : Int)), some (ab_i b), some (ab_i (m : Int)), some (ab_i (to : Int)), some (ab_i (pre.length : Int)), some (ab_i fd), some (ab_i 1), some (ab_i (x : Int)), some (ab_i ((mxp f N : Nat) : Int)), some (ab_i (N : Int)), none, none]) dX12_chain_311 (by decide) rfl ?_
          refine aw_iload dX12_chain_313 rfl ?_
          refine aw_if_eq (tgt := 352) dX12_chain_315 rfl ⟨by decide, by decide⟩ (fun c9 => absurd c9 (by decide)) (fun _ => ?_)
          refine aw_iload dX12_chain_318 rfl ?_
          refine aw_iload_n dX12_chain_320 rfl ?_
          refine aw_icmp_ne (tgt := 329) dX12_chain_321 rfl (by first | assumption | (unfold ab_In at *; omega)) (by first | assumption | (unfold ab_In at *; omega)) (fun c_321 => ?_) (fun c_321 => ?_)
          · refine aw_iload dX12_chain_329 rfl ?_
            refine aw_istore (ls' := [some (ab_r 84), some (ab_i (k : Int)), some (ab_i b), some (ab_i (m : Int)), some (ab_i (to : Int)), some (ab_i (pre.length : Int)), some (ab_i fd), some (ab_i 1), some (ab_i (x : Int)), some (ab_i ((mxp f N : Nat) : Int)), some (ab_i (N : Int)), none, none]) dX12_chain_331 (by decide) rfl ?_
            refine aw_iinc (ls' := [some (ab_r 84), some (ab_i (k : Int)), some (ab_i b), some (ab_i (m : Int)), some (ab_i (to : Int)), some (ab_i ((pre.length : Int) + 1)), some (ab_i fd), some (ab_i 1), some (ab_i (x : Int)), some (ab_i ((mxp f N : Nat) : Int)), some (ab_i (N : Int)), none, none]) dX12_chain_333 (by decide) rfl rfl ?_
            refine aw_iload_n dX12_chain_336 rfl ?_
            refine aw_iconst dX12_chain_337 ?_
            refine aw_iload dX12_chain_338 rfl ?_
            refine aw_ishl dX12_chain_340 ?_
            refine aw_ior dX12_chain_341 ?_
            refine aw_to (z := (x2 : Int)) hbm2 ?_
            refine aw_istore_n (ls' := [some (ab_r 84), some (ab_i (k : Int)), some (ab_i b), some (ab_i (x2 : Int)), some (ab_i (to : Int)), some (ab_i ((pre.length : Int) + 1)), some (ab_i fd), some (ab_i 1), some (ab_i (x : Int)), some (ab_i ((mxp f N : Nat) : Int)), some (ab_i (N : Int)), none, none]) dX12_chain_342 (by decide) rfl ?_
            refine aw_aload_n dX12_chain_343 rfl (by decide) ?_
            refine aw_getrv (r := 101) dX12_chain_344 fX12_59 ⟨Nat.le_of_ble_eq_true rfl, Nat.le_of_ble_eq_true rfl⟩ rfl rfl (hF.at 84 27 101 rfl rfl rfl) ?_
            refine aw_iload dX12_chain_347 rfl ?_
            refine aw_ialdq (q := x) (v := (kj : Int)) dX12_chain_349 ⟨Nat.le_of_ble_eq_true rfl, Nat.le_of_ble_eq_true rfl⟩ rfl (by omega) (by omega) (by decide) rfl e101 ?_
            refine aw_istore (ls' := [some (ab_r 84), some (ab_i (k : Int)), some (ab_i b), some (ab_i (x2 : Int)), some (ab_i (kj : Int)), some (ab_i ((pre.length : Int) + 1)), some (ab_i fd), some (ab_i 1), some (ab_i (x : Int)), some (ab_i ((mxp f N : Nat) : Int)), some (ab_i (N : Int)), none, none]) dX12_chain_350 (by decide) rfl ?_
            refine aw_goto (tgt := 182) dX12_chain_352 rfl ?_
            have h9 := ihu x2 kj (pre ++ [x]) J (by omega) horN hkj (by simp; omega) hD hfr (by rw [← hp, hpe]; simp)
            have el : ((pre ++ [x]).length : Int) = (pre.length : Int) + 1 := by simp
            have ef : fdA (pre ++ [x]) b = fd := by rw [fdA_app]; first | rw [if_pos (by omega)] | (rw [if_neg (by omega)]; exact hfd)
            rw [el, ef] at h9
            exact aw_le (ab_le_c (ab_le_c (ab_le_c (ab_le_c (ab_le_c (ab_le_c (ab_le_c (ab_le_c (ab_le_n (ab_le_n (ab_le_n (ab_le_c (ab_le_c ab_le_nil))))))))))))) h9
          · refine aw_iload dX12_chain_324 rfl ?_
            refine aw_goto (tgt := 331) dX12_chain_326 rfl ?_
            refine aw_istore (ls' := [some (ab_r 84), some (ab_i (k : Int)), some (ab_i b), some (ab_i (m : Int)), some (ab_i (to : Int)), some (ab_i (pre.length : Int)), some (ab_i (x : Int)), some (ab_i 1), some (ab_i (x : Int)), some (ab_i ((mxp f N : Nat) : Int)), some (ab_i (N : Int)), none, none]) dX12_chain_331 (by decide) rfl ?_
            refine aw_iinc (ls' := [some (ab_r 84), some (ab_i (k : Int)), some (ab_i b), some (ab_i (m : Int)), some (ab_i (to : Int)), some (ab_i ((pre.length : Int) + 1)), some (ab_i (x : Int)), some (ab_i 1), some (ab_i (x : Int)), some (ab_i ((mxp f N : Nat) : Int)), some (ab_i (N : Int)), none, none]) dX12_chain_333 (by decide) rfl rfl ?_
            refine aw_iload_n dX12_chain_336 rfl ?_
            refine aw_iconst dX12_chain_337 ?_
            refine aw_iload dX12_chain_338 rfl ?_
            refine aw_ishl dX12_chain_340 ?_
            refine aw_ior dX12_chain_341 ?_
            refine aw_to (z := (x2 : Int)) hbm2 ?_
            refine aw_istore_n (ls' := [some (ab_r 84), some (ab_i (k : Int)), some (ab_i b), some (ab_i (x2 : Int)), some (ab_i (to : Int)), some (ab_i ((pre.length : Int) + 1)), some (ab_i (x : Int)), some (ab_i 1), some (ab_i (x : Int)), some (ab_i ((mxp f N : Nat) : Int)), some (ab_i (N : Int)), none, none]) dX12_chain_342 (by decide) rfl ?_
            refine aw_aload_n dX12_chain_343 rfl (by decide) ?_
            refine aw_getrv (r := 101) dX12_chain_344 fX12_59 ⟨Nat.le_of_ble_eq_true rfl, Nat.le_of_ble_eq_true rfl⟩ rfl rfl (hF.at 84 27 101 rfl rfl rfl) ?_
            refine aw_iload dX12_chain_347 rfl ?_
            refine aw_ialdq (q := x) (v := (kj : Int)) dX12_chain_349 ⟨Nat.le_of_ble_eq_true rfl, Nat.le_of_ble_eq_true rfl⟩ rfl (by omega) (by omega) (by decide) rfl e101 ?_
            refine aw_istore (ls' := [some (ab_r 84), some (ab_i (k : Int)), some (ab_i b), some (ab_i (x2 : Int)), some (ab_i (kj : Int)), some (ab_i ((pre.length : Int) + 1)), some (ab_i (x : Int)), some (ab_i 1), some (ab_i (x : Int)), some (ab_i ((mxp f N : Nat) : Int)), some (ab_i (N : Int)), none, none]) dX12_chain_350 (by decide) rfl ?_
            refine aw_goto (tgt := 182) dX12_chain_352 rfl ?_
            have h9 := ihu x2 kj (pre ++ [x]) J (by omega) horN hkj (by simp; omega) hD hfr (by rw [← hp, hpe]; simp)
            have el : ((pre ++ [x]).length : Int) = (pre.length : Int) + 1 := by simp
            have ef : fdA (pre ++ [x]) b = (x : Int) := by rw [fdA_app]; first | rw [if_pos (by omega)] | (rw [if_neg (by omega)]; exact hfd)
            rw [el, ef] at h9
            exact aw_le (ab_le_c (ab_le_c (ab_le_c (ab_le_c (ab_le_c (ab_le_c (ab_le_c (ab_le_c (ab_le_n (ab_le_n (ab_le_n (ab_le_c (ab_le_c ab_le_nil))))))))))))) h9
      have lp : ∀ (e h : Nat) (n1 q1 : Int), h + e = N → n1 = nxA f h → q1 = ((mxp f h : Nat) : Int) → aW G YX12_chain (ab_rm 2 0 0) Z 0 0 (104, J, F) 196 [some (ab_r 84), some (ab_i (k : Int)), some (ab_i b), some (ab_i (m : Int)), some (ab_i (to : Int)), some (ab_i (pre.length : Int)), some (ab_i fd), some (ab_i 1), some (ab_i n1), some (ab_i q1), some (ab_i (h : Int)), none, none] [] := by
        intro e
        induction e with
        | zero =>
          intro h n1 q1 he hn1 hq1
          have hNe : h = N := by omega
          subst hNe
          subst hn1
          subst hq1
          refine aw_iload dX12_chain_196 rfl ?_
          refine aw_aload_n dX12_chain_198 rfl (by decide) ?_
          refine aw_getiv (v := (h : Int)) dX12_chain_199 fX12_238 ⟨Nat.le_of_ble_eq_true rfl, Nat.le_of_ble_eq_true rfl⟩ rfl rfl e84 ?_
          refine aw_icmp_ge (tgt := 300) dX12_chain_202 rfl (by first | assumption | (unfold ab_In at *; omega)) (by first | assumption | (unfold ab_In at *; omega)) (fun c_202 => ?_) (fun c_202 => ?_)
          · exact s300
          · exfalso; omega
        | succ e ihe =>
          intro h n1 q1 he hn1 hq1
          have hq8 : mxp f h ≤ 8 := by
            have h1 : mxp f h ≤ mxp f N := mxp_le (fun h9 hh9 => mxp_ge (by omega))
            omega
          have hh8 : h < 8 := by omega
          have hhj := hh h hh8
          obtain ⟨s, hs0⟩ : ∃ s : Nat, I 100 h = (s : Int) := ⟨(I 100 h).toNat, by omega⟩
          obtain ⟨kj, hk0⟩ : ∃ kj : Nat, I 101 h = (kj : Int) := ⟨(I 101 h).toNat, by omega⟩
          have hs : s < 4 := by omega
          have hkj : kj < 4 := by omega
          have ekd : kdHM I h = kj := by unfold kdHM; rw [if_pos hh8]; omega
          have e100 : J 100 h = (s : Int) := (hfr 100 h (by decide)).trans hs0
          have e101 : J 101 h = (kj : Int) := (hfr 101 h (by decide)).trans hk0
          have ew : ∀ b, J 85 b = I 85 b := fun b => hfr 85 b (by decide)
          have hwt := wgM_true (I := I) hh8 hto hs0 hk0
          have hw1 := hw s to hs hto
          have hw2 := hw s kj hs hkj
          have hbm := bit_m ⟨m, by omega⟩ ⟨h, hh8⟩
          simp only [] at hbm
          have hbm1 := hbm.1
          have no : (m.testBit h = true ∨ ¬ wgM I h to = true) → f h = 0 := fun hx => by rw [← hfe]; exact fH_no hx
          by_cases hbt : m.testBit h = true
          · rw [if_pos hbt] at hbm1
            have hf0 := no (Or.inl hbt)
            refine aw_iload dX12_chain_196 rfl ?_
            refine aw_aload_n dX12_chain_198 rfl (by decide) ?_
            refine aw_getiv (v := (N : Int)) dX12_chain_199 fX12_238 ⟨Nat.le_of_ble_eq_true rfl, Nat.le_of_ble_eq_true rfl⟩ rfl rfl e84 ?_
            refine aw_icmp_ge (tgt := 300) dX12_chain_202 rfl (by first | assumption | (unfold ab_In at *; omega)) (by first | assumption | (unfold ab_In at *; omega)) (fun c_202 => ?_) (fun c_202 => ?_)
            · exfalso; omega
            · refine aw_iload_n dX12_chain_205 rfl ?_
              refine aw_iload dX12_chain_206 rfl ?_
              refine aw_ishr dX12_chain_208 ?_
              refine aw_iconst dX12_chain_209 ?_
              refine aw_iand dX12_chain_210 ?_
              refine aw_to (z := 1) hbm1 ?_
              refine aw_if_ne (tgt := 229) dX12_chain_211 rfl ⟨by decide, by decide⟩ (fun _ => ?_) (fun c9 => absurd c9 (by decide))
              refine aw_iconst dX12_chain_229 ?_
              refine aw_istore (ls' := [some (ab_r 84), some (ab_i (k : Int)), some (ab_i b), some (ab_i (m : Int)), some (ab_i (to : Int)), some (ab_i (pre.length : Int)), some (ab_i fd), some (ab_i 1), some (ab_i n1), some (ab_i q1), some (ab_i (h : Int)), some (ab_i 0), none]) dX12_chain_230 (by decide) rfl ?_
              refine aw_iload dX12_chain_232 rfl ?_
              refine aw_if_eq (tgt := 259) dX12_chain_234 rfl ⟨by decide, by decide⟩ (fun _ => ?_) (fun c9 => absurd (by decide) c9)
              refine aw_iconst dX12_chain_259 ?_
              refine aw_istore (ls' := [some (ab_r 84), some (ab_i (k : Int)), some (ab_i b), some (ab_i (m : Int)), some (ab_i (to : Int)), some (ab_i (pre.length : Int)), some (ab_i fd), some (ab_i 1), some (ab_i n1), some (ab_i q1), some (ab_i (h : Int)), some (ab_i 0), some (ab_i 0)]) dX12_chain_260 (by decide) rfl ?_
              refine aw_iload dX12_chain_262 rfl ?_
              refine aw_iload dX12_chain_264 rfl ?_
              refine aw_icmp_le (tgt := 274) dX12_chain_266 rfl (by first | assumption | (unfold ab_In at *; omega)) (by first | assumption | (unfold ab_In at *; omega)) (fun c_266 => ?_) (fun c_266 => ?_)
              · refine aw_iload dX12_chain_274 rfl ?_
                refine aw_istore (ls' := [some (ab_r 84), some (ab_i (k : Int)), some (ab_i b), some (ab_i (m : Int)), some (ab_i (to : Int)), some (ab_i (pre.length : Int)), some (ab_i fd), some (ab_i 1), some (ab_i n1), some (ab_i q1), some (ab_i (h : Int)), some (ab_i 0), some (ab_i 0)]) dX12_chain_276 (by decide) rfl ?_
                refine aw_iload dX12_chain_278 rfl ?_
                refine aw_iload dX12_chain_280 rfl ?_
                refine aw_icmp_le (tgt := 290) dX12_chain_282 rfl (by first | assumption | (unfold ab_In at *; omega)) (by first | assumption | (unfold ab_In at *; omega)) (fun c_282 => ?_) (fun c_282 => ?_)
                · refine aw_iload dX12_chain_290 rfl ?_
                  refine aw_istore (ls' := [some (ab_r 84), some (ab_i (k : Int)), some (ab_i b), some (ab_i (m : Int)), some (ab_i (to : Int)), some (ab_i (pre.length : Int)), some (ab_i fd), some (ab_i 1), some (ab_i n1), some (ab_i q1), some (ab_i (h : Int)), some (ab_i 0), some (ab_i 0)]) dX12_chain_292 (by decide) rfl ?_
                  refine aw_iinc (ls' := [some (ab_r 84), some (ab_i (k : Int)), some (ab_i b), some (ab_i (m : Int)), some (ab_i (to : Int)), some (ab_i (pre.length : Int)), some (ab_i fd), some (ab_i 1), some (ab_i n1), some (ab_i q1), some (ab_i ((h : Int) + 1)), some (ab_i 0), some (ab_i 0)]) dX12_chain_294 (by decide) rfl rfl ?_
                  refine aw_goto (tgt := 196) dX12_chain_297 rfl ?_
                  exact aw_le (ab_le_c (ab_le_c (ab_le_c (ab_le_c (ab_le_c (ab_le_c (ab_le_c (ab_le_c (ab_le_c (ab_le_c (ab_le_c (ab_le_n (ab_le_n ab_le_nil))))))))))))) (ihe (h + 1) n1 q1 (by omega) (by first | rw [nxA_0 (by omega)]; exact hn1 | rw [nxA_1 (by omega)]) (by first | (rw [mxp_0 (by omega)]; exact hq1) | (rw [mxp_1 (by omega)]; omega)))
                · exfalso; omega
              · exfalso; omega
          · rw [if_neg hbt] at hbm1
            have hbf : m.testBit h = false := by simpa using hbt
            have hor := bit_or ⟨m, by omega⟩ ⟨h, hh8⟩ hbf
            simp only [] at hor
            have horN := hpN.2 ⟨h, hh8⟩ (by show h < N; omega)
            simp only [] at horN
            have hbm2 := hbm.2
            have yes := fun hx => fH_yes (wg := wgM I) (kd := kdHM I) (N := N) (k := to) hbf hx
            rw [hfe, ekd] at yes
            obtain ⟨x2, hx2⟩ : ∃ x2, m ||| 2 ^ h = x2 := ⟨_, rfl⟩
            rw [hx2] at hbm2 hor horN yes
            have hD1 := hD x2 h (by omega) horN (by omega)
            rw [ekd] at hD1
            have hmb2 := mx_bd (wg := wgM I) (kd := kdHM I) hN8 kj horN
            generalize mx (wgM I) (kdHM I) N x2 kj = y at hD1 yes hmb2
            refine aw_iload dX12_chain_196 rfl ?_
            refine aw_aload_n dX12_chain_198 rfl (by decide) ?_
            refine aw_getiv (v := (N : Int)) dX12_chain_199 fX12_238 ⟨Nat.le_of_ble_eq_true rfl, Nat.le_of_ble_eq_true rfl⟩ rfl rfl e84 ?_
            refine aw_icmp_ge (tgt := 300) dX12_chain_202 rfl (by first | assumption | (unfold ab_In at *; omega)) (by first | assumption | (unfold ab_In at *; omega)) (fun c_202 => ?_) (fun c_202 => ?_)
            · exfalso; omega
            · refine aw_iload_n dX12_chain_205 rfl ?_
              refine aw_iload dX12_chain_206 rfl ?_
              refine aw_ishr dX12_chain_208 ?_
              refine aw_iconst dX12_chain_209 ?_
              refine aw_iand dX12_chain_210 ?_
              refine aw_to (z := 0) hbm1 ?_
              refine aw_if_ne (tgt := 229) dX12_chain_211 rfl ⟨by decide, by decide⟩ (fun c9 => absurd rfl c9) (fun _ => ?_)
              refine aw_aload_n dX12_chain_214 rfl (by decide) ?_
              refine aw_iload dX12_chain_215 rfl ?_
              refine aw_iload dX12_chain_217 rfl ?_
              refine aw_callV (as := [ab_i (h : Int), ab_i (to : Int)]) (rest := []) dX12_chain_219 (ct_X12_wouldGo G J F hF h s kj to hh8 e100 e101 hs hkj hto (by rw [ew]; unfold ab_In; omega) (by rw [ew]; unfold ab_In; omega)) ⟨Nat.le_of_ble_eq_true rfl, Nat.le_of_ble_eq_true rfl⟩ rfl kc12 rfl kX12_wouldGo iX12_wouldGo eX12_wouldGo lX12_251 rfl (Nat.le_of_ble_eq_true rfl) (by decide) (by decide) (by decide) (by decide) ?_
              rintro r9 _ ⟨e9, rfl⟩
              rw [ew, ew] at e9
              by_cases q01 : I 85 (4 * s + kj) < I 85 (4 * s + to)
              · rw [if_pos q01] at e9
                subst e9
                have hfy := yes (hwt.mpr q01)
                refine aw_if_eq (tgt := 229) dX12_chain_222 rfl ⟨by decide, by decide⟩ (fun c9 => absurd c9 (by decide)) (fun _ => ?_)
                refine aw_iconst dX12_chain_225 ?_
                refine aw_goto (tgt := 230) dX12_chain_226 rfl ?_
                refine aw_istore (ls' := [some (ab_r 84), some (ab_i (k : Int)), some (ab_i b), some (ab_i (m : Int)), some (ab_i (to : Int)), some (ab_i (pre.length : Int)), some (ab_i fd), some (ab_i 1), some (ab_i n1), some (ab_i q1), some (ab_i (h : Int)), some (ab_i 1), none]) dX12_chain_230 (by decide) rfl ?_
                refine aw_iload dX12_chain_232 rfl ?_
                refine aw_if_eq (tgt := 259) dX12_chain_234 rfl ⟨by decide, by decide⟩ (fun c9 => absurd c9 (by decide)) (fun _ => ?_)
                refine aw_iconst dX12_chain_237 ?_
                refine aw_aload_n dX12_chain_238 rfl (by decide) ?_
                refine aw_getrv (r := 104) dX12_chain_239 fX12_68 ⟨Nat.le_of_ble_eq_true rfl, Nat.le_of_ble_eq_true rfl⟩ rfl rfl (hF.at 84 31 104 rfl rfl rfl) ?_
                refine aw_bipush dX12_chain_242 rfl ?_
                refine aw_iload_n dX12_chain_244 rfl ?_
                refine aw_iconst dX12_chain_245 ?_
                refine aw_iload dX12_chain_246 rfl ?_
                refine aw_ishl dX12_chain_248 ?_
                refine aw_ior dX12_chain_249 ?_
                refine aw_to (z := (x2 : Int)) hbm2 ?_
                refine aw_imul dX12_chain_250 ?_
                refine aw_iload dX12_chain_251 rfl ?_
                refine aw_iadd dX12_chain_253 ?_
                refine aw_ialdq (q := (8 * x2 + h)) (v := (y : Int)) dX12_chain_254 ⟨Nat.le_of_ble_eq_true rfl, Nat.le_of_ble_eq_true rfl⟩ rfl (by omega) (by omega) (by decide) (by omega) hD1 ?_
                refine aw_iadd dX12_chain_255 ?_
                refine aw_goto (tgt := 260) dX12_chain_256 rfl ?_
                refine aw_istore (ls' := [some (ab_r 84), some (ab_i (k : Int)), some (ab_i b), some (ab_i (m : Int)), some (ab_i (to : Int)), some (ab_i (pre.length : Int)), some (ab_i fd), some (ab_i 1), some (ab_i n1), some (ab_i q1), some (ab_i (h : Int)), some (ab_i 1), some (ab_i (1 + (y : Int)))]) dX12_chain_260 (by decide) rfl ?_
                refine aw_iload dX12_chain_262 rfl ?_
                refine aw_iload dX12_chain_264 rfl ?_
                refine aw_icmp_le (tgt := 274) dX12_chain_266 rfl (by first | assumption | (unfold ab_In at *; omega)) (by first | assumption | (unfold ab_In at *; omega)) (fun c_266 => ?_) (fun c_266 => ?_)
                · refine aw_iload dX12_chain_274 rfl ?_
                  refine aw_istore (ls' := [some (ab_r 84), some (ab_i (k : Int)), some (ab_i b), some (ab_i (m : Int)), some (ab_i (to : Int)), some (ab_i (pre.length : Int)), some (ab_i fd), some (ab_i 1), some (ab_i n1), some (ab_i q1), some (ab_i (h : Int)), some (ab_i 1), some (ab_i (1 + (y : Int)))]) dX12_chain_276 (by decide) rfl ?_
                  refine aw_iload dX12_chain_278 rfl ?_
                  refine aw_iload dX12_chain_280 rfl ?_
                  refine aw_icmp_le (tgt := 290) dX12_chain_282 rfl (by first | assumption | (unfold ab_In at *; omega)) (by first | assumption | (unfold ab_In at *; omega)) (fun c_282 => ?_) (fun c_282 => ?_)
                  · refine aw_iload dX12_chain_290 rfl ?_
                    refine aw_istore (ls' := [some (ab_r 84), some (ab_i (k : Int)), some (ab_i b), some (ab_i (m : Int)), some (ab_i (to : Int)), some (ab_i (pre.length : Int)), some (ab_i fd), some (ab_i 1), some (ab_i n1), some (ab_i q1), some (ab_i (h : Int)), some (ab_i 1), some (ab_i (1 + (y : Int)))]) dX12_chain_292 (by decide) rfl ?_
                    refine aw_iinc (ls' := [some (ab_r 84), some (ab_i (k : Int)), some (ab_i b), some (ab_i (m : Int)), some (ab_i (to : Int)), some (ab_i (pre.length : Int)), some (ab_i fd), some (ab_i 1), some (ab_i n1), some (ab_i q1), some (ab_i ((h : Int) + 1)), some (ab_i 1), some (ab_i (1 + (y : Int)))]) dX12_chain_294 (by decide) rfl rfl ?_
                    refine aw_goto (tgt := 196) dX12_chain_297 rfl ?_
                    exact aw_le (ab_le_c (ab_le_c (ab_le_c (ab_le_c (ab_le_c (ab_le_c (ab_le_c (ab_le_c (ab_le_c (ab_le_c (ab_le_c (ab_le_n (ab_le_n ab_le_nil))))))))))))) (ihe (h + 1) n1 q1 (by omega) (by first | rw [nxA_0 (by omega)]; exact hn1 | rw [nxA_1 (by omega)]) (by first | (rw [mxp_0 (by omega)]; exact hq1) | (rw [mxp_1 (by omega)]; omega)))
                  · exfalso; omega
                · refine aw_iload dX12_chain_269 rfl ?_
                  refine aw_goto (tgt := 276) dX12_chain_271 rfl ?_
                  refine aw_istore (ls' := [some (ab_r 84), some (ab_i (k : Int)), some (ab_i b), some (ab_i (m : Int)), some (ab_i (to : Int)), some (ab_i (pre.length : Int)), some (ab_i fd), some (ab_i 1), some (ab_i (h : Int)), some (ab_i q1), some (ab_i (h : Int)), some (ab_i 1), some (ab_i (1 + (y : Int)))]) dX12_chain_276 (by decide) rfl ?_
                  refine aw_iload dX12_chain_278 rfl ?_
                  refine aw_iload dX12_chain_280 rfl ?_
                  refine aw_icmp_le (tgt := 290) dX12_chain_282 rfl (by first | assumption | (unfold ab_In at *; omega)) (by first | assumption | (unfold ab_In at *; omega)) (fun c_282 => ?_) (fun c_282 => ?_)
                  · exfalso; omega
                  · refine aw_iload dX12_chain_285 rfl ?_
                    refine aw_goto (tgt := 292) dX12_chain_287 rfl ?_
                    refine aw_istore (ls' := [some (ab_r 84), some (ab_i (k : Int)), some (ab_i b), some (ab_i (m : Int)), some (ab_i (to : Int)), some (ab_i (pre.length : Int)), some (ab_i fd), some (ab_i 1), some (ab_i (h : Int)), some (ab_i (1 + (y : Int))), some (ab_i (h : Int)), some (ab_i 1), some (ab_i (1 + (y : Int)))]) dX12_chain_292 (by decide) rfl ?_
                    refine aw_iinc (ls' := [some (ab_r 84), some (ab_i (k : Int)), some (ab_i b), some (ab_i (m : Int)), some (ab_i (to : Int)), some (ab_i (pre.length : Int)), some (ab_i fd), some (ab_i 1), some (ab_i (h : Int)), some (ab_i (1 + (y : Int))), some (ab_i ((h : Int) + 1)), some (ab_i 1), some (ab_i (1 + (y : Int)))]) dX12_chain_294 (by decide) rfl rfl ?_
                    refine aw_goto (tgt := 196) dX12_chain_297 rfl ?_
                    exact aw_le (ab_le_c (ab_le_c (ab_le_c (ab_le_c (ab_le_c (ab_le_c (ab_le_c (ab_le_c (ab_le_c (ab_le_c (ab_le_c (ab_le_n (ab_le_n ab_le_nil))))))))))))) (ihe (h + 1) (h : Int) (1 + (y : Int)) (by omega) (by first | rw [nxA_0 (by omega)]; exact hn1 | rw [nxA_1 (by omega)]) (by first | (rw [mxp_0 (by omega)]; exact hq1) | (rw [mxp_1 (by omega)]; omega)))
              · rw [if_neg q01] at e9
                subst e9
                have hfy := no (Or.inr (fun q => q01 (hwt.mp q)))
                refine aw_if_eq (tgt := 229) dX12_chain_222 rfl ⟨by decide, by decide⟩ (fun _ => ?_) (fun c9 => absurd (by decide) c9)
                refine aw_iconst dX12_chain_229 ?_
                refine aw_istore (ls' := [some (ab_r 84), some (ab_i (k : Int)), some (ab_i b), some (ab_i (m : Int)), some (ab_i (to : Int)), some (ab_i (pre.length : Int)), some (ab_i fd), some (ab_i 1), some (ab_i n1), some (ab_i q1), some (ab_i (h : Int)), some (ab_i 0), none]) dX12_chain_230 (by decide) rfl ?_
                refine aw_iload dX12_chain_232 rfl ?_
                refine aw_if_eq (tgt := 259) dX12_chain_234 rfl ⟨by decide, by decide⟩ (fun _ => ?_) (fun c9 => absurd (by decide) c9)
                refine aw_iconst dX12_chain_259 ?_
                refine aw_istore (ls' := [some (ab_r 84), some (ab_i (k : Int)), some (ab_i b), some (ab_i (m : Int)), some (ab_i (to : Int)), some (ab_i (pre.length : Int)), some (ab_i fd), some (ab_i 1), some (ab_i n1), some (ab_i q1), some (ab_i (h : Int)), some (ab_i 0), some (ab_i 0)]) dX12_chain_260 (by decide) rfl ?_
                refine aw_iload dX12_chain_262 rfl ?_
                refine aw_iload dX12_chain_264 rfl ?_
                refine aw_icmp_le (tgt := 274) dX12_chain_266 rfl (by first | assumption | (unfold ab_In at *; omega)) (by first | assumption | (unfold ab_In at *; omega)) (fun c_266 => ?_) (fun c_266 => ?_)
                · refine aw_iload dX12_chain_274 rfl ?_
                  refine aw_istore (ls' := [some (ab_r 84), some (ab_i (k : Int)), some (ab_i b), some (ab_i (m : Int)), some (ab_i (to : Int)), some (ab_i (pre.length : Int)), some (ab_i fd), some (ab_i 1), some (ab_i n1), some (ab_i q1), some (ab_i (h : Int)), some (ab_i 0), some (ab_i 0)]) dX12_chain_276 (by decide) rfl ?_
                  refine aw_iload dX12_chain_278 rfl ?_
                  refine aw_iload dX12_chain_280 rfl ?_
                  refine aw_icmp_le (tgt := 290) dX12_chain_282 rfl (by first | assumption | (unfold ab_In at *; omega)) (by first | assumption | (unfold ab_In at *; omega)) (fun c_282 => ?_) (fun c_282 => ?_)
                  · refine aw_iload dX12_chain_290 rfl ?_
                    refine aw_istore (ls' := [some (ab_r 84), some (ab_i (k : Int)), some (ab_i b), some (ab_i (m : Int)), some (ab_i (to : Int)), some (ab_i (pre.length : Int)), some (ab_i fd), some (ab_i 1), some (ab_i n1), some (ab_i q1), some (ab_i (h : Int)), some (ab_i 0), some (ab_i 0)]) dX12_chain_292 (by decide) rfl ?_
                    refine aw_iinc (ls' := [some (ab_r 84), some (ab_i (k : Int)), some (ab_i b), some (ab_i (m : Int)), some (ab_i (to : Int)), some (ab_i (pre.length : Int)), some (ab_i fd), some (ab_i 1), some (ab_i n1), some (ab_i q1), some (ab_i ((h : Int) + 1)), some (ab_i 0), some (ab_i 0)]) dX12_chain_294 (by decide) rfl rfl ?_
                    refine aw_goto (tgt := 196) dX12_chain_297 rfl ?_
                    exact aw_le (ab_le_c (ab_le_c (ab_le_c (ab_le_c (ab_le_c (ab_le_c (ab_le_c (ab_le_c (ab_le_c (ab_le_c (ab_le_c (ab_le_n (ab_le_n ab_le_nil))))))))))))) (ihe (h + 1) n1 q1 (by omega) (by first | rw [nxA_0 (by omega)]; exact hn1 | rw [nxA_1 (by omega)]) (by first | (rw [mxp_0 (by omega)]; exact hq1) | (rw [mxp_1 (by omega)]; omega)))
                  · exfalso; omega
                · exfalso; omega
      refine aw_iload dX12_chain_182 rfl ?_
      refine aw_if_eq (tgt := 355) dX12_chain_184 rfl ⟨by decide, by decide⟩ (fun c9 => absurd c9 (by decide)) (fun _ => ?_)
      refine aw_iconst dX12_chain_187 ?_
      refine aw_istore (ls' := [some (ab_r 84), some (ab_i (k : Int)), some (ab_i b), some (ab_i (m : Int)), some (ab_i (to : Int)), some (ab_i (pre.length : Int)), some (ab_i fd), some (ab_i 1), some (ab_i (-1)), none, none, none, none]) dX12_chain_188 (by decide) rfl ?_
      refine aw_iconst dX12_chain_190 ?_
      refine aw_istore (ls' := [some (ab_r 84), some (ab_i (k : Int)), some (ab_i b), some (ab_i (m : Int)), some (ab_i (to : Int)), some (ab_i (pre.length : Int)), some (ab_i fd), some (ab_i 1), some (ab_i (-1)), some (ab_i 0), none, none, none]) dX12_chain_191 (by decide) rfl ?_
      refine aw_iconst dX12_chain_193 ?_
      refine aw_istore (ls' := [some (ab_r 84), some (ab_i (k : Int)), some (ab_i b), some (ab_i (m : Int)), some (ab_i (to : Int)), some (ab_i (pre.length : Int)), some (ab_i fd), some (ab_i 1), some (ab_i (-1)), some (ab_i 0), some (ab_i 0), none, none]) dX12_chain_194 (by decide) rfl ?_
      exact lp N 0 _ _ (by omega) rfl rfl
  have ph1 : ∀ (u x : Nat) (J : Nat → Nat → Int), x = u → x < 2 ^ N → DPI (wgM I) (kdHM I) N x (J 104) → (∀ i b, i ≠ 104 → J i b = I i b) → aW G YX12_chain (ab_rm 2 0 0) Z 0 0 (104, J, F) 27 [some (ab_r 84), some (ab_i (k : Int)), some (ab_i b), some (ab_i (x : Int)), none, none, none, none, none, none, none, none, none] [] := by
    intro u
    induction u with
    | zero =>
      intro x J hx hx2 hD hfr
      subst hx
      refine aw_iload_n dX12_chain_27 rfl ?_
      refine aw_if_le (tgt := 168) dX12_chain_28 rfl (by first | assumption | (unfold ab_In at *; omega)) (fun c_28 => ?_) (fun c_28 => ?_)
      · refine aw_iconst dX12_chain_168 ?_
        refine aw_istore_n (ls' := [some (ab_r 84), some (ab_i (k : Int)), some (ab_i b), some (ab_i 0), none, none, none, none, none, none, none, none, none]) dX12_chain_169 (by decide) rfl ?_
        refine aw_iload_n dX12_chain_170 rfl ?_
        refine aw_istore (ls' := [some (ab_r 84), some (ab_i (k : Int)), some (ab_i b), some (ab_i 0), some (ab_i (k : Int)), none, none, none, none, none, none, none, none]) dX12_chain_171 (by decide) rfl ?_
        refine aw_iconst dX12_chain_173 ?_
        refine aw_istore (ls' := [some (ab_r 84), some (ab_i (k : Int)), some (ab_i b), some (ab_i 0), some (ab_i (k : Int)), some (ab_i 0), none, none, none, none, none, none, none]) dX12_chain_174 (by decide) rfl ?_
        refine aw_iconst dX12_chain_176 ?_
        refine aw_istore (ls' := [some (ab_r 84), some (ab_i (k : Int)), some (ab_i b), some (ab_i 0), some (ab_i (k : Int)), some (ab_i 0), some (ab_i (-1)), none, none, none, none, none, none]) dX12_chain_177 (by decide) rfl ?_
        refine aw_iconst dX12_chain_179 ?_
        refine aw_istore (ls' := [some (ab_r 84), some (ab_i (k : Int)), some (ab_i b), some (ab_i 0), some (ab_i (k : Int)), some (ab_i 0), some (ab_i (-1)), some (ab_i 1), none, none, none, none, none]) dX12_chain_180 (by decide) rfl ?_
        have h9 := ph2 _ 0 k [] J rfl hx2 hk rfl hD hfr (List.nil_append _)
        have e9 : fdA [] b = -1 := by unfold fdA; rw [if_neg (fun q => by have := q.2; simp at this; omega)]
        rw [e9] at h9
        exact h9
      · exfalso; omega
    | succ u ihu =>
      intro x J hx hx2 hD hfr
      have ll : ∀ (e l : Nat) (J : Nat → Nat → Int), l + e = N → (∀ l9, l9 < l → J 104 (8 * x + l9) = (mx (wgM I) (kdHM I) N x (kdHM I l9) : Int)) → DPI (wgM I) (kdHM I) N x (J 104) → (∀ i b, i ≠ 104 → J i b = I i b) → aW G YX12_chain (ab_rm 2 0 0) Z 0 0 (104, J, F) 34 [some (ab_r 84), some (ab_i (k : Int)), some (ab_i b), some (ab_i (x : Int)), some (ab_i (l : Int)), none, none, none, none, none, none, none, none] [] := by
        intro e
        induction e with
        | zero =>
          intro l J hl hR hD hfr
          have hlN : l = N := by omega
          subst hlN
          have e84 : J 84 25 = (l : Int) := (hfr 84 25 (by decide)).trans hN
          refine aw_iload dX12_chain_34 rfl ?_
          refine aw_aload_n dX12_chain_36 rfl (by decide) ?_
          refine aw_getiv (v := (l : Int)) dX12_chain_37 fX12_238 ⟨Nat.le_of_ble_eq_true rfl, Nat.le_of_ble_eq_true rfl⟩ rfl rfl e84 ?_
          refine aw_icmp_ge (tgt := 162) dX12_chain_40 rfl (by first | assumption | (unfold ab_In at *; omega)) (by first | assumption | (unfold ab_In at *; omega)) (fun c_40 => ?_) (fun c_40 => ?_)
          · refine aw_iinc (ls' := [some (ab_r 84), some (ab_i (k : Int)), some (ab_i b), some (ab_i ((x : Int) + (-1))), some (ab_i (l : Int)), none, none, none, none, none, none, none, none]) dX12_chain_162 (by decide) rfl rfl ?_
            refine aw_goto (tgt := 27) dX12_chain_165 rfl ?_
            rw [show (x : Int) + (-1) = ((x - 1 : Nat) : Int) by omega]
            refine aw_le (ab_le_c (ab_le_c (ab_le_c (ab_le_c (ab_le_n (ab_le_c (ab_le_c (ab_le_c (ab_le_c (ab_le_c (ab_le_c (ab_le_c (ab_le_c ab_le_nil))))))))))))) (ihu (x - 1) J (by omega) (by omega) (fun a l9 h1 h2 h3 => ?_) hfr)
            by_cases e9 : a = x
            · rw [e9]; exact hR l9 h3
            · exact hD a l9 (by omega) h2 h3
          · exfalso; omega
        | succ e ihe =>
          intro l J hl hR hD hfr
          have e84 : J 84 25 = (N : Int) := (hfr 84 25 (by decide)).trans hN
          have hpN := (bit_N ⟨N, by omega⟩ ⟨x, by omega⟩ hx2)
          simp only [] at hpN
          have hl8 : l < 8 := by omega
          have hhl := hh l hl8
          obtain ⟨kl, hkl0⟩ : ∃ kl : Nat, I 101 l = (kl : Int) := ⟨(I 101 l).toNat, by omega⟩
          have hkl : kl < 4 := by omega
          have ekl : kdHM I l = kl := by unfold kdHM; rw [if_pos hl8]; omega
          have el101 : J 101 l = (kl : Int) := (hfr 101 l (by decide)).trans hkl0
          have hmx := mx_eq (wg := wgM I) (kd := kdHM I) (k := kl) hN8 (show x < 256 by omega)
          have hmb := mx_bd (wg := wgM I) (kd := kdHM I) hN8 kl hx2
          generalize hfe : fH (wgM I) (kdHM I) N x kl = f at hmx
          have lp : ∀ (e h : Nat) (q1 : Int), h + e = N → q1 = ((mxp f h : Nat) : Int) → aW G YX12_chain (ab_rm 2 0 0) Z 0 0 (104, J, F) 49 [some (ab_r 84), some (ab_i (k : Int)), some (ab_i b), some (ab_i (x : Int)), some (ab_i (l : Int)), some (ab_i q1), some (ab_i (h : Int)), none, none, none, none, none, none] [] := by
            intro e
            induction e with
            | zero =>
              intro h q1 he hq1
              have hNe : h = N := by omega
              subst hNe
              subst hq1
              refine aw_iload dX12_chain_49 rfl ?_
              refine aw_aload_n dX12_chain_51 rfl (by decide) ?_
              refine aw_getiv (v := (h : Int)) dX12_chain_52 fX12_238 ⟨Nat.le_of_ble_eq_true rfl, Nat.le_of_ble_eq_true rfl⟩ rfl rfl e84 ?_
              refine aw_icmp_ge (tgt := 142) dX12_chain_55 rfl (by first | assumption | (unfold ab_In at *; omega)) (by first | assumption | (unfold ab_In at *; omega)) (fun c_55 => ?_) (fun c_55 => ?_)
              · refine aw_aload_n dX12_chain_142 rfl (by decide) ?_
                refine aw_getrv (r := 104) dX12_chain_143 fX12_68 ⟨Nat.le_of_ble_eq_true rfl, Nat.le_of_ble_eq_true rfl⟩ rfl rfl (hF.at 84 31 104 rfl rfl rfl) ?_
                refine aw_bipush dX12_chain_146 rfl ?_
                refine aw_iload_n dX12_chain_148 rfl ?_
                refine aw_imul dX12_chain_149 ?_
                refine aw_iload dX12_chain_150 rfl ?_
                refine aw_iadd dX12_chain_152 ?_
                refine aw_iload dX12_chain_153 rfl ?_
                refine aw_iastv (q := (8 * x + l)) dX12_chain_155 ⟨Nat.le_of_ble_eq_true rfl, Nat.le_of_ble_eq_true rfl⟩ rfl (by omega) (by omega) (by decide) (by omega) ?_
                refine aw_iinc (ls' := [some (ab_r 84), some (ab_i (k : Int)), some (ab_i b), some (ab_i (x : Int)), some (ab_i ((l : Int) + 1)), some (ab_i ((mxp f h : Nat) : Int)), some (ab_i (h : Int)), none, none, none, none, none, none]) dX12_chain_156 (by decide) rfl rfl ?_
                refine aw_goto (tgt := 34) dX12_chain_159 rfl ?_
                have h9 := ihe (l + 1) (ab_u J 104 (8 * x + l) ((mxp f h : Nat) : Int)) (by omega) (fun l9 hl9 => ?_) (fun a l9 h1 h2 h3 => ?_) (fun i b hi => ?_)
                · exact aw_le (ab_le_c (ab_le_c (ab_le_c (ab_le_c (ab_le_c (ab_le_n (ab_le_n (ab_le_c (ab_le_c (ab_le_c (ab_le_c (ab_le_c (ab_le_c ab_le_nil))))))))))))) h9
                · by_cases e9 : l9 = l
                  · rw [e9, ab_u_s, ekl, hmx]
                  · rw [ab_u_j (by omega)]; exact hR l9 (by omega)
                · rw [ab_u_j (by omega)]; exact hD a l9 h1 h2 h3
                · rw [ab_u_i hi]; exact hfr i b hi
              · exfalso; omega
            | succ e ihh =>
              intro h q1 he hq1
              have hq8 : mxp f h ≤ 8 := by
                have h1 : mxp f h ≤ mxp f N := mxp_le (fun h9 hh9 => mxp_ge (by omega))
                omega
              have hh8 : h < 8 := by omega
              have hhj := hh h hh8
              obtain ⟨s, hs0⟩ : ∃ s : Nat, I 100 h = (s : Int) := ⟨(I 100 h).toNat, by omega⟩
              obtain ⟨kj, hk0⟩ : ∃ kj : Nat, I 101 h = (kj : Int) := ⟨(I 101 h).toNat, by omega⟩
              have hs : s < 4 := by omega
              have hkj : kj < 4 := by omega
              have ekd : kdHM I h = kj := by unfold kdHM; rw [if_pos hh8]; omega
              have e100 : J 100 h = (s : Int) := (hfr 100 h (by decide)).trans hs0
              have e101 : J 101 h = (kj : Int) := (hfr 101 h (by decide)).trans hk0
              have ew : ∀ b, J 85 b = I 85 b := fun b => hfr 85 b (by decide)
              have hwt := wgM_true (I := I) hh8 hkl hs0 hk0
              have hw1 := hw s kl hs hkl
              have hw2 := hw s kj hs hkj
              have hbm := bit_m ⟨x, by omega⟩ ⟨h, hh8⟩
              simp only [] at hbm
              have hbm1 := hbm.1
              have no : (x.testBit h = true ∨ ¬ wgM I h kl = true) → f h = 0 := fun hx => by rw [← hfe]; exact fH_no hx
              by_cases hbt : x.testBit h = true
              · rw [if_pos hbt] at hbm1
                have hf0 := no (Or.inl hbt)
                refine aw_iload dX12_chain_49 rfl ?_
                refine aw_aload_n dX12_chain_51 rfl (by decide) ?_
                refine aw_getiv (v := (N : Int)) dX12_chain_52 fX12_238 ⟨Nat.le_of_ble_eq_true rfl, Nat.le_of_ble_eq_true rfl⟩ rfl rfl e84 ?_
                refine aw_icmp_ge (tgt := 142) dX12_chain_55 rfl (by first | assumption | (unfold ab_In at *; omega)) (by first | assumption | (unfold ab_In at *; omega)) (fun c_55 => ?_) (fun c_55 => ?_)
                · exfalso; omega
                · refine aw_iload_n dX12_chain_58 rfl ?_
                  refine aw_iload dX12_chain_59 rfl ?_
                  refine aw_ishr dX12_chain_61 ?_
                  refine aw_iconst dX12_chain_62 ?_
                  refine aw_iand dX12_chain_63 ?_
                  refine aw_to (z := 1) hbm1 ?_
                  refine aw_if_ne (tgt := 87) dX12_chain_64 rfl ⟨by decide, by decide⟩ (fun _ => ?_) (fun c9 => absurd c9 (by decide))
                  refine aw_iconst dX12_chain_87 ?_
                  refine aw_istore (ls' := [some (ab_r 84), some (ab_i (k : Int)), some (ab_i b), some (ab_i (x : Int)), some (ab_i (l : Int)), some (ab_i q1), some (ab_i (h : Int)), some (ab_i 0), none, none, none, none, none]) dX12_chain_88 (by decide) rfl ?_
                  refine aw_iload dX12_chain_90 rfl ?_
                  refine aw_if_eq (tgt := 117) dX12_chain_92 rfl ⟨by decide, by decide⟩ (fun _ => ?_) (fun c9 => absurd (by decide) c9)
                  refine aw_iconst dX12_chain_117 ?_
                  refine aw_istore (ls' := [some (ab_r 84), some (ab_i (k : Int)), some (ab_i b), some (ab_i (x : Int)), some (ab_i (l : Int)), some (ab_i q1), some (ab_i (h : Int)), some (ab_i 0), some (ab_i 0), none, none, none, none]) dX12_chain_118 (by decide) rfl ?_
                  refine aw_iload dX12_chain_120 rfl ?_
                  refine aw_iload dX12_chain_122 rfl ?_
                  refine aw_icmp_le (tgt := 132) dX12_chain_124 rfl (by first | assumption | (unfold ab_In at *; omega)) (by first | assumption | (unfold ab_In at *; omega)) (fun c_124 => ?_) (fun c_124 => ?_)
                  · refine aw_iload dX12_chain_132 rfl ?_
                    refine aw_istore (ls' := [some (ab_r 84), some (ab_i (k : Int)), some (ab_i b), some (ab_i (x : Int)), some (ab_i (l : Int)), some (ab_i q1), some (ab_i (h : Int)), some (ab_i 0), some (ab_i 0), none, none, none, none]) dX12_chain_134 (by decide) rfl ?_
                    refine aw_iinc (ls' := [some (ab_r 84), some (ab_i (k : Int)), some (ab_i b), some (ab_i (x : Int)), some (ab_i (l : Int)), some (ab_i q1), some (ab_i ((h : Int) + 1)), some (ab_i 0), some (ab_i 0), none, none, none, none]) dX12_chain_136 (by decide) rfl rfl ?_
                    refine aw_goto (tgt := 49) dX12_chain_139 rfl ?_
                    exact aw_le (ab_le_c (ab_le_c (ab_le_c (ab_le_c (ab_le_c (ab_le_c (ab_le_c (ab_le_n (ab_le_n (ab_le_c (ab_le_c (ab_le_c (ab_le_c ab_le_nil))))))))))))) (ihh (h + 1) q1 (by omega) (by first | (rw [mxp_0 (by omega)]; exact hq1) | (rw [mxp_1 (by omega)]; omega)))
                  · exfalso; omega
              · rw [if_neg hbt] at hbm1
                have hbf : x.testBit h = false := by simpa using hbt
                have hor := bit_or ⟨x, by omega⟩ ⟨h, hh8⟩ hbf
                simp only [] at hor
                have horN := hpN.2 ⟨h, hh8⟩ (by show h < N; omega)
                simp only [] at horN
                have hbm2 := hbm.2
                have yes := fun hx => fH_yes (wg := wgM I) (kd := kdHM I) (N := N) (k := kl) hbf hx
                rw [hfe, ekd] at yes
                obtain ⟨x2, hx2e⟩ : ∃ x2, x ||| 2 ^ h = x2 := ⟨_, rfl⟩
                rw [hx2e] at hbm2 hor horN yes
                have hD1 := hD x2 h (by omega) horN (by omega)
                rw [ekd] at hD1
                have hmb2 := mx_bd (wg := wgM I) (kd := kdHM I) hN8 kj horN
                generalize mx (wgM I) (kdHM I) N x2 kj = y at hD1 yes hmb2
                refine aw_iload dX12_chain_49 rfl ?_
                refine aw_aload_n dX12_chain_51 rfl (by decide) ?_
                refine aw_getiv (v := (N : Int)) dX12_chain_52 fX12_238 ⟨Nat.le_of_ble_eq_true rfl, Nat.le_of_ble_eq_true rfl⟩ rfl rfl e84 ?_
                refine aw_icmp_ge (tgt := 142) dX12_chain_55 rfl (by first | assumption | (unfold ab_In at *; omega)) (by first | assumption | (unfold ab_In at *; omega)) (fun c_55 => ?_) (fun c_55 => ?_)
                · exfalso; omega
                · refine aw_iload_n dX12_chain_58 rfl ?_
                  refine aw_iload dX12_chain_59 rfl ?_
                  refine aw_ishr dX12_chain_61 ?_
                  refine aw_iconst dX12_chain_62 ?_
                  refine aw_iand dX12_chain_63 ?_
                  refine aw_to (z := 0) hbm1 ?_
                  refine aw_if_ne (tgt := 87) dX12_chain_64 rfl ⟨by decide, by decide⟩ (fun c9 => absurd rfl c9) (fun _ => ?_)
                  refine aw_aload_n dX12_chain_67 rfl (by decide) ?_
                  refine aw_iload dX12_chain_68 rfl ?_
                  refine aw_aload_n dX12_chain_70 rfl (by decide) ?_
                  refine aw_getrv (r := 101) dX12_chain_71 fX12_59 ⟨Nat.le_of_ble_eq_true rfl, Nat.le_of_ble_eq_true rfl⟩ rfl rfl (hF.at 84 27 101 rfl rfl rfl) ?_
                  refine aw_iload dX12_chain_74 rfl ?_
                  refine aw_ialdq (q := l) (v := (kl : Int)) dX12_chain_76 ⟨Nat.le_of_ble_eq_true rfl, Nat.le_of_ble_eq_true rfl⟩ rfl (by omega) (by omega) (by decide) rfl el101 ?_
                  refine aw_callV (as := [ab_i (h : Int), ab_i (kl : Int)]) (rest := []) dX12_chain_77 (ct_X12_wouldGo G J F hF h s kj kl hh8 e100 e101 hs hkj hkl (by rw [ew]; unfold ab_In; omega) (by rw [ew]; unfold ab_In; omega)) ⟨Nat.le_of_ble_eq_true rfl, Nat.le_of_ble_eq_true rfl⟩ rfl kc12 rfl kX12_wouldGo iX12_wouldGo eX12_wouldGo lX12_251 rfl (Nat.le_of_ble_eq_true rfl) (by decide) (by decide) (by decide) (by decide) ?_
                  rintro r9 _ ⟨e9, rfl⟩
                  rw [ew, ew] at e9
                  by_cases q01 : I 85 (4 * s + kj) < I 85 (4 * s + kl)
                  · rw [if_pos q01] at e9
                    subst e9
                    have hfy := yes (hwt.mpr q01)
                    refine aw_if_eq (tgt := 87) dX12_chain_80 rfl ⟨by decide, by decide⟩ (fun c9 => absurd c9 (by decide)) (fun _ => ?_)
                    refine aw_iconst dX12_chain_83 ?_
                    refine aw_goto (tgt := 88) dX12_chain_84 rfl ?_
                    refine aw_istore (ls' := [some (ab_r 84), some (ab_i (k : Int)), some (ab_i b), some (ab_i (x : Int)), some (ab_i (l : Int)), some (ab_i q1), some (ab_i (h : Int)), some (ab_i 1), none, none, none, none, none]) dX12_chain_88 (by decide) rfl ?_
                    refine aw_iload dX12_chain_90 rfl ?_
                    refine aw_if_eq (tgt := 117) dX12_chain_92 rfl ⟨by decide, by decide⟩ (fun c9 => absurd c9 (by decide)) (fun _ => ?_)
                    refine aw_iconst dX12_chain_95 ?_
                    refine aw_aload_n dX12_chain_96 rfl (by decide) ?_
                    refine aw_getrv (r := 104) dX12_chain_97 fX12_68 ⟨Nat.le_of_ble_eq_true rfl, Nat.le_of_ble_eq_true rfl⟩ rfl rfl (hF.at 84 31 104 rfl rfl rfl) ?_
                    refine aw_bipush dX12_chain_100 rfl ?_
                    refine aw_iload_n dX12_chain_102 rfl ?_
                    refine aw_iconst dX12_chain_103 ?_
                    refine aw_iload dX12_chain_104 rfl ?_
                    refine aw_ishl dX12_chain_106 ?_
                    refine aw_ior dX12_chain_107 ?_
                    refine aw_to (z := (x2 : Int)) hbm2 ?_
                    refine aw_imul dX12_chain_108 ?_
                    refine aw_iload dX12_chain_109 rfl ?_
                    refine aw_iadd dX12_chain_111 ?_
                    refine aw_ialdq (q := (8 * x2 + h)) (v := (y : Int)) dX12_chain_112 ⟨Nat.le_of_ble_eq_true rfl, Nat.le_of_ble_eq_true rfl⟩ rfl (by omega) (by omega) (by decide) (by omega) hD1 ?_
                    refine aw_iadd dX12_chain_113 ?_
                    refine aw_goto (tgt := 118) dX12_chain_114 rfl ?_
                    refine aw_istore (ls' := [some (ab_r 84), some (ab_i (k : Int)), some (ab_i b), some (ab_i (x : Int)), some (ab_i (l : Int)), some (ab_i q1), some (ab_i (h : Int)), some (ab_i 1), some (ab_i (1 + (y : Int))), none, none, none, none]) dX12_chain_118 (by decide) rfl ?_
                    refine aw_iload dX12_chain_120 rfl ?_
                    refine aw_iload dX12_chain_122 rfl ?_
                    refine aw_icmp_le (tgt := 132) dX12_chain_124 rfl (by first | assumption | (unfold ab_In at *; omega)) (by first | assumption | (unfold ab_In at *; omega)) (fun c_124 => ?_) (fun c_124 => ?_)
                    · refine aw_iload dX12_chain_132 rfl ?_
                      refine aw_istore (ls' := [some (ab_r 84), some (ab_i (k : Int)), some (ab_i b), some (ab_i (x : Int)), some (ab_i (l : Int)), some (ab_i q1), some (ab_i (h : Int)), some (ab_i 1), some (ab_i (1 + (y : Int))), none, none, none, none]) dX12_chain_134 (by decide) rfl ?_
                      refine aw_iinc (ls' := [some (ab_r 84), some (ab_i (k : Int)), some (ab_i b), some (ab_i (x : Int)), some (ab_i (l : Int)), some (ab_i q1), some (ab_i ((h : Int) + 1)), some (ab_i 1), some (ab_i (1 + (y : Int))), none, none, none, none]) dX12_chain_136 (by decide) rfl rfl ?_
                      refine aw_goto (tgt := 49) dX12_chain_139 rfl ?_
                      exact aw_le (ab_le_c (ab_le_c (ab_le_c (ab_le_c (ab_le_c (ab_le_c (ab_le_c (ab_le_n (ab_le_n (ab_le_c (ab_le_c (ab_le_c (ab_le_c ab_le_nil))))))))))))) (ihh (h + 1) q1 (by omega) (by first | (rw [mxp_0 (by omega)]; exact hq1) | (rw [mxp_1 (by omega)]; omega)))
                    · refine aw_iload dX12_chain_127 rfl ?_
                      refine aw_goto (tgt := 134) dX12_chain_129 rfl ?_
                      refine aw_istore (ls' := [some (ab_r 84), some (ab_i (k : Int)), some (ab_i b), some (ab_i (x : Int)), some (ab_i (l : Int)), some (ab_i (1 + (y : Int))), some (ab_i (h : Int)), some (ab_i 1), some (ab_i (1 + (y : Int))), none, none, none, none]) dX12_chain_134 (by decide) rfl ?_
                      refine aw_iinc (ls' := [some (ab_r 84), some (ab_i (k : Int)), some (ab_i b), some (ab_i (x : Int)), some (ab_i (l : Int)), some (ab_i (1 + (y : Int))), some (ab_i ((h : Int) + 1)), some (ab_i 1), some (ab_i (1 + (y : Int))), none, none, none, none]) dX12_chain_136 (by decide) rfl rfl ?_
                      refine aw_goto (tgt := 49) dX12_chain_139 rfl ?_
                      exact aw_le (ab_le_c (ab_le_c (ab_le_c (ab_le_c (ab_le_c (ab_le_c (ab_le_c (ab_le_n (ab_le_n (ab_le_c (ab_le_c (ab_le_c (ab_le_c ab_le_nil))))))))))))) (ihh (h + 1) (1 + (y : Int)) (by omega) (by first | (rw [mxp_0 (by omega)]; exact hq1) | (rw [mxp_1 (by omega)]; omega)))
                  · rw [if_neg q01] at e9
                    subst e9
                    have hfy := no (Or.inr (fun q => q01 (hwt.mp q)))
                    refine aw_if_eq (tgt := 87) dX12_chain_80 rfl ⟨by decide, by decide⟩ (fun _ => ?_) (fun c9 => absurd (by decide) c9)
                    refine aw_iconst dX12_chain_87 ?_
                    refine aw_istore (ls' := [some (ab_r 84), some (ab_i (k : Int)), some (ab_i b), some (ab_i (x : Int)), some (ab_i (l : Int)), some (ab_i q1), some (ab_i (h : Int)), some (ab_i 0), none, none, none, none, none]) dX12_chain_88 (by decide) rfl ?_
                    refine aw_iload dX12_chain_90 rfl ?_
                    refine aw_if_eq (tgt := 117) dX12_chain_92 rfl ⟨by decide, by decide⟩ (fun _ => ?_) (fun c9 => absurd (by decide) c9)
                    refine aw_iconst dX12_chain_117 ?_
                    refine aw_istore (ls' := [some (ab_r 84), some (ab_i (k : Int)), some (ab_i b), some (ab_i (x : Int)), some (ab_i (l : Int)), some (ab_i q1), some (ab_i (h : Int)), some (ab_i 0), some (ab_i 0), none, none, none, none]) dX12_chain_118 (by decide) rfl ?_
                    refine aw_iload dX12_chain_120 rfl ?_
                    refine aw_iload dX12_chain_122 rfl ?_
                    refine aw_icmp_le (tgt := 132) dX12_chain_124 rfl (by first | assumption | (unfold ab_In at *; omega)) (by first | assumption | (unfold ab_In at *; omega)) (fun c_124 => ?_) (fun c_124 => ?_)
                    · refine aw_iload dX12_chain_132 rfl ?_
                      refine aw_istore (ls' := [some (ab_r 84), some (ab_i (k : Int)), some (ab_i b), some (ab_i (x : Int)), some (ab_i (l : Int)), some (ab_i q1), some (ab_i (h : Int)), some (ab_i 0), some (ab_i 0), none, none, none, none]) dX12_chain_134 (by decide) rfl ?_
                      refine aw_iinc (ls' := [some (ab_r 84), some (ab_i (k : Int)), some (ab_i b), some (ab_i (x : Int)), some (ab_i (l : Int)), some (ab_i q1), some (ab_i ((h : Int) + 1)), some (ab_i 0), some (ab_i 0), none, none, none, none]) dX12_chain_136 (by decide) rfl rfl ?_
                      refine aw_goto (tgt := 49) dX12_chain_139 rfl ?_
                      exact aw_le (ab_le_c (ab_le_c (ab_le_c (ab_le_c (ab_le_c (ab_le_c (ab_le_c (ab_le_n (ab_le_n (ab_le_c (ab_le_c (ab_le_c (ab_le_c ab_le_nil))))))))))))) (ihh (h + 1) q1 (by omega) (by first | (rw [mxp_0 (by omega)]; exact hq1) | (rw [mxp_1 (by omega)]; omega)))
                    · exfalso; omega
          refine aw_iload dX12_chain_34 rfl ?_
          refine aw_aload_n dX12_chain_36 rfl (by decide) ?_
          refine aw_getiv (v := (N : Int)) dX12_chain_37 fX12_238 ⟨Nat.le_of_ble_eq_true rfl, Nat.le_of_ble_eq_true rfl⟩ rfl rfl e84 ?_
          refine aw_icmp_ge (tgt := 162) dX12_chain_40 rfl (by first | assumption | (unfold ab_In at *; omega)) (by first | assumption | (unfold ab_In at *; omega)) (fun c_40 => ?_) (fun c_40 => ?_)
          · exfalso; omega
          · refine aw_iconst dX12_chain_43 ?_
            refine aw_istore (ls' := [some (ab_r 84), some (ab_i (k : Int)), some (ab_i b), some (ab_i (x : Int)), some (ab_i (l : Int)), some (ab_i 0), none, none, none, none, none, none, none]) dX12_chain_44 (by decide) rfl ?_
            refine aw_iconst dX12_chain_46 ?_
            refine aw_istore (ls' := [some (ab_r 84), some (ab_i (k : Int)), some (ab_i b), some (ab_i (x : Int)), some (ab_i (l : Int)), some (ab_i 0), some (ab_i 0), none, none, none, none, none, none]) dX12_chain_47 (by decide) rfl ?_
            exact lp N 0 _ (by omega) rfl
      refine aw_iload_n dX12_chain_27 rfl ?_
      refine aw_if_le (tgt := 168) dX12_chain_28 rfl (by first | assumption | (unfold ab_In at *; omega)) (fun c_28 => ?_) (fun c_28 => ?_)
      · exfalso; omega
      · refine aw_iconst dX12_chain_31 ?_
        refine aw_istore (ls' := [some (ab_r 84), some (ab_i (k : Int)), some (ab_i b), some (ab_i (x : Int)), some (ab_i 0), none, none, none, none, none, none, none, none]) dX12_chain_32 (by decide) rfl ?_
        exact ll N 0 J (by omega) (fun l9 h9 => by omega) hD hfr
  refine aw_iload_n dX12_chain_0 rfl ?_
  refine aw_callS (as := [ab_i (k : Int)]) (rest := []) dX12_chain_1 (ct_X12_isFour G (104, I, F) (k : Int) (by first | assumption | (unfold ab_In at *; omega))) kX12_isFour sX12_isFour lX12_79 rfl (Nat.le_of_ble_eq_true rfl) (by decide) (by decide) (by decide) (by decide) ?_
  rintro r9 _ ⟨e9, rfl⟩
  rw [if_pos (by omega)] at e9
  subst e9
  refine aw_if_ne (tgt := 10) dX12_chain_4 rfl ⟨by decide, by decide⟩ (fun _ => ?_) (fun c9 => absurd c9 (by decide))
  refine aw_iload_n dX12_chain_10 rfl ?_
  refine aw_iconst dX12_chain_11 ?_
  refine aw_icmp_ge (tgt := 18) dX12_chain_12 rfl (by first | assumption | (unfold ab_In at *; omega)) (by first | assumption | (unfold ab_In at *; omega)) (fun c_12 => ?_) (fun c_12 => ?_)
  · refine aw_iconst dX12_chain_18 ?_
    refine aw_aload_n dX12_chain_19 rfl (by decide) ?_
    refine aw_getiv (v := (N : Int)) dX12_chain_20 fX12_238 ⟨Nat.le_of_ble_eq_true rfl, Nat.le_of_ble_eq_true rfl⟩ rfl rfl hN ?_
    refine aw_ishl dX12_chain_23 ?_
    refine aw_iconst dX12_chain_24 ?_
    refine aw_isub dX12_chain_25 ?_
    refine aw_to (z := ((2 ^ N - 1 : Nat) : Int)) h256.1 ?_
    refine aw_istore_n (ls' := [some (ab_r 84), some (ab_i (k : Int)), some (ab_i b), some (ab_i ((2 ^ N - 1 : Nat) : Int)), none, none, none, none, none, none, none, none, none]) dX12_chain_26 (by decide) rfl ?_
    exact ph1 _ _ I rfl (by omega) (fun a l9 h1 h2 => by omega) (fun _ _ _ => rfl)
  · exfalso; omega
set_option maxHeartbeats 4000000 in
set_option maxRecDepth 100000 in
theorem pr_chain (G : ab_G) (I : Nat → Nat → Int) (F : Nat → Nat → Nat) (c : Nat) (h : INV c I F) (hc : c ≤ 600) (a : Int) (ha : ab_In a) (b : Int) (hb : ab_In b) : Pair G 11 2 YX11_chain YX12_chain [ab_i a, ab_i b] ab_i c I F := by
  have hH := h.2.2.2.2.2.2.1
  have hwg := h.wg
  by_cases hv9 : (0 ≤ a ∧ a ≤ 3) ∧ -1 ≤ b
  · obtain ⟨k, rfl⟩ : ∃ k : Nat, a = k := ⟨a.toNat, by omega⟩
    obtain ⟨N, hN⟩ : ∃ N : Nat, I 76 3 = N := ⟨(I 76 3).toNat, by have := hH.1; omega⟩
    have hN8 : N ≤ 8 := by have := hH.1; omega
    refine (ct_X11_chain G I F h.1 N hN hN8 (fun j hj => (hH.2.2 j hj).2) (fun s k hs hk => h.2.1.2.1 s k hs hk) k (by omega) b hb hv9.2).mono ?_
    rintro _ _ ⟨rfl, J, rfl, hfr⟩
    refine ⟨_, _, _, rfl, rfl, ?_⟩
    have hj : ∀ i b, i ≠ 81 → i ≠ 82 → i ≠ 83 → J i b = I i b := fun i b q1 q2 q3 => hfr i b (by omega) q2 q3
    have e1 : wgM J = wgX I := by rw [hwg.1]; funext x y; unfold wgM; rw [hj 85 _ (by decide) (by decide) (by decide), hj 85 _ (by decide) (by decide) (by decide), hj 100 _ (by decide) (by decide) (by decide), hj 101 _ (by decide) (by decide) (by decide)]
    have e2 : kdHM J = kdH I := by rw [hwg.2]; funext x; unfold kdHM; rw [hj 101 _ (by decide) (by decide) (by decide)]
    refine (ct_X12_chain G J F h.1 N (by rw [hj 84 25 (by decide) (by decide) (by decide), hH.2.1]; exact hN) hN8 (fun j hj9 => by rw [hj 100 _ (by decide) (by decide) (by decide), hj 101 _ (by decide) (by decide) (by decide), (hH.2.2 j hj9).1.1, (hH.2.2 j hj9).1.2]; exact (hH.2.2 j hj9).2) (fun s k hs hk => by rw [hj 85 _ (by decide) (by decide) (by decide), ← h.2.2.1.2.1 s k hs hk]; exact h.2.1.2.1 s k hs hk) k (by omega) b hb hv9.2).mono ?_
    rintro _ _ ⟨rfl, J2, rfl, hfr2⟩
    refine ⟨by rw [e1, e2], _, _, rfl, h.keep (by omega) (fun i b q => by rw [hfr2 i b (by omega)]; exact hj i b (by omega) (by omega) (by omega)) (fun _ _ _ => rfl) (h.2.2.2.2.2.2.2.1.of (fun i b q => by rw [hfr2 i b (by omega)]; exact hj i b (by omega) (by omega) (by omega)))⟩
  · refine (ct_X11_chain_bad G I F h.1 a ha b hb hv9).mono ?_
    rintro _ _ ⟨rfl, rfl⟩
    refine ⟨_, _, _, rfl, rfl, ?_⟩
    refine (ct_X12_chain_bad G I F h.1 a ha b hb hv9).mono ?_
    rintro _ _ ⟨rfl, rfl⟩
    exact ⟨rfl, _, _, rfl, h.up (by omega)⟩
