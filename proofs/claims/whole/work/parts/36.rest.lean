def rv (I : Nat → Nat → Int) (b : Int) : Int := if b = -1 then I 65 4 else if b < I 65 4 then I 72 b.toNat else -1
def rvL (l : List Nat) (b : Int) : Int := if b = -1 then (l.length : Int) else (l[b.toNat]?.map (fun q => (q : Int))).getD (-1)
theorem rv_L {I : Nat → Nat → Int} {l : List Nat} {b : Int} (hb : -1 ≤ b) (h1 : I 65 4 = (l.length : Int)) (h2 : ∀ i, i < l.length → l[i]?.map (fun q => (q : Int)) = some (I 72 i)) : rv I b = rvL l b := by
  unfold rv rvL
  rw [h1]
  by_cases e : b = -1
  · rw [if_pos e, if_pos e]
  · rw [if_neg e, if_neg e]
    by_cases e2 : b < (l.length : Int)
    · rw [if_pos e2, h2 b.toNat (by omega)]; rfl
    · rw [if_neg e2, List.getElem?_eq_none (by omega)]; rfl
theorem INV.rested {c : Nat} {I J : Nat → Nat → Int} {F F2 : Nat → Nat → Nat} {L M : List P5} {wk nx : Int} (h : INV c I F) (h9 : IVc c I F L M wk nx) (he : ∀ i b, (i ≤ 16 ∨ (i = 21 ∧ b = 1) ∨ i = 22 ∨ (23 ≤ i ∧ i ≤ 43) ∨ (76 ≤ i ∧ i ≤ 78) ∨ (i = 84 ∧ (b = 2 ∨ b = 4 ∨ b = 10 ∨ b = 25)) ∨ (85 ≤ i ∧ i ≤ 88) ∨ (i = 89 ∧ b < 88) ∨ i = 93 ∨ i = 95 ∨ i = 100 ∨ i = 101) → J i b = I i b) (hF : ∀ i b, i ≠ 45 → F2 i b = F i b) (hy : IVy J F2) (hm : IVm J M wk nx) : INV (c + 1) J F2 := by
  obtain ⟨h1, h2, h3, h4, h5, h6, h7, h8, _⟩ := h
  refine ⟨fun i j q1 q2 => (hF i j q2).trans (h1 i j q1 q2), h2.ofc (fun i b q1 q2 => he i b (by omega)), h3.of (fun i b q => he i b (by omega)), h4.ofc (fun i b q1 q2 => he i b (by omega)), h5.of (fun i b q => he i b (by omega)), h6.of (fun i b q => he i b (by omega)), h7.of (fun i b q => he i b (by omega)), hy, L, M, wk, nx, ?_, hm⟩
  have := h9.of (J := J) (Nat.le_succ c) (fun i b q => he i b (by omega))
  exact ⟨this.1.F (fun b => hF 24 b (by decide)), this.2⟩
theorem gnQ_perm {ru : Ru} {tn : Tn} {kd js : Int → Int} {n : Nat} {wk : Int} {L M : List P5} {nx : Int} (hp : L.Perm M) (hq : Nq L nx) : gnQ ru tn kd js n wk L nx = gnQ ru tn kd js n wk M nx := by
  funext q s; unfold gnQ; rw [(wkN_perm n hp hq).2]
theorem bq_div {q s : Nat} : q / 5 ^ s % 5 = bq q s := rfl
theorem div_s (q s : Nat) : q / 5 ^ s / 5 = q / 5 ^ (s + 1) := by rw [Nat.div_div_eq_div_mul, Nat.pow_succ]
theorem RBM_Q {I J : Nat → Nat → Int} {q : Nat} (hR : RBM I) (hT : TBM I) (h0 : ∀ b, b < 4 → J 95 b = I 95 b) (hw : ∀ s, s < 4 → J 95 (4 + 3 * s) = (if bq q s = 0 then 0 else 1) ∧ J 95 (5 + 3 * s) = (if bq q s = 0 then 0 else I 85 (4 * s + (bq q s - 1))) ∧ J 95 (6 + 3 * s) = 0) : RBM J := by
  unfold RBM at *
  rw [h0 0 (by omega), h0 1 (by omega), h0 2 (by omega), h0 3 (by omega)]
  refine ⟨hR.1, hR.2.1, hR.2.2.1, hR.2.2.2.1, fun s hs => ?_⟩
  rw [(hw s hs).1, (hw s hs).2.1, (hw s hs).2.2]
  by_cases hb : bq q s = 0
  · simp [hb]
  · rw [if_neg hb, if_neg hb]
    have := hT.2.1 s (bq q s - 1) hs (by have := bq_lt q s; omega)
    omega
theorem ruM_Q {I J : Nat → Nat → Int} {q : Nat} (h0 : ∀ b, b < 4 → J 95 b = I 95 b) (hw : ∀ s, s < 4 → J 95 (4 + 3 * s) = (if bq q s = 0 then 0 else 1) ∧ J 95 (5 + 3 * s) = (if bq q s = 0 then 0 else I 85 (4 * s + (bq q s - 1))) ∧ J 95 (6 + 3 * s) = 0) : ruM J = ruQ (ruM I) (tnM I) q := by
  have e1 : n4 (fun s => J 95 (4 + 3 * s)) = n4 (fun s => if bq q s = 0 then 0 else 1) := n4_congr (fun s hs => (hw s hs).1)
  have e2 : n4 (fun s => J 95 (5 + 3 * s)) = n4 (fun s => if bq q s = 0 then 0 else (tnM I).2 s (bq q s - 1)) := n4_congr (fun s hs => by
    rw [(hw s hs).2.1]
    by_cases hb : bq q s = 0
    · simp [hb]
    · rw [if_neg hb, if_neg hb]
      show _ = if s < 4 ∧ bq q s - 1 < 4 then _ else _
      rw [if_pos ⟨hs, by have := bq_lt q s; omega⟩])
  have e3 : n4 (fun s => J 95 (6 + 3 * s)) = n4 (fun _ => 0) := n4_congr (fun s hs => (hw s hs).2.2)
  unfold ruQ
  rw [← e1, ← e2, ← e3]
  unfold ruM
  rw [h0 0 (by omega), h0 1 (by omega), h0 2 (by omega), h0 3 (by omega)]
theorem rsL {g : Nat → Nat → Int} {q : Nat} : rsQ g = rsP g q ++ ((List.range 625).drop q).filter (arQ g) ∨ 625 < q := by
  by_cases h : q ≤ 625
  · left
    unfold rsQ rsP
    have e : List.range 625 = List.range q ++ (List.range 625).drop q := by
      have : List.range q = (List.range 625).take q := by rw [List.take_range, Nat.min_eq_left h]
      rw [this, List.take_append_drop]
    conv => lhs; rw [e]
    rw [List.filter_append]
  · right; omega
theorem rvL_hit {g : Nat → Nat → Int} {q : Nat} {b : Int} (hq : q < 625) (ha : arQ g q = true) (hb : ((rsP g q).length : Int) = b) : rvL (rsQ g) b = (q : Int) := by
  have h1 := (rsL (g := g) (q := q + 1)).resolve_right (by omega)
  unfold rvL
  rw [if_neg (by omega), h1, rsP_s, if_pos ha, List.append_assoc, List.getElem?_append_right (by omega), show b.toNat - (rsP g q).length = 0 by omega]
  rfl
theorem rvL_end {g : Nat → Nat → Int} {b : Int} (hb : -1 ≤ b) (h : b = -1 ∨ ((rsP g 625).length : Int) ≤ b) : rvL (rsQ g) b = if b = -1 then ((rsP g 625).length : Int) else -1 := by
  unfold rvL
  by_cases e : b = -1
  · rw [if_pos e, if_pos e]; rfl
  · rw [if_neg e, if_neg e, List.getElem?_eq_none (by show (rsP g 625).length ≤ _; omega)]; rfl
theorem ar_v {g : Nat → Nat → Int} {q : Nat} {v : Int} (hv : v = 0 ∨ v = 1) (hP : v = 1 ↔ ∀ s9 b, s9 < 4 → b < 5 → g (oq q s9 b) s9 ≤ g q s9) : v = if arQ g q = true then 1 else 0 := by
  by_cases h : arQ g q = true
  · rw [if_pos h]; exact hP.mpr (arQ_iff.mp h)
  · rw [if_neg h]
    rcases hv with e | e
    · exact e
    · exact absurd (arQ_iff.mpr (hP.mp e)) h
theorem ar_up {g : Nat → Nat → Int} {q s : Nat} {v : Int} (h : v = 1 ↔ (∀ s9 b, s9 < s → b < 5 → g (oq q s9 b) s9 ≤ g q s9) ∧ (∀ b9, b9 < 5 → g (oq q s b9) s ≤ g q s)) : v = 1 ↔ ∀ s9 b, s9 < s + 1 → b < 5 → g (oq q s9 b) s9 ≤ g q s9 := by
  rw [h]
  constructor
  · intro h9 s9 b q1 q2
    by_cases e : s9 = s
    · rw [e]; exact h9.2 b q2
    · exact h9.1 s9 b (by omega) q2
  · intro h9
    exact ⟨fun s9 b q1 q2 => h9 s9 b (by omega) q2, fun b9 q9 => h9 s b9 (by omega) q9⟩
theorem ar_st1 {g : Nat → Nat → Int} {q s b : Nat} {v : Int} {P : Prop} (h : v = 1 ↔ P ∧ (∀ b9, b9 < b → g (oq q s b9) s ≤ g q s)) (hv : v = 1) (h1 : g (oq q s b) s ≤ g q s) : (1 : Int) = 1 ↔ P ∧ (∀ b9, b9 < b + 1 → g (oq q s b9) s ≤ g q s) := by
  have h2 := h.mp hv
  refine ⟨fun _ => ⟨h2.1, fun b9 q9 => ?_⟩, fun _ => rfl⟩
  by_cases e : b9 = b
  · rw [e]; exact h1
  · exact h2.2 b9 (by omega)
theorem ar_st0 {g : Nat → Nat → Int} {q s b : Nat} {v : Int} {P : Prop} (h : v = 1 ↔ P ∧ (∀ b9, b9 < b → g (oq q s b9) s ≤ g q s)) (h1 : v = 0 ∨ ¬ g (oq q s b) s ≤ g q s) : (0 : Int) = 1 ↔ P ∧ (∀ b9, b9 < b + 1 → g (oq q s b9) s ≤ g q s) := by
  refine ⟨fun e => by omega, fun h9 => ?_⟩
  rcases h1 with e | e
  · have := h.mpr ⟨h9.1, fun b9 q9 => h9.2 b9 (by omega)⟩
    omega
  · exact absurd (h9.2 b (by omega)) e
set_option maxHeartbeats 4000000 in
set_option maxRecDepth 100000 in
theorem ct_X11_rest_bad (G : ab_G) (I : Nat → Nat → Int) (F : Nat → Nat → Nat) (hF : ab_FB F) (a : Int) (ha : ab_In a) (b : Int) (hb : ab_In b)  (hbad : ¬ ((1 ≤ a ∧ a ≤ 40) ∧ -1 ≤ b)) : Ct G 5 0 0 YX11_rest [ab_r 1, ab_i a, ab_i b] (104, I, F) (fun r h => r = some (ab_i (-3)) ∧ h = (104, I, F)) := by
  refine Ct.ofW kX11_rest (ls := [some (ab_r 1), some (ab_i a), some (ab_i b)]) (Nat.le_of_ble_eq_true rfl) rfl ?_
  refine aw_iload_n dX11_rest_0 rfl ?_
  refine aw_iconst dX11_rest_1 ?_
  refine aw_bipush dX11_rest_2 rfl ?_
  refine aw_callS (as := [ab_i a, ab_i 1, ab_i 40]) (rest := []) dX11_rest_4 (ct_X11_within G (104, I, F) a 1 40 (by first | assumption | (unfold ab_In at *; omega)) (by first | assumption | (unfold ab_In at *; omega)) (by first | assumption | (unfold ab_In at *; omega))) kX11_within sX11_within lX11_89 rfl (Nat.le_of_ble_eq_true rfl) (by decide) (by decide) (by decide) (by decide) ?_
  rintro r9 _ ⟨e9, rfl⟩
  by_cases q1 : 1 ≤ a ∧ a ≤ 40
  · rw [if_pos q1] at e9
    subst e9
    refine aw_if_eq (tgt := 15) dX11_rest_7 rfl ⟨by decide, by decide⟩ (fun c9 => absurd c9 (by decide)) (fun _ => ?_)
    refine aw_iload_n dX11_rest_10 rfl ?_
    refine aw_iconst dX11_rest_11 ?_
    refine aw_icmp_ge (tgt := 18) dX11_rest_12 rfl (by first | assumption | (unfold ab_In at *; omega)) (by first | assumption | (unfold ab_In at *; omega)) (fun c_12 => ?_) (fun c_12 => ?_)
    · exfalso; omega
    · refine aw_bipush dX11_rest_15 rfl ?_
      refine aw_ireturn dX11_rest_17 rfl ?_
      exact ⟨by first | rw [if_pos (by omega)] | rw [if_neg (by omega)] | rfl, rfl⟩
  · rw [if_neg q1] at e9
    subst e9
    refine aw_if_eq (tgt := 15) dX11_rest_7 rfl ⟨by decide, by decide⟩ (fun _ => ?_) (fun c9 => absurd (by decide) c9)
    refine aw_bipush dX11_rest_15 rfl ?_
    refine aw_ireturn dX11_rest_17 rfl ?_
    exact ⟨by first | rw [if_pos (by omega)] | rw [if_neg (by omega)] | rfl, rfl⟩
set_option maxHeartbeats 4000000 in
set_option maxRecDepth 100000 in
theorem ct_X12_rest_bad (G : ab_G) (I : Nat → Nat → Int) (F : Nat → Nat → Nat) (hF : ab_FB F) (a : Int) (ha : ab_In a) (b : Int) (hb : ab_In b)  (hbad : ¬ ((1 ≤ a ∧ a ≤ 40) ∧ -1 ≤ b)) : Ct G 6 0 0 YX12_rest [ab_r 84, ab_i a, ab_i b] (104, I, F) (fun r h => r = some (ab_i (-3)) ∧ h = (104, I, F)) := by
  refine Ct.ofW kX12_rest (ls := [some (ab_r 84), some (ab_i a), some (ab_i b), none, none]) (Nat.le_of_ble_eq_true rfl) rfl ?_
  refine aw_iload_n dX12_rest_0 rfl ?_
  refine aw_iconst dX12_rest_1 ?_
  refine aw_bipush dX12_rest_2 rfl ?_
  refine aw_callS (as := [ab_i a, ab_i 1, ab_i 40]) (rest := []) dX12_rest_4 (ct_X12_in G (104, I, F) a 1 40 (by first | assumption | (unfold ab_In at *; omega)) (by first | assumption | (unfold ab_In at *; omega)) (by first | assumption | (unfold ab_In at *; omega))) kX12_in sX12_in lX12_75 rfl (Nat.le_of_ble_eq_true rfl) (by decide) (by decide) (by decide) (by decide) ?_
  rintro r9 _ ⟨e9, rfl⟩
  by_cases q1 : 1 ≤ a ∧ a ≤ 40
  · rw [if_pos q1] at e9
    subst e9
    refine aw_if_eq (tgt := 15) dX12_rest_7 rfl ⟨by decide, by decide⟩ (fun c9 => absurd c9 (by decide)) (fun _ => ?_)
    refine aw_iload_n dX12_rest_10 rfl ?_
    refine aw_iconst dX12_rest_11 ?_
    refine aw_icmp_ge (tgt := 18) dX12_rest_12 rfl (by first | assumption | (unfold ab_In at *; omega)) (by first | assumption | (unfold ab_In at *; omega)) (fun c_12 => ?_) (fun c_12 => ?_)
    · exfalso; omega
    · refine aw_bipush dX12_rest_15 rfl ?_
      refine aw_ireturn dX12_rest_17 rfl ?_
      exact ⟨by first | rw [if_pos (by omega)] | rw [if_neg (by omega)] | rfl, rfl⟩
  · rw [if_neg q1] at e9
    subst e9
    refine aw_if_eq (tgt := 15) dX12_rest_7 rfl ⟨by decide, by decide⟩ (fun _ => ?_) (fun c9 => absurd (by decide) c9)
    refine aw_bipush dX12_rest_15 rfl ?_
    refine aw_ireturn dX12_rest_17 rfl ?_
    exact ⟨by first | rw [if_pos (by omega)] | rw [if_neg (by omega)] | rfl, rfl⟩
set_option maxHeartbeats 4000000 in
set_option maxRecDepth 100000 in
theorem ct_X11_rest_k (G : ab_G) (I : Nat → Nat → Int) (F : Nat → Nat → Nat) (hF : ab_FB F) (n : Nat) (hn : 1 ≤ n ∧ n ≤ 40) (b : Int) (hb : ab_In b) (hb1 : -1 ≤ b) (hkn : ab_In (I 65 5)) (hk : I 65 5 = n) (hm : 0 ≤ I 65 4 ∧ I 65 4 ≤ 625) : Ct G 5 0 0 YX11_rest [ab_r 1, ab_i (n : Int), ab_i b] (104, I, F) (fun r h => r = some (ab_i (rv I b)) ∧ h = (104, I, F)) := by
  refine Ct.ofW kX11_rest (ls := [some (ab_r 1), some (ab_i (n : Int)), some (ab_i b)]) (Nat.le_of_ble_eq_true rfl) rfl ?_
  refine aw_iload_n dX11_rest_0 rfl ?_
  refine aw_iconst dX11_rest_1 ?_
  refine aw_bipush dX11_rest_2 rfl ?_
  refine aw_callS (as := [ab_i (n : Int), ab_i 1, ab_i 40]) (rest := []) dX11_rest_4 (ct_X11_within G (104, I, F) (n : Int) 1 40 (by first | assumption | (unfold ab_In at *; omega)) (by first | assumption | (unfold ab_In at *; omega)) (by first | assumption | (unfold ab_In at *; omega))) kX11_within sX11_within lX11_89 rfl (Nat.le_of_ble_eq_true rfl) (by decide) (by decide) (by decide) (by decide) ?_
  rintro r9 _ ⟨e9, rfl⟩
  rw [if_pos (by omega)] at e9
  subst e9
  refine aw_if_eq (tgt := 15) dX11_rest_7 rfl ⟨by decide, by decide⟩ (fun c9 => absurd c9 (by decide)) (fun _ => ?_)
  refine aw_iload_n dX11_rest_10 rfl ?_
  refine aw_iconst dX11_rest_11 ?_
  refine aw_icmp_ge (tgt := 18) dX11_rest_12 rfl (by first | assumption | (unfold ab_In at *; omega)) (by first | assumption | (unfold ab_In at *; omega)) (fun c_12 => ?_) (fun c_12 => ?_)
  · refine aw_aload_n dX11_rest_18 rfl (by decide) ?_
    refine aw_getrv (r := 65) dX11_rest_19 fX11_48 ⟨Nat.le_of_ble_eq_true rfl, Nat.le_of_ble_eq_true rfl⟩ rfl rfl (hF.at 1 6 65 rfl rfl rfl) ?_
    refine aw_iload_n dX11_rest_22 rfl ?_
    refine aw_callV (as := [ab_i (n : Int)]) (rest := []) dX11_rest_23 (ct_X5_areKnownFor G I F (n : Int) (by unfold ab_In; omega) hkn) ⟨Nat.le_of_ble_eq_true rfl, Nat.le_of_ble_eq_true rfl⟩ rfl kc5 rfl kX5_areKnownFor iX5_areKnownFor eX5_areKnownFor lX11_214 rfl (Nat.le_of_ble_eq_true rfl) (by decide) (by decide) (by decide) (by decide) ?_
    rintro r9 _ ⟨e9, rfl⟩
    rw [if_pos hk] at e9
    subst e9
    refine aw_if_ne (tgt := 60) dX11_rest_26 rfl ⟨by decide, by decide⟩ (fun _ => ?_) (fun c9 => absurd c9 (by decide))
    refine aw_iload_n dX11_rest_60 rfl ?_
    refine aw_iconst dX11_rest_61 ?_
    refine aw_icmp_ne (tgt := 73) dX11_rest_62 rfl (by first | assumption | (unfold ab_In at *; omega)) (by first | assumption | (unfold ab_In at *; omega)) (fun c_62 => ?_) (fun c_62 => ?_)
    · refine aw_iload_n dX11_rest_73 rfl ?_
      refine aw_aload_n dX11_rest_74 rfl (by decide) ?_
      refine aw_getrv (r := 65) dX11_rest_75 fX11_48 ⟨Nat.le_of_ble_eq_true rfl, Nat.le_of_ble_eq_true rfl⟩ rfl rfl (hF.at 1 6 65 rfl rfl rfl) ?_
      refine aw_geti dX11_rest_78 fX11_221 ⟨Nat.le_of_ble_eq_true rfl, Nat.le_of_ble_eq_true rfl⟩ rfl rfl ?_
      refine aw_icmp_ge (tgt := 96) dX11_rest_81 rfl (by first | assumption | (unfold ab_In at *; omega)) (by first | assumption | (unfold ab_In at *; omega)) (fun c_81 => ?_) (fun c_81 => ?_)
      · refine aw_iconst dX11_rest_96 ?_
        refine aw_ireturn dX11_rest_97 rfl ?_
        refine ⟨?_, rfl⟩
        unfold rv
        (repeat' split) <;> first | rfl | (exfalso; omega)
      · refine aw_aload_n dX11_rest_84 rfl (by decide) ?_
        refine aw_getrv (r := 65) dX11_rest_85 fX11_48 ⟨Nat.le_of_ble_eq_true rfl, Nat.le_of_ble_eq_true rfl⟩ rfl rfl (hF.at 1 6 65 rfl rfl rfl) ?_
        refine aw_getrv (r := 72) dX11_rest_88 fX11_224 ⟨Nat.le_of_ble_eq_true rfl, Nat.le_of_ble_eq_true rfl⟩ rfl rfl (hF.at 65 3 72 rfl rfl rfl) ?_
        refine aw_iload_n dX11_rest_91 rfl ?_
        refine aw_ialdq (q := b.toNat) (v := I 72 b.toNat) dX11_rest_92 ⟨Nat.le_of_ble_eq_true rfl, Nat.le_of_ble_eq_true rfl⟩ rfl (by omega) (by omega) (by decide) rfl rfl ?_
        refine aw_goto (tgt := 97) dX11_rest_93 rfl ?_
        refine aw_ireturn dX11_rest_97 rfl ?_
        refine ⟨?_, rfl⟩
        unfold rv
        (repeat' split) <;> first | rfl | (exfalso; omega)
    · refine aw_aload_n dX11_rest_65 rfl (by decide) ?_
      refine aw_getrv (r := 65) dX11_rest_66 fX11_48 ⟨Nat.le_of_ble_eq_true rfl, Nat.le_of_ble_eq_true rfl⟩ rfl rfl (hF.at 1 6 65 rfl rfl rfl) ?_
      refine aw_geti dX11_rest_69 fX11_221 ⟨Nat.le_of_ble_eq_true rfl, Nat.le_of_ble_eq_true rfl⟩ rfl rfl ?_
      refine aw_ireturn dX11_rest_72 rfl ?_
      refine ⟨?_, rfl⟩
      unfold rv
      (repeat' split) <;> first | rfl | (exfalso; omega)
  · exfalso; omega
set_option maxHeartbeats 4000000 in
set_option maxRecDepth 100000 in
theorem ct_X11_rest_n (G : ab_G) (I : Nat → Nat → Int) (F : Nat → Nat → Nat) (hF : ab_FB F) (L : List P5) (wk nx : Int) (n : Nat) (hC : CS 23 I F L wk nx (2 * wk)) (hq : Nq L nx) (hwk : 0 ≤ wk ∧ wk + n ≤ 2900) (hnx : 0 ≤ nx ∧ nx + 13 * n ≤ 90000) (hT : TB I) (hR : RB 13 I) (hy : IVy I F) (hn : 1 ≤ n ∧ n ≤ 40) (b : Int) (hb : ab_In b) (hb1 : -1 ≤ b) (hkn : ab_In (I 65 5)) (hk : ¬ I 65 5 = n) : Ct G 5 0 0 YX11_rest [ab_r 1, ab_i (n : Int), ab_i b] (104, I, F) (fun r h => ∃ I2 F2, h = (104, I2, F2) ∧ r = some (ab_i (rv I2 b)) ∧ I2 65 5 = n ∧ I2 65 4 = ((rsQ (gnQ (ruX I 13) (tnX I) (kdX I 9 10) (kdX I 11 12) n wk L nx)).length : Int) ∧ (∀ i, i < (rsQ (gnQ (ruX I 13) (tnX I) (kdX I 9 10) (kdX I 11 12) n wk L nx)).length → (rsQ (gnQ (ruX I 13) (tnX I) (kdX I 9 10) (kdX I 11 12) n wk L nx))[i]?.map (fun q => (q : Int)) = some (I2 72 i)) ∧ (∀ i b, (i < 17 ∨ (20 < i ∧ i < 44) ∨ 72 < i) → I2 i b = I i b) ∧ (∀ i b, i ≠ 45 → F2 i b = F i b) ∧ IVy I2 F2) := by
  refine Ct.ofW kX11_rest (ls := [some (ab_r 1), some (ab_i (n : Int)), some (ab_i b)]) (Nat.le_of_ble_eq_true rfl) rfl ?_
  refine aw_iload_n dX11_rest_0 rfl ?_
  refine aw_iconst dX11_rest_1 ?_
  refine aw_bipush dX11_rest_2 rfl ?_
  refine aw_callS (as := [ab_i (n : Int), ab_i 1, ab_i 40]) (rest := []) dX11_rest_4 (ct_X11_within G (104, I, F) (n : Int) 1 40 (by first | assumption | (unfold ab_In at *; omega)) (by first | assumption | (unfold ab_In at *; omega)) (by first | assumption | (unfold ab_In at *; omega))) kX11_within sX11_within lX11_89 rfl (Nat.le_of_ble_eq_true rfl) (by decide) (by decide) (by decide) (by decide) ?_
  rintro r9 _ ⟨e9, rfl⟩
  rw [if_pos (by omega)] at e9
  subst e9
  refine aw_if_eq (tgt := 15) dX11_rest_7 rfl ⟨by decide, by decide⟩ (fun c9 => absurd c9 (by decide)) (fun _ => ?_)
  refine aw_iload_n dX11_rest_10 rfl ?_
  refine aw_iconst dX11_rest_11 ?_
  refine aw_icmp_ge (tgt := 18) dX11_rest_12 rfl (by first | assumption | (unfold ab_In at *; omega) | (rw [p2]; unfold ab_In; omega)) (by first | assumption | (unfold ab_In at *; omega) | (rw [p2]; unfold ab_In; omega)) (fun c_12 => ?_) (fun c_12 => ?_)
  · refine aw_aload_n dX11_rest_18 rfl (by decide) ?_
    refine aw_getrv (r := 65) dX11_rest_19 fX11_48 ⟨Nat.le_of_ble_eq_true rfl, Nat.le_of_ble_eq_true rfl⟩ rfl rfl (by first | exact (hF2.at 1 6 65 rfl rfl rfl) | exact (hF.at 1 6 65 rfl rfl rfl)) ?_
    refine aw_iload_n dX11_rest_22 rfl ?_
    refine aw_callV (as := [ab_i (n : Int)]) (rest := []) dX11_rest_23 (ct_X5_areKnownFor G I F (n : Int) (by unfold ab_In; omega) hkn) ⟨Nat.le_of_ble_eq_true rfl, Nat.le_of_ble_eq_true rfl⟩ rfl kc5 rfl kX5_areKnownFor iX5_areKnownFor eX5_areKnownFor lX11_214 rfl (Nat.le_of_ble_eq_true rfl) (by decide) (by decide) (by decide) (by decide) ?_
    rintro r9 _ ⟨e9, rfl⟩
    rw [if_neg hk] at e9
    subst e9
    refine aw_if_ne (tgt := 60) dX11_rest_26 rfl ⟨by decide, by decide⟩ (fun c9 => absurd rfl c9) (fun _ => ?_)
    refine aw_aload_n dX11_rest_29 rfl (by decide) ?_
    refine aw_getrv (r := 17) dX11_rest_30 fX11_23 ⟨Nat.le_of_ble_eq_true rfl, Nat.le_of_ble_eq_true rfl⟩ rfl rfl (by first | exact (hF2.at 1 2 17 rfl rfl rfl) | exact (hF.at 1 2 17 rfl rfl rfl)) ?_
    refine aw_aload_n dX11_rest_33 rfl (by decide) ?_
    refine aw_getrv (r := 13) dX11_rest_34 fX11_19 ⟨Nat.le_of_ble_eq_true rfl, Nat.le_of_ble_eq_true rfl⟩ rfl rfl (by first | exact (hF2.at 1 1 13 rfl rfl rfl) | exact (hF.at 1 1 13 rfl rfl rfl)) ?_
    refine aw_callV (as := [ab_r 13]) (rest := []) dX11_rest_37 (ct_X7_copy_17_13 G I F hF) ⟨Nat.le_of_ble_eq_true rfl, Nat.le_of_ble_eq_true rfl⟩ rfl kc7 rfl kX7_copy iX7_copy eX7_copy lX11_181 rfl (Nat.le_of_ble_eq_true rfl) (by decide) (by decide) (by decide) (by decide) ?_
    rintro _ _ ⟨rfl, I1, rfl, h1, h2, h3⟩
    have hf1 : ∀ i b, i < 17 → I1 i b = I i b := fun i b hi => h3 i b (by omega)
    have hC1 : CS 23 I1 F L wk nx (2 * wk) := hC.ofc (fun i b hi => h3 i b (by omega))
    have hT1 : TB I1 := hT.ofc (fun i b q1 q2 => hf1 i b (by omega))
    have hR1 : RB 13 I1 := hR.ofc (fun i b q1 q2 => hf1 i b (by omega))
    have hy1 : IVy I1 F := hy.of (fun i b hi => h3 i b (by omega))
    have h1 : I1 17 0 = I1 13 0 ∧ I1 17 1 = I1 13 1 ∧ I1 17 2 = I1 13 2 ∧ I1 17 3 = I1 13 3 := by rw [hf1 13 0 (by omega), hf1 13 1 (by omega), hf1 13 2 (by omega), hf1 13 3 (by omega)]; exact h1
    have hge : gnQ (ruX I1 13) (tnX I1) (kdX I1 9 10) (kdX I1 11 12) n wk L nx = gnQ (ruX I 13) (tnX I) (kdX I 9 10) (kdX I 11 12) n wk L nx := by rw [ruX_congr (I := I) (fun i b hi => hf1 i b (by omega)), tnX_congr (I := I) (fun i b hi => hf1 i b (by omega)), show kdX I1 9 10 = kdX I 9 10 from funext fun w9 => kdX_congr (fun i b hi => hf1 i b (by omega)) (by omega) (by omega) w9, show kdX I1 11 12 = kdX I 11 12 from funext fun w9 => kdX_congr (fun i b hi => hf1 i b (by omega)) (by omega) (by omega) w9]
    refine aw_aload_n dX11_rest_40 rfl (by decide) ?_
    refine aw_getrv (r := 65) dX11_rest_41 fX11_48 ⟨Nat.le_of_ble_eq_true rfl, Nat.le_of_ble_eq_true rfl⟩ rfl rfl (by first | exact (hF2.at 1 6 65 rfl rfl rfl) | exact (hF.at 1 6 65 rfl rfl rfl)) ?_
    refine aw_iload_n dX11_rest_44 rfl ?_
    refine aw_aload_n dX11_rest_45 rfl (by decide) ?_
    refine aw_getrv (r := 23) dX11_rest_46 fX11_38 ⟨Nat.le_of_ble_eq_true rfl, Nat.le_of_ble_eq_true rfl⟩ rfl rfl (by first | exact (hF2.at 1 4 23 rfl rfl rfl) | exact (hF.at 1 4 23 rfl rfl rfl)) ?_
    refine aw_aload_n dX11_rest_49 rfl (by decide) ?_
    refine aw_getrv (r := 44) dX11_rest_50 fX11_42 ⟨Nat.le_of_ble_eq_true rfl, Nat.le_of_ble_eq_true rfl⟩ rfl rfl (by first | exact (hF2.at 1 5 44 rfl rfl rfl) | exact (hF.at 1 5 44 rfl rfl rfl)) ?_
    refine aw_aload_n dX11_rest_53 rfl (by decide) ?_
    refine aw_getrv (r := 17) dX11_rest_54 fX11_23 ⟨Nat.le_of_ble_eq_true rfl, Nat.le_of_ble_eq_true rfl⟩ rfl rfl (by first | exact (hF2.at 1 2 17 rfl rfl rfl) | exact (hF.at 1 2 17 rfl rfl rfl)) ?_
    refine aw_callV (as := [ab_i (n : Int), ab_r 23, ab_r 44, ab_r 17]) (rest := []) dX11_rest_57 (ct_X5_find G I1 F hF L wk nx n hC1 hq hwk hnx hT1 hR1 hy1 hn h1) ⟨Nat.le_of_ble_eq_true rfl, Nat.le_of_ble_eq_true rfl⟩ rfl kc5 rfl kX5_find iX5_find eX5_find lX11_217 rfl (Nat.le_of_ble_eq_true rfl) (by decide) (by decide) (by decide) (by decide) ?_
    rintro _ _ ⟨rfl, I2, F2, rfl, p1, p2, p3, p4, p5, p6⟩
    rw [hge] at p2 p3
    have hF2 : ab_FB F2 := fun i j q1 q2 => (p5 i j q2).trans (hF i j q1 q2)
    have hln : (rsQ (gnQ (ruX I 13) (tnX I) (kdX I 9 10) (kdX I 11 12) n wk L nx)).length ≤ 625 := rsP_len _ 625
    refine aw_iload_n dX11_rest_60 rfl ?_
    refine aw_iconst dX11_rest_61 ?_
    refine aw_icmp_ne (tgt := 73) dX11_rest_62 rfl (by first | assumption | (unfold ab_In at *; omega) | (rw [p2]; unfold ab_In; omega)) (by first | assumption | (unfold ab_In at *; omega) | (rw [p2]; unfold ab_In; omega)) (fun c_62 => ?_) (fun c_62 => ?_)
    · refine aw_iload_n dX11_rest_73 rfl ?_
      refine aw_aload_n dX11_rest_74 rfl (by decide) ?_
      refine aw_getrv (r := 65) dX11_rest_75 fX11_48 ⟨Nat.le_of_ble_eq_true rfl, Nat.le_of_ble_eq_true rfl⟩ rfl rfl (by first | exact (hF2.at 1 6 65 rfl rfl rfl) | exact (hF.at 1 6 65 rfl rfl rfl)) ?_
      refine aw_geti dX11_rest_78 fX11_221 ⟨Nat.le_of_ble_eq_true rfl, Nat.le_of_ble_eq_true rfl⟩ rfl rfl ?_
      refine aw_icmp_ge (tgt := 96) dX11_rest_81 rfl (by first | assumption | (unfold ab_In at *; omega) | (rw [p2]; unfold ab_In; omega)) (by first | assumption | (unfold ab_In at *; omega) | (rw [p2]; unfold ab_In; omega)) (fun c_81 => ?_) (fun c_81 => ?_)
      · refine aw_iconst dX11_rest_96 ?_
        refine aw_ireturn dX11_rest_97 rfl ?_
        refine ⟨I2, F2, rfl, ?_, p1, p2, p3, fun i b hi => (p4 i b (by omega)).trans (h3 i b (by omega)), p5, p6⟩
        unfold rv
        (repeat' split) <;> first | rfl | (exfalso; omega)
      · refine aw_aload_n dX11_rest_84 rfl (by decide) ?_
        refine aw_getrv (r := 65) dX11_rest_85 fX11_48 ⟨Nat.le_of_ble_eq_true rfl, Nat.le_of_ble_eq_true rfl⟩ rfl rfl (by first | exact (hF2.at 1 6 65 rfl rfl rfl) | exact (hF.at 1 6 65 rfl rfl rfl)) ?_
        refine aw_getrv (r := 72) dX11_rest_88 fX11_224 ⟨Nat.le_of_ble_eq_true rfl, Nat.le_of_ble_eq_true rfl⟩ rfl rfl (by first | exact (hF2.at 65 3 72 rfl rfl rfl) | exact (hF.at 65 3 72 rfl rfl rfl)) ?_
        refine aw_iload_n dX11_rest_91 rfl ?_
        refine aw_ialdq (q := b.toNat) (v := I2 72 b.toNat) dX11_rest_92 ⟨Nat.le_of_ble_eq_true rfl, Nat.le_of_ble_eq_true rfl⟩ rfl (by first | omega | (rw [p2] at *; omega)) (by first | omega | (rw [p2] at *; omega)) (by decide) rfl rfl ?_
        refine aw_goto (tgt := 97) dX11_rest_93 rfl ?_
        refine aw_ireturn dX11_rest_97 rfl ?_
        refine ⟨I2, F2, rfl, ?_, p1, p2, p3, fun i b hi => (p4 i b (by omega)).trans (h3 i b (by omega)), p5, p6⟩
        unfold rv
        (repeat' split) <;> first | rfl | (exfalso; omega)
    · refine aw_aload_n dX11_rest_65 rfl (by decide) ?_
      refine aw_getrv (r := 65) dX11_rest_66 fX11_48 ⟨Nat.le_of_ble_eq_true rfl, Nat.le_of_ble_eq_true rfl⟩ rfl rfl (by first | exact (hF2.at 1 6 65 rfl rfl rfl) | exact (hF.at 1 6 65 rfl rfl rfl)) ?_
      refine aw_geti dX11_rest_69 fX11_221 ⟨Nat.le_of_ble_eq_true rfl, Nat.le_of_ble_eq_true rfl⟩ rfl rfl ?_
      refine aw_ireturn dX11_rest_72 rfl ?_
      refine ⟨I2, F2, rfl, ?_, p1, p2, p3, fun i b hi => (p4 i b (by omega)).trans (h3 i b (by omega)), p5, p6⟩
      unfold rv
      (repeat' split) <;> first | rfl | (exfalso; omega)
  · exfalso; omega
set_option maxHeartbeats 4000000 in
set_option maxRecDepth 100000 in
theorem ct_X12_isAtRest (G : ab_G) (I : Nat → Nat → Int) (F : Nat → Nat → Nat) (hF : ab_FB F) (g : Nat → Nat → Int) (hg : ∀ q s, q < 625 → s < 4 → I 97 (4 * q + s) = g q s) (hgb : ∀ q s, -10000 ≤ g q s ∧ g q s ≤ 10000) (q : Nat) (hq : q < 625) : Ct G 1 0 0 YX12_isAtRest [ab_r 84, ab_i (q : Int)] (104, I, F) (fun r h => r = some (ab_i (if arQ g q = true then 1 else 0)) ∧ h = (104, I, F)) := by
  refine Ct.ofW kX12_isAtRest (ls := [some (ab_r 84), some (ab_i (q : Int)), none, none, none, none, none]) (Nat.le_of_ble_eq_true rfl) rfl ?_
  generalize hZ : ab_Z G (fun r h => r = some (ab_i (if arQ g q = true then 1 else 0)) ∧ h = (104, I, F)) 0 0 = Z
  have outer : ∀ (d s : Nat) (v : Int), s + d = 4 → (v = 0 ∨ v = 1) → (v = 1 ↔ ∀ s9 b, s9 < s → b < 5 → g (oq q s9 b) s9 ≤ g q s9) → aW G YX12_isAtRest (ab_rm 1 0 0) Z 0 0 (104, I, F) 7 [some (ab_r 84), some (ab_i (q : Int)), some (ab_i v), some (ab_i ((5 ^ s : Nat) : Int)), some (ab_i (s : Int)), none, none] [] := by
    intro d
    induction d with
    | zero =>
      intro s v hs9 hv hP
      have hs4 : s = 4 := by omega
      subst hs4
      refine aw_iload dX12_isAtRest_7 rfl ?_
      refine aw_iconst dX12_isAtRest_9 ?_
      refine aw_icmp_ge (tgt := 90) dX12_isAtRest_10 rfl (by first | assumption | (unfold ab_In at *; omega)) (by first | assumption | (unfold ab_In at *; omega)) (fun c_10 => ?_) (fun c_10 => ?_)
      · refine aw_iload_n dX12_isAtRest_90 rfl ?_
        rw [← hZ]
        refine aw_breturn dX12_isAtRest_91 rfl hv ?_
        exact ⟨by rw [ar_v hv hP], rfl⟩
      · exfalso; omega
    | succ d ih =>
      intro s v hs9 hv hP
      have hs : s < 4 := by omega
      have h5 := pw5 hs
      have hbl := bq_le (q := q) hs
      have hdq : q / 5 ^ s < 2147483648 := Nat.lt_of_le_of_lt (Nat.div_le_self _ _) (by omega)
      have inner : ∀ (e b : Nat) (v : Int), b + e = 5 → (v = 0 ∨ v = 1) → (v = 1 ↔ (∀ s9 b, s9 < s → b < 5 → g (oq q s9 b) s9 ≤ g q s9) ∧ (∀ b9, b9 < b → g (oq q s b9) s ≤ g q s)) → aW G YX12_isAtRest (ab_rm 1 0 0) Z 0 0 (104, I, F) 27 [some (ab_r 84), some (ab_i (q : Int)), some (ab_i v), some (ab_i ((5 ^ s : Nat) : Int)), some (ab_i (s : Int)), some (ab_i ((q - bq q s * 5 ^ s : Nat) : Int)), some (ab_i (b : Int))] [] := by
        intro e
        induction e with
        | zero =>
          intro b v hb9 hv hP2
          have hb5 : b = 5 := by omega
          subst hb5
          refine aw_iload dX12_isAtRest_27 rfl ?_
          refine aw_iconst dX12_isAtRest_29 ?_
          refine aw_icmp_ge (tgt := 80) dX12_isAtRest_30 rfl (by first | assumption | (unfold ab_In at *; omega)) (by first | assumption | (unfold ab_In at *; omega)) (fun c_30 => ?_) (fun c_30 => ?_)
          · refine aw_iconst dX12_isAtRest_80 ?_
            refine aw_iload_n dX12_isAtRest_81 rfl ?_
            refine aw_imul dX12_isAtRest_82 ?_
            refine aw_to (z := ((5 ^ (s + 1) : Nat) : Int)) (by rw [Nat.pow_succ, Int.natCast_mul]; exact Int.mul_comm _ _) ?_
            refine aw_istore_n (ls' := [some (ab_r 84), some (ab_i (q : Int)), some (ab_i v), some (ab_i ((5 ^ (s + 1) : Nat) : Int)), some (ab_i (s : Int)), some (ab_i ((q - bq q s * 5 ^ s : Nat) : Int)), some (ab_i ((5 : Nat) : Int))]) dX12_isAtRest_83 (by decide) rfl ?_
            refine aw_iinc (ls' := [some (ab_r 84), some (ab_i (q : Int)), some (ab_i v), some (ab_i ((5 ^ (s + 1) : Nat) : Int)), some (ab_i ((s : Int) + 1)), some (ab_i ((q - bq q s * 5 ^ s : Nat) : Int)), some (ab_i ((5 : Nat) : Int))]) dX12_isAtRest_84 (by decide) rfl rfl ?_
            refine aw_goto (tgt := 7) dX12_isAtRest_87 rfl ?_
            have h9 := ih (s + 1) v (by omega) hv (ar_up hP2)
            exact aw_le (ab_le_c (ab_le_c (ab_le_c (ab_le_c (ab_le_c (ab_le_n (ab_le_n ab_le_nil))))))) h9
          · exfalso; omega
        | succ e ihe =>
          intro b v hb9 hv hP2
          have hol := oq_lt hq hs (show b < 5 by omega)
          have g1 := hgb (oq q s b) s
          have g2 := hgb q s
          have i1 := hg (oq q s b) s hol hs
          have i2 := hg q s hq hs
          obtain ⟨x, hx⟩ : ∃ x, oq q s b = x := ⟨_, rfl⟩
          rw [hx] at hol g1 i1
          refine aw_iload dX12_isAtRest_27 rfl ?_
          refine aw_iconst dX12_isAtRest_29 ?_
          refine aw_icmp_ge (tgt := 80) dX12_isAtRest_30 rfl (by first | assumption | (unfold ab_In at *; omega)) (by first | assumption | (unfold ab_In at *; omega)) (fun c_30 => ?_) (fun c_30 => ?_)
          · exfalso; omega
          · refine aw_iload_n dX12_isAtRest_33 rfl ?_
            refine aw_if_eq (tgt := 72) dX12_isAtRest_34 rfl (by first | assumption | (unfold ab_In at *; omega)) (fun c_34 => ?_) (fun c_34 => ?_)
            · refine aw_iconst dX12_isAtRest_72 ?_
              refine aw_istore_n (ls' := [some (ab_r 84), some (ab_i (q : Int)), some (ab_i 0), some (ab_i ((5 ^ s : Nat) : Int)), some (ab_i (s : Int)), some (ab_i ((q - bq q s * 5 ^ s : Nat) : Int)), some (ab_i (b : Int))]) dX12_isAtRest_73 (by decide) rfl ?_
              refine aw_iinc (ls' := [some (ab_r 84), some (ab_i (q : Int)), some (ab_i 0), some (ab_i ((5 ^ s : Nat) : Int)), some (ab_i (s : Int)), some (ab_i ((q - bq q s * 5 ^ s : Nat) : Int)), some (ab_i ((b : Int) + 1))]) dX12_isAtRest_74 (by decide) rfl rfl ?_
              refine aw_goto (tgt := 27) dX12_isAtRest_77 rfl ?_
              have h9 := ihe (b + 1) 0 (by omega) (by omega) (ar_st0 hP2 (by first | exact Or.inl (by omega) | exact Or.inr (by rw [hx]; omega)))
              exact h9
            · refine aw_aload_n dX12_isAtRest_37 rfl (by decide) ?_
              refine aw_getrv (r := 97) dX12_isAtRest_38 fX12_47 ⟨Nat.le_of_ble_eq_true rfl, Nat.le_of_ble_eq_true rfl⟩ rfl rfl (hF.at 84 22 97 rfl rfl rfl) ?_
              refine aw_iconst dX12_isAtRest_41 ?_
              refine aw_iload dX12_isAtRest_42 rfl ?_
              refine aw_iload dX12_isAtRest_44 rfl ?_
              refine aw_iload_n dX12_isAtRest_46 rfl ?_
              refine aw_imul dX12_isAtRest_47 ?_
              refine aw_iadd dX12_isAtRest_48 ?_
              refine aw_to (z := (x : Int)) (by rw [← hx]; unfold oq; rw [Int.natCast_add, Int.natCast_mul]) ?_
              refine aw_imul dX12_isAtRest_49 ?_
              refine aw_iload dX12_isAtRest_50 rfl ?_
              refine aw_iadd dX12_isAtRest_52 ?_
              refine aw_ialdq (q := (4 * x + s)) (v := (g x s)) dX12_isAtRest_53 ⟨Nat.le_of_ble_eq_true rfl, Nat.le_of_ble_eq_true rfl⟩ rfl (by omega) (by omega) (by decide) (by omega) i1 ?_
              refine aw_aload_n dX12_isAtRest_54 rfl (by decide) ?_
              refine aw_getrv (r := 97) dX12_isAtRest_55 fX12_47 ⟨Nat.le_of_ble_eq_true rfl, Nat.le_of_ble_eq_true rfl⟩ rfl rfl (hF.at 84 22 97 rfl rfl rfl) ?_
              refine aw_iconst dX12_isAtRest_58 ?_
              refine aw_iload_n dX12_isAtRest_59 rfl ?_
              refine aw_imul dX12_isAtRest_60 ?_
              refine aw_iload dX12_isAtRest_61 rfl ?_
              refine aw_iadd dX12_isAtRest_63 ?_
              refine aw_ialdq (q := (4 * q + s)) (v := (g q s)) dX12_isAtRest_64 ⟨Nat.le_of_ble_eq_true rfl, Nat.le_of_ble_eq_true rfl⟩ rfl (by omega) (by omega) (by decide) (by omega) i2 ?_
              refine aw_icmp_gt (tgt := 72) dX12_isAtRest_65 rfl (by first | assumption | (unfold ab_In at *; omega)) (by first | assumption | (unfold ab_In at *; omega)) (fun c_65 => ?_) (fun c_65 => ?_)
              · refine aw_iconst dX12_isAtRest_72 ?_
                refine aw_istore_n (ls' := [some (ab_r 84), some (ab_i (q : Int)), some (ab_i 0), some (ab_i ((5 ^ s : Nat) : Int)), some (ab_i (s : Int)), some (ab_i ((q - bq q s * 5 ^ s : Nat) : Int)), some (ab_i (b : Int))]) dX12_isAtRest_73 (by decide) rfl ?_
                refine aw_iinc (ls' := [some (ab_r 84), some (ab_i (q : Int)), some (ab_i 0), some (ab_i ((5 ^ s : Nat) : Int)), some (ab_i (s : Int)), some (ab_i ((q - bq q s * 5 ^ s : Nat) : Int)), some (ab_i ((b : Int) + 1))]) dX12_isAtRest_74 (by decide) rfl rfl ?_
                refine aw_goto (tgt := 27) dX12_isAtRest_77 rfl ?_
                have h9 := ihe (b + 1) 0 (by omega) (by omega) (ar_st0 hP2 (by first | exact Or.inl (by omega) | exact Or.inr (by rw [hx]; omega)))
                exact h9
              · refine aw_iconst dX12_isAtRest_68 ?_
                refine aw_goto (tgt := 73) dX12_isAtRest_69 rfl ?_
                refine aw_istore_n (ls' := [some (ab_r 84), some (ab_i (q : Int)), some (ab_i 1), some (ab_i ((5 ^ s : Nat) : Int)), some (ab_i (s : Int)), some (ab_i ((q - bq q s * 5 ^ s : Nat) : Int)), some (ab_i (b : Int))]) dX12_isAtRest_73 (by decide) rfl ?_
                refine aw_iinc (ls' := [some (ab_r 84), some (ab_i (q : Int)), some (ab_i 1), some (ab_i ((5 ^ s : Nat) : Int)), some (ab_i (s : Int)), some (ab_i ((q - bq q s * 5 ^ s : Nat) : Int)), some (ab_i ((b : Int) + 1))]) dX12_isAtRest_74 (by decide) rfl rfl ?_
                refine aw_goto (tgt := 27) dX12_isAtRest_77 rfl ?_
                have h9 := ihe (b + 1) 1 (by omega) (by omega) (ar_st1 hP2 (by omega) (by rw [hx]; omega))
                exact h9
      refine aw_iload dX12_isAtRest_7 rfl ?_
      refine aw_iconst dX12_isAtRest_9 ?_
      refine aw_icmp_ge (tgt := 90) dX12_isAtRest_10 rfl (by first | assumption | (unfold ab_In at *; omega)) (by first | assumption | (unfold ab_In at *; omega)) (fun c_10 => ?_) (fun c_10 => ?_)
      · exfalso; omega
      · refine aw_iload_n dX12_isAtRest_13 rfl ?_
        refine aw_iload_n dX12_isAtRest_14 rfl ?_
        refine aw_iload_n dX12_isAtRest_15 rfl ?_
        refine aw_idiv dX12_isAtRest_16 (by unfold ab_In; omega) (by omega) ?_
        refine aw_to (z := ((q / 5 ^ s : Nat) : Int)) (nat_div (by omega) (by omega) (by omega)) ?_
        refine aw_iconst dX12_isAtRest_17 ?_
        refine aw_irem dX12_isAtRest_18 (by unfold ab_In; omega) (by omega) ?_
        refine aw_to (z := ((bq q s : Nat) : Int)) (nat_rem (b := 5) hdq (by decide) (by decide)) ?_
        refine aw_iload_n dX12_isAtRest_19 rfl ?_
        refine aw_imul dX12_isAtRest_20 ?_
        refine aw_isub dX12_isAtRest_21 ?_
        refine aw_to (z := ((q - bq q s * 5 ^ s : Nat) : Int)) (by rw [Int.ofNat_sub hbl, Int.natCast_mul]) ?_
        refine aw_istore (ls' := [some (ab_r 84), some (ab_i (q : Int)), some (ab_i v), some (ab_i ((5 ^ s : Nat) : Int)), some (ab_i (s : Int)), some (ab_i ((q - bq q s * 5 ^ s : Nat) : Int)), none]) dX12_isAtRest_22 (by decide) rfl ?_
        refine aw_iconst dX12_isAtRest_24 ?_
        refine aw_istore (ls' := [some (ab_r 84), some (ab_i (q : Int)), some (ab_i v), some (ab_i ((5 ^ s : Nat) : Int)), some (ab_i (s : Int)), some (ab_i ((q - bq q s * 5 ^ s : Nat) : Int)), some (ab_i 0)]) dX12_isAtRest_25 (by decide) rfl ?_
        exact inner 5 0 v (by omega) hv (hP.trans ⟨fun h9 => ⟨h9, fun b9 q9 => by omega⟩, fun h9 => h9.1⟩)
  refine aw_iconst dX12_isAtRest_0 ?_
  refine aw_istore_n (ls' := [some (ab_r 84), some (ab_i (q : Int)), some (ab_i 1), none, none, none, none]) dX12_isAtRest_1 (by decide) rfl ?_
  refine aw_iconst dX12_isAtRest_2 ?_
  refine aw_istore_n (ls' := [some (ab_r 84), some (ab_i (q : Int)), some (ab_i 1), some (ab_i 1), none, none, none]) dX12_isAtRest_3 (by decide) rfl ?_
  refine aw_iconst dX12_isAtRest_4 ?_
  refine aw_istore (ls' := [some (ab_r 84), some (ab_i (q : Int)), some (ab_i 1), some (ab_i 1), some (ab_i 0), none, none]) dX12_isAtRest_5 (by decide) rfl ?_
  exact outer 4 0 1 (by omega) (Or.inr rfl) ⟨fun _ s9 b q9 => by omega, fun _ => rfl⟩
