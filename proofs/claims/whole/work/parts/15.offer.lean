/-- what rules may be -/
def RB (r : Nat) (I : Nat → Nat → Int) : Prop := (0 ≤ I r 0 ∧ I r 0 ≤ 2) ∧ (0 ≤ I r 1 ∧ I r 1 ≤ 9) ∧ (0 ≤ I r 2 ∧ I r 2 ≤ 2) ∧ (0 ≤ I r 3 ∧ I r 3 ≤ 9) ∧ ∀ s, s < 4 → (0 ≤ I (r + 1) s ∧ I (r + 1) s ≤ 2) ∧ (0 ≤ I (r + 2) s ∧ I (r + 2) s ≤ 99) ∧ (0 ≤ I (r + 3) s ∧ I (r + 3) s ≤ 9)
/-- what the town may be -/
def TB (I : Nat → Nat → Int) : Prop := (∀ s, s < 4 → 1 ≤ I 8 s ∧ I 8 s ≤ 9) ∧ (∀ s k, s < 4 → k < 4 → 0 ≤ I (4 + s) k ∧ I (4 + s) k ≤ 99) ∧ (0 ≤ I 9 1 ∧ I 9 1 ≤ 24) ∧ (∀ j, j < 24 → -1 ≤ I 10 j ∧ I 10 j ≤ 3) ∧ (0 ≤ I 11 1 ∧ I 11 1 ≤ 24) ∧ (∀ j, j < 24 → -1 ≤ I 12 j ∧ I 12 j ≤ 3)
theorem RB.of {r : Nat} {I J : Nat → Nat → Int} (h : RB r I) (he : ∀ i b, i ≤ r + 3 → J i b = I i b) : RB r J := by
  unfold RB at *
  refine ⟨?_, ?_, ?_, ?_, fun s hs => ?_⟩
  · rw [he r 0 (by omega)]; exact h.1
  · rw [he r 1 (by omega)]; exact h.2.1
  · rw [he r 2 (by omega)]; exact h.2.2.1
  · rw [he r 3 (by omega)]; exact h.2.2.2.1
  · rw [he (r + 1) s (by omega), he (r + 2) s (by omega), he (r + 3) s (by omega)]; exact h.2.2.2.2 s hs
theorem TB.of {I J : Nat → Nat → Int} (h : TB I) (he : ∀ i b, i ≤ 12 → J i b = I i b) : TB J := by
  refine ⟨fun s hs => ?_, fun s k hs hk => ?_, ?_, fun j hj => ?_, ?_, fun j hj => ?_⟩
  · rw [he 8 s (by omega)]; exact h.1 s hs
  · rw [he (4 + s) k (by omega)]; exact h.2.1 s k hs hk
  · rw [he 9 1 (by omega)]; exact h.2.2.1
  · rw [he 10 j (by omega)]; exact h.2.2.2.1 j hj
  · rw [he 11 1 (by omega)]; exact h.2.2.2.2.1
  · rw [he 12 j (by omega)]; exact h.2.2.2.2.2 j hj
theorem rl_01 (w b f v t : Int) : rl_takes w b f v t = 0 ∨ rl_takes w b f v t = 1 := by
  unfold rl_takes; (repeat' split) <;> omega
theorem mul_bd {a b : Int} (h0 : 0 ≤ a) (h1 : a ≤ 9) (h2 : 0 ≤ b) (h3 : b ≤ 6001) : 0 ≤ a * b ∧ a * b ≤ 54009 := by
  refine ⟨Int.mul_nonneg h0 h2, ?_⟩
  calc a * b ≤ 9 * b := Int.mul_le_mul_of_nonneg_right h1 h2
    _ ≤ 54009 := by omega
theorem tk1_X {I J : Nat → Nat → Int} {r k s : Nat} {t : P5} (he : ∀ i b, i ≤ r + 3 → J i b = I i b) (he2 : ∀ i b, i ≤ 12 → J i b = I i b) (hs : t.1.toNat = s) (hs4 : s < 4) (hk : k < 4) : tk1 (ruX I r) (tnX I) k t = rl_takes (J (r + 1) s) (J (r + 2) s) (J (r + 3) s) (J (4 + s) k) t.2.2.2.2 := by
  unfold tk1 ruX
  dsimp only
  rw [hs, n4_lt hs4, n4_lt hs4, n4_lt hs4, tnX_w hs4 hk, he _ _ (by omega), he _ _ (by omega), he _ _ (by omega), he2 _ _ (by omega)]
/-- behind an offer -/
def OE (c : Nat) (I0 : Nat → Nat → Int) (F0 : Nat → Nat → Nat) (wk : Int) (o : OS) (I : Nat → Nat → Int) (F : Nat → Nat → Nat) : Prop :=
  o.1.length ≤ 12 ∧ (I c 2 = o.1.length ∧ I c 3 = I0 c 3 ∧ I c 5 = I0 c 5 + (if o.2.2.2 = true then 0 else 1) ∧ I c 4 = o.2.2.1) ∧ (∀ w s, w < 6 → s < 4 → I (c + 3 + w) s = I0 (c + 3 + w) s + o.2.1 w s) ∧
  (∀ i b, (i < c ∨ c + 20 < i) → I i b = I0 i b) ∧ (∀ i b, i ≠ c + 1 → F i b = F0 i b) ∧ (∀ i, i < 12 → c + 9 ≤ F (c + 1) i ∧ F (c + 1) i ≤ c + 20) ∧
  (∀ a b, a < 12 → b < 12 → F (c + 1) a = F (c + 1) b → a = b) ∧ (∀ i, i < o.1.length → o.1[i]? = some (tup I (F (c + 1) i))) ∧
  (∀ t ∈ o.1, PB (wk + 1) o.2.2.1 t) ∧ (∀ p, c + 9 ≤ p → p ≤ c + 20 → PB 6000 100000 (tup I p))
theorem OI.end {c : Nat} {I0 I : Nat → Nat → Int} {F0 F : Nat → Nat → Nat} {N : Nat} {wk : Int} {o : OS} (h : OI c I0 F0 N wk N o I F) (ht : o.2.2.2 = true) : OE c I0 F0 wk o (ab_u I c 2 (o.1.length : Int)) F := by
  obtain ⟨⟨h1, h1'⟩, ⟨h2, h3, h4, h5⟩, h6, h7, h8, h9, h10, h11, h12, h13, h14, h15⟩ := h
  refine ⟨by omega, ⟨ab_u_s, by rw [ab_u_j (by omega)]; exact h3, by rw [ab_u_j (by omega), if_pos ht, h4]; omega, by rw [ab_u_j (by omega)]; exact h5⟩, fun w s hw hs => by rw [ab_u_i (by omega)]; exact h6 w s hw hs, fun i b hi => by rw [ab_u_i (by omega)]; exact h7 i b hi, h8, h9, h10, fun i hi => ?_, h14, fun p hp hp2 => ?_⟩
  · have := h9 i (by omega)
    rw [tup_u (by omega)]; exact h11 i hi
  · rw [tup_u (by omega)]; exact h15 p hp hp2
theorem OI.end2 {c : Nat} {I0 I : Nat → Nat → Int} {F0 F : Nat → Nat → Nat} {N : Nat} {wk : Int} {o : OS} (h : OI c I0 F0 N wk N o I F) (ht : o.2.2.2 = false) : OE c I0 F0 wk o (ab_u (ab_u I c 2 (o.1.length : Int)) c 5 (I c 5 + 1)) F := by
  obtain ⟨⟨h1, h1'⟩, ⟨h2, h3, h4, h5⟩, h6, h7, h8, h9, h10, h11, h12, h13, h14, h15⟩ := h
  refine ⟨by omega, ⟨by rw [ab_u_j (by omega), ab_u_s], by rw [ab_u_j (by omega), ab_u_j (by omega)]; exact h3, by rw [ab_u_s, if_neg (by rw [ht]; decide), h4], by rw [ab_u_j (by omega), ab_u_j (by omega)]; exact h5⟩, fun w s hw hs => by rw [ab_u_i (by omega), ab_u_i (by omega)]; exact h6 w s hw hs, fun i b hi => by rw [ab_u_i (by omega), ab_u_i (by omega)]; exact h7 i b hi, h8, h9, h10, fun i hi => ?_, h14, fun p hp hp2 => ?_⟩
  · have := h9 i (by omega)
    rw [tup_u (by omega), tup_u (by omega)]; exact h11 i hi
  · rw [tup_u (by omega), tup_u (by omega)]; exact h15 p hp hp2
theorem drop_map_range {α : Type} (f : Nat → α) {N j : Nat} (h : j < N) : ((List.range N).map f).drop j = f j :: ((List.range N).map f).drop (j + 1) := by
  rw [List.drop_eq_getElem_cons (by simpa using h)]
  simp
set_option maxHeartbeats 4000000 in
set_option maxRecDepth 100000 in
theorem ct_X1_offer_23_13 (G : ab_G) (I : Nat → Nat → Int) (F : Nat → Nat → Nat) (hF : ab_FB F) (wk : Int) (hba : ∀ p, 32 ≤ p → p ≤ 43 → PB 6000 100000 (tup I p)) (hwk : 0 ≤ wk ∧ wk ≤ 5999) (hnx : 0 ≤ I 23 4 ∧ I 23 4 ≤ 90000) (hT : TB I) (hR : RB 13 I) (N k : Nat) (hk : k < 4) (hN : I 23 2 = N) (hbm : ∀ i, i < N → PB wk (I 23 4) (tup I (F 24 i))) (hN12 : N ≤ 12) (hP : ∀ j, j < 12 → 32 ≤ F 24 j ∧ F 24 j ≤ 43) (hJ : ∀ a b, a < 12 → b < 12 → sd (fun a b => ah (I 13 0) (n4 (I 8)) (tup I a) (tup I b)) (F 24) N a = sd (fun a b => ah (I 13 0) (n4 (I 8)) (tup I a) (tup I b)) (F 24) N b → a = b) : Ct G 2 0 0 YX1_offer [ab_r 23, ab_i (k : Int), ab_r 13] (104, I, F) (fun q h => q = none ∧ ∃ I2 F2, h = (104, I2, F2) ∧ OE 23 I (rw_ F 24 (sd (fun a b => ah (I 13 0) (n4 (I 8)) (tup I a) (tup I b)) (F 24) N)) wk (((List.range N).map (fun i => tup I ((rw_ F 24 (sd (fun a b => ah (I 13 0) (n4 (I 8)) (tup I a) (tup I b)) (F 24) N)) 24 i))).foldl (of_step (ruX I 13) (tnX I) k) ([], fun _ _ => 0, I 23 4, false)) I2 F2) := by
  refine Ct.ofW kX1_offer (ls := [some (ab_r 23), some (ab_i (k : Int)), some (ab_r 13), none, none, none, none, none]) (Nat.le_of_ble_eq_true rfl) rfl ?_
  have hR0 := hR.1
  have hP2 : ∀ j, j < 12 → 32 ≤ sd (fun a b => ah (I 13 0) (n4 (I 8)) (tup I a) (tup I b)) (F 24) N j ∧ sd (fun a b => ah (I 13 0) (n4 (I 8)) (tup I a) (tup I b)) (F 24) N j ≤ 43 := fun j hj => sd_all _ (fun p => 32 ≤ p ∧ p ≤ 43) hP N hN12 j hj
  have hFs : ab_FB (rw_ F 24 (sd (fun a b => ah (I 13 0) (n4 (I 8)) (tup I a) (tup I b)) (F 24) N)) := hF.rw 24 _ (by omega)
  have hst := ct_X1_stand_23 G I F hF 6000 100000 hba (by omega) (by omega) hT.1 (I 13 0) (by unfold ab_In; omega) N hN hN12 hP
  have hbs : ∀ i, i < N → PB wk (I 23 4) (tup I (sd (fun a b => ah (I 13 0) (n4 (I 8)) (tup I a) (tup I b)) (F 24) N i)) := fun i hi => sd_allN _ (fun p => PB wk (I 23 4) (tup I p)) N hbm N (Nat.le_refl _) i hi
  have hFL : ∀ i, (rw_ F 24 (sd (fun a b => ah (I 13 0) (n4 (I 8)) (tup I a) (tup I b)) (F 24) N)) 24 i = sd (fun a b => ah (I 13 0) (n4 (I 8)) (tup I a) (tup I b)) (F 24) N i := fun i => rw_s _ _ _ _
  generalize hFse : (rw_ F 24 (sd (fun a b => ah (I 13 0) (n4 (I 8)) (tup I a) (tup I b)) (F 24) N)) = Fs at *
  generalize hO : (((List.range N).map (fun i => tup I (Fs 24 i))).foldl (of_step (ruX I 13) (tnX I) k) ([], fun _ _ => 0, I 23 4, false)) = O
  generalize hZ : ab_Z G (fun q h => q = none ∧ ∃ I2 F2, h = (104, I2, F2) ∧ OE 23 I Fs wk O I2 F2) 0 0 = Z
  have loop : ∀ (d j : Nat) (o : OS) (I1 : Nat → Nat → Int) (F1 : Nat → Nat → Nat), j + d = N → OI 23 I Fs N wk j o I1 F1 → I 23 4 ≤ o.2.2.1 → o.2.2.1 ≤ I 23 4 + j → (((List.range N).map (fun i => tup I (Fs 24 i))).drop j).foldl (of_step (ruX I 13) (tnX I) k) o = O → aW G YX1_offer (ab_rm 2 0 0) Z 0 0 (104, I1, F1) 16 [some (ab_r 23), some (ab_i (k : Int)), some (ab_r 13), some (ab_i (if o.2.2.2 = true then 1 else 0)), some (ab_i (o.1.length : Int)), some (ab_i (j : Int)), none, none] [] := by
    intro d
    induction d with
    | zero =>
      intro j o I1 F1 hj hOI hx1 hx2 hfo
      have hjN : j = N := by omega
      subst hjN
      rw [List.drop_of_length_le (by simp)] at hfo
      have hfo : o = O := hfo
      subst hfo
      have h2 := hOI.2.1.1
      have hO1 := hOI.1.1
      cases htk : o.2.2.2 with
      | true =>
        rw [if_pos (by decide)]
        refine aw_iload dX1_offer_16 rfl ?_
        refine aw_aload_n dX1_offer_18 rfl (by decide) ?_
        refine aw_getiv (v := (j : Int)) dX1_offer_19 fX1_17 ⟨Nat.le_of_ble_eq_true rfl, Nat.le_of_ble_eq_true rfl⟩ rfl rfl h2 ?_
        refine aw_icmp_ge (tgt := 140) dX1_offer_22 rfl (by first | assumption | (unfold ab_In at *; omega)) (by first | assumption | (unfold ab_In at *; omega)) (fun c_22 => ?_) (fun c_22 => ?_)
        · refine aw_aload_n dX1_offer_140 rfl (by decide) ?_
          refine aw_iload dX1_offer_141 rfl ?_
          refine aw_puti dX1_offer_143 fX1_17 ⟨Nat.le_of_ble_eq_true rfl, Nat.le_of_ble_eq_true rfl⟩ rfl rfl ?_
          refine aw_iload_n dX1_offer_146 rfl ?_
          refine aw_if_ne (tgt := 160) dX1_offer_147 rfl ⟨by decide, by decide⟩ (fun _ => ?_) (fun c9 => absurd c9 (by decide))
          rw [← hZ]
          refine aw_return dX1_offer_160 rfl ?_
          exact ⟨rfl, _, _, rfl, hOI.end htk⟩
        · exfalso; omega
      | false =>
        rw [if_neg (by decide)]
        refine aw_iload dX1_offer_16 rfl ?_
        refine aw_aload_n dX1_offer_18 rfl (by decide) ?_
        refine aw_getiv (v := (j : Int)) dX1_offer_19 fX1_17 ⟨Nat.le_of_ble_eq_true rfl, Nat.le_of_ble_eq_true rfl⟩ rfl rfl h2 ?_
        refine aw_icmp_ge (tgt := 140) dX1_offer_22 rfl (by first | assumption | (unfold ab_In at *; omega)) (by first | assumption | (unfold ab_In at *; omega)) (fun c_22 => ?_) (fun c_22 => ?_)
        · refine aw_aload_n dX1_offer_140 rfl (by decide) ?_
          refine aw_iload dX1_offer_141 rfl ?_
          refine aw_puti dX1_offer_143 fX1_17 ⟨Nat.le_of_ble_eq_true rfl, Nat.le_of_ble_eq_true rfl⟩ rfl rfl ?_
          refine aw_iload_n dX1_offer_146 rfl ?_
          refine aw_if_ne (tgt := 160) dX1_offer_147 rfl ⟨by decide, by decide⟩ (fun c9 => absurd rfl c9) (fun _ => ?_)
          refine aw_aload_n dX1_offer_150 rfl (by decide) ?_
          refine aw_dup dX1_offer_151 rfl ?_
          refine aw_getiv (v := I1 23 5) dX1_offer_152 fX1_27 ⟨Nat.le_of_ble_eq_true rfl, Nat.le_of_ble_eq_true rfl⟩ rfl rfl (ab_u_j (by decide)) ?_
          refine aw_iconst dX1_offer_155 ?_
          refine aw_iadd dX1_offer_156 ?_
          refine aw_puti dX1_offer_157 fX1_27 ⟨Nat.le_of_ble_eq_true rfl, Nat.le_of_ble_eq_true rfl⟩ rfl rfl ?_
          rw [← hZ]
          refine aw_return dX1_offer_160 rfl ?_
          exact ⟨rfl, _, _, rfl, hOI.end2 htk⟩
        · exfalso; omega
    | succ d ih =>
      intro j o I1 F1 hj hOI hx1 hx2 hfo
      have hjN : j < N := by omega
      have h2 := hOI.2.1.1
      have hO1 := hOI.1.1
      have h4 := hOI.2.1.2.2.2
      have h7 := hOI.2.2.2.1
      have h8 := hOI.2.2.2.2.1
      have h9 := hOI.2.2.2.2.2.1
      have hF1 : ab_FB F1 := fun a b e1 e2 => (h8 a b (by omega)).trans (hFs a b e1 e2)
      have he : ∀ i b, i ≤ 13 + 3 → I1 i b = I i b := fun i b hi => h7 i b (by omega)
      have he2 : ∀ i b, i ≤ 12 → I1 i b = I i b := fun i b hi => h7 i b (by omega)
      have hT1 : TB I1 := hT.of he2
      have hR1 : RB 13 I1 := hR.of he
      have hpb : PB wk (I1 23 4) (tup I1 (F1 24 j)) := OI_pbw hOI hjN (fun i hi => by have := hbs i hi; rw [← hFL] at this; exact this) (by rw [h4]; exact hx1)
      have hp : 32 ≤ F1 24 j ∧ F1 24 j ≤ 43 := h9 j (by omega)
      have hpm : 32 ≤ F1 24 o.1.length ∧ F1 24 o.1.length ≤ 43 := h9 o.1.length (by omega)
      have hstep : ((List.range N).map (fun i => tup I (Fs 24 i))).drop j = tup I1 (F1 24 j) :: ((List.range N).map (fun i => tup I (Fs 24 i))).drop (j + 1) := by rw [drop_map_range _ hjN, hOI.2.2.2.2.2.2.2.2.1 j (Nat.le_refl _) (by omega), hOI.2.2.2.2.2.2.2.2.2.1 j (Nat.le_refl _) (by omega)]
      rw [hstep, List.foldl_cons] at hfo
      obtain ⟨p, hpF⟩ : ∃ p, F1 24 j = p := ⟨_, rfl⟩
      obtain ⟨s, hs⟩ : ∃ s : Nat, I1 p 0 = (s : Int) := ⟨(I1 p 0).toNat, by rw [← hpF]; unfold PB tup at hpb; dsimp only at hpb; omega⟩
      have hs4 : s < 4 := by rw [← hpF] at hs; unfold PB tup at hpb; dsimp only at hpb; omega
      have hpb2 : (0 ≤ I1 p 3 ∧ I1 p 3 ≤ 6000) ∧ (0 ≤ I1 p 4 ∧ I1 p 4 ≤ 6000) := by rw [← hpF]; unfold PB tup at hpb; dsimp only at hpb; omega
      have hp2 : 32 ≤ p ∧ p ≤ 43 := by rw [← hpF]; exact hp
      have hRs : (0 ≤ I1 14 s ∧ I1 14 s ≤ 2) ∧ (0 ≤ I1 15 s ∧ I1 15 s ≤ 99) ∧ (0 ≤ I1 16 s ∧ I1 16 s ≤ 9) := hR1.2.2.2.2 s hs4
      have hTw := hT1.2.1 s k hs4 hk
      have hR10 := hR1.2.1
      have hR20 := hR1.2.2.1
      have hmb := mul_bd hRs.2.2.1 hRs.2.2.2 hpb2.2.1 (by omega)
      have htk1 : tk1 (ruX I 13) (tnX I) k (tup I1 p) = rl_takes (I1 14 s) (I1 15 s) (I1 16 s) (I1 (4 + s) k) (I1 p 4) := tk1_X he he2 (by unfold tup; dsimp only; omega) hs4 hk
      cases htk : o.2.2.2 with
      | true =>
        rw [if_pos (by decide)]
        refine aw_iload dX1_offer_16 rfl ?_
        refine aw_aload_n dX1_offer_18 rfl (by decide) ?_
        refine aw_getiv (v := (N : Int)) dX1_offer_19 fX1_17 ⟨Nat.le_of_ble_eq_true rfl, Nat.le_of_ble_eq_true rfl⟩ rfl rfl h2 ?_
        refine aw_icmp_ge (tgt := 140) dX1_offer_22 rfl (by first | assumption | (unfold ab_In at *; omega)) (by first | assumption | (unfold ab_In at *; omega)) (fun c_22 => ?_) (fun c_22 => ?_)
        · exfalso; omega
        · refine aw_aload_n dX1_offer_25 rfl (by decide) ?_
          refine aw_getrv (r := 24) dX1_offer_26 fX1_11 ⟨Nat.le_of_ble_eq_true rfl, Nat.le_of_ble_eq_true rfl⟩ rfl rfl (hF1.at 23 1 24 rfl rfl rfl) ?_
          refine aw_iload dX1_offer_29 rfl ?_
          refine aw_aaldv (r := p) dX1_offer_31 ⟨Nat.le_of_ble_eq_true rfl, Nat.le_of_ble_eq_true rfl⟩ rfl (by decide) (by omega) (by omega) (by decide) hpF ?_
          refine aw_astore (ls' := [some (ab_r 23), some (ab_i (k : Int)), some (ab_r 13), some (ab_i 1), some (ab_i (o.1.length : Int)), some (ab_i (j : Int)), some (ab_r p), none]) dX1_offer_32 (by decide) (by omega) rfl ?_
          refine aw_iconst dX1_offer_34 ?_
          refine aw_istore (ls' := [some (ab_r 23), some (ab_i (k : Int)), some (ab_r 13), some (ab_i 1), some (ab_i (o.1.length : Int)), some (ab_i (j : Int)), some (ab_r p), some (ab_i 0)]) dX1_offer_35 (by decide) rfl ?_
          refine aw_iload_n dX1_offer_37 rfl ?_
          refine aw_if_ne (tgt := 103) dX1_offer_38 rfl ⟨by decide, by decide⟩ (fun _ => ?_) (fun c9 => absurd c9 (by decide))
          refine aw_iload dX1_offer_103 rfl ?_
          refine aw_if_ne (tgt := 134) dX1_offer_105 rfl ⟨by decide, by decide⟩ (fun c9 => absurd rfl c9) (fun _ => ?_)
          refine aw_aload_n dX1_offer_108 rfl (by decide) ?_
          refine aw_getrv (r := 24) dX1_offer_109 fX1_11 ⟨Nat.le_of_ble_eq_true rfl, Nat.le_of_ble_eq_true rfl⟩ rfl rfl (hF1.at 23 1 24 rfl rfl rfl) ?_
          refine aw_iload dX1_offer_112 rfl ?_
          refine aw_aload_n dX1_offer_114 rfl (by decide) ?_
          refine aw_getrv (r := 24) dX1_offer_115 fX1_11 ⟨Nat.le_of_ble_eq_true rfl, Nat.le_of_ble_eq_true rfl⟩ rfl rfl (hF1.at 23 1 24 rfl rfl rfl) ?_
          refine aw_iload dX1_offer_118 rfl ?_
          refine aw_aaldv (r := F1 24 o.1.length) dX1_offer_120 ⟨Nat.le_of_ble_eq_true rfl, Nat.le_of_ble_eq_true rfl⟩ rfl (by decide) (by omega) (by omega) (by decide) rfl ?_
          refine aw_aastv (q := j) kc4 dX1_offer_121 ⟨Nat.le_of_ble_eq_true rfl, Nat.le_of_ble_eq_true rfl⟩ rfl (by omega) (by omega) (by decide) ⟨by omega, by omega⟩ (sh_p23 hpm) rfl ?_
          refine aw_aload_n dX1_offer_122 rfl (by decide) ?_
          refine aw_getrv (r := 24) dX1_offer_123 fX1_11 ⟨Nat.le_of_ble_eq_true rfl, Nat.le_of_ble_eq_true rfl⟩ rfl rfl (hF1.at 23 1 24 rfl rfl rfl) ?_
          refine aw_iload dX1_offer_126 rfl ?_
          refine aw_aload dX1_offer_128 rfl (by omega) ?_
          refine aw_aastv (q := o.1.length) kc4 dX1_offer_130 ⟨Nat.le_of_ble_eq_true rfl, Nat.le_of_ble_eq_true rfl⟩ rfl (by omega) (by omega) (by decide) ⟨by omega, by omega⟩ (sh_p23 hp2) rfl ?_
          refine aw_iinc (ls' := [some (ab_r 23), some (ab_i (k : Int)), some (ab_r 13), some (ab_i 1), some (ab_i ((o.1.length : Int) + 1)), some (ab_i (j : Int)), some (ab_r p), some (ab_i 0)]) dX1_offer_131 (by decide) rfl rfl ?_
          refine aw_iinc (ls' := [some (ab_r 23), some (ab_i (k : Int)), some (ab_r 13), some (ab_i 1), some (ab_i ((o.1.length : Int) + 1)), some (ab_i ((j : Int) + 1)), some (ab_r p), some (ab_i 0)]) dX1_offer_134 (by decide) rfl rfl ?_
          refine aw_goto (tgt := 16) dX1_offer_137 rfl ?_
          subst hpF
          have n1 :  o.2.2.2 = true := by rw [htk]
          have eTk : (if (of_step (ruX I 13) (tnX I) k o (tup I1 (F1 24 j))).2.2.2 = true then (1 : Int) else 0) = 1 := by unfold of_step; rw [if_pos htk]; simp
          have eLn : (of_step (ruX I 13) (tnX I) k o (tup I1 (F1 24 j))).1.length = o.1.length + 1 := by unfold of_step; rw [if_pos htk]; simp
          have hn := OI_a (ru := ruX I 13) (tn := tnX I) (k := k) hOI hjN hpb htk
          have ih9 := ih (j + 1) _ _ _ (by omega) hn (by unfold of_step; (repeat' split) <;> (try dsimp only) <;> omega) (by unfold of_step; (repeat' split) <;> (try dsimp only) <;> omega) hfo
          refine aw_le (ls' := [some (ab_r 23), some (ab_i (k : Int)), some (ab_r 13), some (ab_i 1), some (ab_i ((o.1.length : Int) + 1)), some (ab_i ((j : Int) + 1)), none, none]) (ab_le_c (ab_le_c (ab_le_c (ab_le_c (ab_le_c (ab_le_c (ab_le_n (ab_le_n ab_le_nil)))))))) ?_
          refine aw_ls ?_ ih9
          rw [eTk, eLn]
          rfl
      | false =>
        rw [if_neg (by decide)]
        refine aw_iload dX1_offer_16 rfl ?_
        refine aw_aload_n dX1_offer_18 rfl (by decide) ?_
        refine aw_getiv (v := (N : Int)) dX1_offer_19 fX1_17 ⟨Nat.le_of_ble_eq_true rfl, Nat.le_of_ble_eq_true rfl⟩ rfl rfl h2 ?_
        refine aw_icmp_ge (tgt := 140) dX1_offer_22 rfl (by first | assumption | (unfold ab_In at *; omega)) (by first | assumption | (unfold ab_In at *; omega)) (fun c_22 => ?_) (fun c_22 => ?_)
        · exfalso; omega
        · refine aw_aload_n dX1_offer_25 rfl (by decide) ?_
          refine aw_getrv (r := 24) dX1_offer_26 fX1_11 ⟨Nat.le_of_ble_eq_true rfl, Nat.le_of_ble_eq_true rfl⟩ rfl rfl (hF1.at 23 1 24 rfl rfl rfl) ?_
          refine aw_iload dX1_offer_29 rfl ?_
          refine aw_aaldv (r := p) dX1_offer_31 ⟨Nat.le_of_ble_eq_true rfl, Nat.le_of_ble_eq_true rfl⟩ rfl (by decide) (by omega) (by omega) (by decide) hpF ?_
          refine aw_astore (ls' := [some (ab_r 23), some (ab_i (k : Int)), some (ab_r 13), some (ab_i 0), some (ab_i (o.1.length : Int)), some (ab_i (j : Int)), some (ab_r p), none]) dX1_offer_32 (by decide) (by omega) rfl ?_
          refine aw_iconst dX1_offer_34 ?_
          refine aw_istore (ls' := [some (ab_r 23), some (ab_i (k : Int)), some (ab_r 13), some (ab_i 0), some (ab_i (o.1.length : Int)), some (ab_i (j : Int)), some (ab_r p), some (ab_i 0)]) dX1_offer_35 (by decide) rfl ?_
          refine aw_iload_n dX1_offer_37 rfl ?_
          refine aw_if_ne (tgt := 103) dX1_offer_38 rfl ⟨by decide, by decide⟩ (fun c9 => absurd rfl c9) (fun _ => ?_)
          refine aw_aload_n dX1_offer_41 rfl (by decide) ?_
          refine aw_aload dX1_offer_42 rfl (by omega) ?_
          refine aw_getiv (v := (s : Int)) dX1_offer_44 fX1_97 ⟨by omega, by omega⟩ (sh_p23 hp2) rfl hs ?_
          refine aw_aload_n dX1_offer_47 rfl (by decide) ?_
          refine aw_getrv (r := 2) dX1_offer_48 fX1_35 ⟨Nat.le_of_ble_eq_true rfl, Nat.le_of_ble_eq_true rfl⟩ rfl rfl (hF1.at 23 0 2 rfl rfl rfl) ?_
          refine aw_getrv (r := 3) dX1_offer_51 fX1_112 ⟨Nat.le_of_ble_eq_true rfl, Nat.le_of_ble_eq_true rfl⟩ rfl rfl (hF1.at 2 0 3 rfl rfl rfl) ?_
          refine aw_aload dX1_offer_54 rfl (by omega) ?_
          refine aw_getiv (v := (s : Int)) dX1_offer_56 fX1_97 ⟨by omega, by omega⟩ (sh_p23 hp2) rfl hs ?_
          refine aw_aaldv (r := 4 + s) dX1_offer_59 ⟨Nat.le_of_ble_eq_true rfl, Nat.le_of_ble_eq_true rfl⟩ rfl (by decide) (by omega) (by omega) (by decide) (hF1.w hs4) ?_
          refine aw_iload_n dX1_offer_60 rfl ?_
          refine aw_ialdq (q := k) (v := I1 (4 + s) k) dX1_offer_61 ⟨by omega, by omega⟩ (sh_w hs4) (by omega) (by omega) (by decide) rfl rfl ?_
          refine aw_aload dX1_offer_62 rfl (by omega) ?_
          refine aw_geti dX1_offer_64 fX1_115 ⟨by omega, by omega⟩ (sh_p23 hp2) rfl ?_
          refine aw_callV (as := [ab_i (s : Int), ab_i (I1 (4 + s) k), ab_i (I1 p 4)]) (rest := []) dX1_offer_67 (ct_X7_takes_13 G I1 F1 hF1 s (I1 (4 + s) k) (I1 p 4) hs4 (by unfold ab_In; omega) hRs.2.1 (by unfold ab_In; omega) (by unfold ab_In; omega)) ⟨Nat.le_of_ble_eq_true rfl, Nat.le_of_ble_eq_true rfl⟩ rfl kc7 rfl kX7_takes iX7_takes eX7_takes lX1_118 rfl (Nat.le_of_ble_eq_true rfl) (by decide) (by decide) (by decide) (by decide) ?_
          rintro _ _ ⟨rfl, rfl⟩
          rw [← htk1]
          have h01 := rl_01 (I1 14 s) (I1 15 s) (I1 16 s) (I1 (4 + s) k) (I1 p 4)
          rw [← htk1] at h01
          rcases h01 with q01 | q01
          · rw [q01]
            refine aw_istore_n (ls' := [some (ab_r 23), some (ab_i (k : Int)), some (ab_r 13), some (ab_i 0), some (ab_i (o.1.length : Int)), some (ab_i (j : Int)), some (ab_r p), some (ab_i 0)]) dX1_offer_70 (by decide) rfl ?_
            refine aw_iload_n dX1_offer_71 rfl ?_
            refine aw_if_ne (tgt := 85) dX1_offer_72 rfl ⟨by decide, by decide⟩ (fun c9 => absurd rfl c9) (fun _ => ?_)
            refine aw_aload_n dX1_offer_75 rfl (by decide) ?_
            refine aw_aload dX1_offer_76 rfl (by omega) ?_
            refine aw_aload_n dX1_offer_78 rfl (by decide) ?_
            refine aw_callV (as := [ab_r p, ab_r 13]) (rest := []) dX1_offer_79 (ct_X1_sayNo_23_13 G I1 F1 hF1 p hp2 s hs hs4 hpb2.1 hR10 hR20) ⟨Nat.le_of_ble_eq_true rfl, Nat.le_of_ble_eq_true rfl⟩ rfl kc1 rfl kX1_sayNo iX1_sayNo eX1_sayNo lX1_122 rfl (Nat.le_of_ble_eq_true rfl) (by decide) (by decide) (by decide) (by decide) ?_
            rintro _ _ ⟨rfl, rfl⟩
            rcases (show I1 p 3 + 1 ≤ I1 13 1 ∨ (¬ I1 p 3 + 1 ≤ I1 13 1 ∧ I1 13 2 = 0) ∨ (¬ I1 p 3 + 1 ≤ I1 13 1 ∧ I1 13 2 = 1) ∨ (¬ I1 p 3 + 1 ≤ I1 13 1 ∧ ¬ I1 13 2 = 0 ∧ ¬ I1 13 2 = 1) by omega) with qs | qs | qs | qs
            · rw [show sn_r I1 13 p = 0 by unfold sn_r; rw [if_pos qs], show sn_I I1 23 13 p s = ab_u I1 p 3 (I1 p 3 + 1) by unfold sn_I; rw [if_pos qs]]
              refine aw_if_eq (tgt := 89) dX1_offer_82 rfl ⟨by decide, by decide⟩ (fun _ => ?_) (fun c9 => absurd (by decide) c9)
              refine aw_iconst dX1_offer_89 ?_
              refine aw_istore (ls' := [some (ab_r 23), some (ab_i (k : Int)), some (ab_r 13), some (ab_i 0), some (ab_i (o.1.length : Int)), some (ab_i (j : Int)), some (ab_r p), some (ab_i 0)]) dX1_offer_90 (by decide) rfl ?_
              refine aw_iload_n dX1_offer_92 rfl ?_
              refine aw_if_eq (tgt := 103) dX1_offer_93 rfl ⟨by decide, by decide⟩ (fun _ => ?_) (fun c9 => absurd (by decide) c9)
              refine aw_iload dX1_offer_103 rfl ?_
              refine aw_if_ne (tgt := 134) dX1_offer_105 rfl ⟨by decide, by decide⟩ (fun c9 => absurd rfl c9) (fun _ => ?_)
              refine aw_aload_n dX1_offer_108 rfl (by decide) ?_
              refine aw_getrv (r := 24) dX1_offer_109 fX1_11 ⟨Nat.le_of_ble_eq_true rfl, Nat.le_of_ble_eq_true rfl⟩ rfl rfl (hF1.at 23 1 24 rfl rfl rfl) ?_
              refine aw_iload dX1_offer_112 rfl ?_
              refine aw_aload_n dX1_offer_114 rfl (by decide) ?_
              refine aw_getrv (r := 24) dX1_offer_115 fX1_11 ⟨Nat.le_of_ble_eq_true rfl, Nat.le_of_ble_eq_true rfl⟩ rfl rfl (hF1.at 23 1 24 rfl rfl rfl) ?_
              refine aw_iload dX1_offer_118 rfl ?_
              refine aw_aaldv (r := F1 24 o.1.length) dX1_offer_120 ⟨Nat.le_of_ble_eq_true rfl, Nat.le_of_ble_eq_true rfl⟩ rfl (by decide) (by omega) (by omega) (by decide) rfl ?_
              refine aw_aastv (q := j) kc4 dX1_offer_121 ⟨Nat.le_of_ble_eq_true rfl, Nat.le_of_ble_eq_true rfl⟩ rfl (by omega) (by omega) (by decide) ⟨by omega, by omega⟩ (sh_p23 hpm) rfl ?_
              refine aw_aload_n dX1_offer_122 rfl (by decide) ?_
              refine aw_getrv (r := 24) dX1_offer_123 fX1_11 ⟨Nat.le_of_ble_eq_true rfl, Nat.le_of_ble_eq_true rfl⟩ rfl rfl (hF1.at 23 1 24 rfl rfl rfl) ?_
              refine aw_iload dX1_offer_126 rfl ?_
              refine aw_aload dX1_offer_128 rfl (by omega) ?_
              refine aw_aastv (q := o.1.length) kc4 dX1_offer_130 ⟨Nat.le_of_ble_eq_true rfl, Nat.le_of_ble_eq_true rfl⟩ rfl (by omega) (by omega) (by decide) ⟨by omega, by omega⟩ (sh_p23 hp2) rfl ?_
              refine aw_iinc (ls' := [some (ab_r 23), some (ab_i (k : Int)), some (ab_r 13), some (ab_i 0), some (ab_i ((o.1.length : Int) + 1)), some (ab_i (j : Int)), some (ab_r p), some (ab_i 0)]) dX1_offer_131 (by decide) rfl rfl ?_
              refine aw_iinc (ls' := [some (ab_r 23), some (ab_i (k : Int)), some (ab_r 13), some (ab_i 0), some (ab_i ((o.1.length : Int) + 1)), some (ab_i ((j : Int) + 1)), some (ab_r p), some (ab_i 0)]) dX1_offer_134 (by decide) rfl rfl ?_
              refine aw_goto (tgt := 16) dX1_offer_137 rfl ?_
              subst hpF
              have n2 : ¬ tk1 (ruX I 13) (tnX I) k (tup I1 (F1 24 j)) = 1 := by rw [q01]; decide
              have hr1 : (ruX I 13).2.1 = I1 13 1 := (he 13 1 (by omega)).symm
              have hr2 : (ruX I 13).2.2.1 = I1 13 2 := (he 13 2 (by omega)).symm
              have n1 : ¬ o.2.2.2 = true := by rw [htk]; decide
              have eTk : (if (of_step (ruX I 13) (tnX I) k o (tup I1 (F1 24 j))).2.2.2 = true then (1 : Int) else 0) = 0 := by first | (unfold of_step; rw [if_neg n1, if_neg n2, if_pos (show (tup I1 (F1 24 j)).2.2.2.1 + 1 ≤ (ruX I 13).2.1 by rw [hr1]; exact qs)]; simp; done) | (unfold of_step; rw [if_neg n1, if_neg n2, if_neg (show ¬ (tup I1 (F1 24 j)).2.2.2.1 + 1 ≤ (ruX I 13).2.1 by rw [hr1]; exact qs.1), if_neg (show ¬ (ruX I 13).2.2.1 = 0 by rw [hr2]; exact qs.2.1), if_neg (show ¬ (ruX I 13).2.2.1 = 1 by rw [hr2]; exact qs.2.2)]; simp; done)
              have eLn : (of_step (ruX I 13) (tnX I) k o (tup I1 (F1 24 j))).1.length = o.1.length + 1 := by first | (unfold of_step; rw [if_neg n1, if_neg n2, if_pos (show (tup I1 (F1 24 j)).2.2.2.1 + 1 ≤ (ruX I 13).2.1 by rw [hr1]; exact qs)]; simp; done) | (unfold of_step; rw [if_neg n1, if_neg n2, if_neg (show ¬ (tup I1 (F1 24 j)).2.2.2.1 + 1 ≤ (ruX I 13).2.1 by rw [hr1]; exact qs.1), if_neg (show ¬ (ruX I 13).2.2.1 = 0 by rw [hr2]; exact qs.2.1), if_neg (show ¬ (ruX I 13).2.2.1 = 1 by rw [hr2]; exact qs.2.2)]; simp; done)
              have hn := OI_d (ru := ruX I 13) (tn := tnX I) (k := k) hOI hjN htk hpb (by omega) (by omega) (by rw [q01]; decide) (by rw [hr1, hr2]; first | exact Or.inl qs | exact Or.inr qs.2)
              have ih9 := ih (j + 1) _ _ _ (by omega) hn (by unfold of_step; (repeat' split) <;> (try dsimp only) <;> omega) (by unfold of_step; (repeat' split) <;> (try dsimp only) <;> omega) hfo
              refine aw_le (ls' := [some (ab_r 23), some (ab_i (k : Int)), some (ab_r 13), some (ab_i 0), some (ab_i ((o.1.length : Int) + 1)), some (ab_i ((j : Int) + 1)), none, none]) (ab_le_c (ab_le_c (ab_le_c (ab_le_c (ab_le_c (ab_le_c (ab_le_n (ab_le_n ab_le_nil)))))))) ?_
              refine aw_ls ?_ ih9
              rw [eTk, eLn]
              rfl
            · rw [show sn_r I1 13 p = 1 by unfold sn_r; rw [if_neg qs.1, if_pos qs.2], show sn_I I1 23 13 p s = ab_u (ab_u I1 p 3 (I1 p 3 + 1)) 29 s (I1 29 s + 1) by unfold sn_I; rw [if_neg qs.1, if_pos qs.2]]
              refine aw_if_eq (tgt := 89) dX1_offer_82 rfl ⟨by decide, by decide⟩ (fun c9 => absurd c9 (by decide)) (fun _ => ?_)
              refine aw_iconst dX1_offer_85 ?_
              refine aw_goto (tgt := 90) dX1_offer_86 rfl ?_
              refine aw_istore (ls' := [some (ab_r 23), some (ab_i (k : Int)), some (ab_r 13), some (ab_i 0), some (ab_i (o.1.length : Int)), some (ab_i (j : Int)), some (ab_r p), some (ab_i 1)]) dX1_offer_90 (by decide) rfl ?_
              refine aw_iload_n dX1_offer_92 rfl ?_
              refine aw_if_eq (tgt := 103) dX1_offer_93 rfl ⟨by decide, by decide⟩ (fun _ => ?_) (fun c9 => absurd (by decide) c9)
              refine aw_iload dX1_offer_103 rfl ?_
              refine aw_if_ne (tgt := 134) dX1_offer_105 rfl ⟨by decide, by decide⟩ (fun _ => ?_) (fun c9 => absurd c9 (by decide))
              refine aw_iinc (ls' := [some (ab_r 23), some (ab_i (k : Int)), some (ab_r 13), some (ab_i 0), some (ab_i (o.1.length : Int)), some (ab_i ((j : Int) + 1)), some (ab_r p), some (ab_i 1)]) dX1_offer_134 (by decide) rfl rfl ?_
              refine aw_goto (tgt := 16) dX1_offer_137 rfl ?_
              subst hpF
              have n2 : ¬ tk1 (ruX I 13) (tnX I) k (tup I1 (F1 24 j)) = 1 := by rw [q01]; decide
              have hr1 : (ruX I 13).2.1 = I1 13 1 := (he 13 1 (by omega)).symm
              have hr2 : (ruX I 13).2.2.1 = I1 13 2 := (he 13 2 (by omega)).symm
              have n1 : ¬ o.2.2.2 = true := by rw [htk]; decide
              have eTk : (if (of_step (ruX I 13) (tnX I) k o (tup I1 (F1 24 j))).2.2.2 = true then (1 : Int) else 0) = 0 := by unfold of_step; rw [if_neg n1, if_neg n2, if_neg (show ¬ (tup I1 (F1 24 j)).2.2.2.1 + 1 ≤ (ruX I 13).2.1 by rw [hr1]; exact qs.1), if_pos (show (ruX I 13).2.2.1 = _ by rw [hr2]; exact qs.2)]; try simp
              have eLn : (of_step (ruX I 13) (tnX I) k o (tup I1 (F1 24 j))).1.length = o.1.length := by unfold of_step; rw [if_neg n1, if_neg n2, if_neg (show ¬ (tup I1 (F1 24 j)).2.2.2.1 + 1 ≤ (ruX I 13).2.1 by rw [hr1]; exact qs.1), if_pos (show (ruX I 13).2.2.1 = _ by rw [hr2]; exact qs.2)]; try simp
              have hn := OI_c (ru := ruX I 13) (tn := tnX I) (k := k) hOI hjN htk hpb (by omega) (by omega) hs hs4 (by rw [q01]; decide) (by rw [hr1]; exact qs.1) (by rw [hr2]; exact qs.2)
              have ih9 := ih (j + 1) _ _ _ (by omega) hn (by unfold of_step; (repeat' split) <;> (try dsimp only) <;> omega) (by unfold of_step; (repeat' split) <;> (try dsimp only) <;> omega) hfo
              refine aw_le (ls' := [some (ab_r 23), some (ab_i (k : Int)), some (ab_r 13), some (ab_i 0), some (ab_i (o.1.length : Int)), some (ab_i ((j : Int) + 1)), none, none]) (ab_le_c (ab_le_c (ab_le_c (ab_le_c (ab_le_c (ab_le_c (ab_le_n (ab_le_n ab_le_nil)))))))) ?_
              refine aw_ls ?_ ih9
              rw [eTk, eLn]
              rfl
            · rw [show sn_r I1 13 p = 0 by unfold sn_r; rw [if_neg qs.1, if_neg (by omega)], show sn_I I1 23 13 p s = pt (ab_u I1 23 4 (I1 23 4 + 1)) p (I1 p 0, I1 23 4, 0, 0, I1 p 4) by unfold sn_I; rw [if_neg qs.1, if_neg (by omega), if_pos qs.2]; exact back_I hp2]
              refine aw_if_eq (tgt := 89) dX1_offer_82 rfl ⟨by decide, by decide⟩ (fun _ => ?_) (fun c9 => absurd (by decide) c9)
              refine aw_iconst dX1_offer_89 ?_
              refine aw_istore (ls' := [some (ab_r 23), some (ab_i (k : Int)), some (ab_r 13), some (ab_i 0), some (ab_i (o.1.length : Int)), some (ab_i (j : Int)), some (ab_r p), some (ab_i 0)]) dX1_offer_90 (by decide) rfl ?_
              refine aw_iload_n dX1_offer_92 rfl ?_
              refine aw_if_eq (tgt := 103) dX1_offer_93 rfl ⟨by decide, by decide⟩ (fun _ => ?_) (fun c9 => absurd (by decide) c9)
              refine aw_iload dX1_offer_103 rfl ?_
              refine aw_if_ne (tgt := 134) dX1_offer_105 rfl ⟨by decide, by decide⟩ (fun c9 => absurd rfl c9) (fun _ => ?_)
              refine aw_aload_n dX1_offer_108 rfl (by decide) ?_
              refine aw_getrv (r := 24) dX1_offer_109 fX1_11 ⟨Nat.le_of_ble_eq_true rfl, Nat.le_of_ble_eq_true rfl⟩ rfl rfl (hF1.at 23 1 24 rfl rfl rfl) ?_
              refine aw_iload dX1_offer_112 rfl ?_
              refine aw_aload_n dX1_offer_114 rfl (by decide) ?_
              refine aw_getrv (r := 24) dX1_offer_115 fX1_11 ⟨Nat.le_of_ble_eq_true rfl, Nat.le_of_ble_eq_true rfl⟩ rfl rfl (hF1.at 23 1 24 rfl rfl rfl) ?_
              refine aw_iload dX1_offer_118 rfl ?_
              refine aw_aaldv (r := F1 24 o.1.length) dX1_offer_120 ⟨Nat.le_of_ble_eq_true rfl, Nat.le_of_ble_eq_true rfl⟩ rfl (by decide) (by omega) (by omega) (by decide) rfl ?_
              refine aw_aastv (q := j) kc4 dX1_offer_121 ⟨Nat.le_of_ble_eq_true rfl, Nat.le_of_ble_eq_true rfl⟩ rfl (by omega) (by omega) (by decide) ⟨by omega, by omega⟩ (sh_p23 hpm) rfl ?_
              refine aw_aload_n dX1_offer_122 rfl (by decide) ?_
              refine aw_getrv (r := 24) dX1_offer_123 fX1_11 ⟨Nat.le_of_ble_eq_true rfl, Nat.le_of_ble_eq_true rfl⟩ rfl rfl (hF1.at 23 1 24 rfl rfl rfl) ?_
              refine aw_iload dX1_offer_126 rfl ?_
              refine aw_aload dX1_offer_128 rfl (by omega) ?_
              refine aw_aastv (q := o.1.length) kc4 dX1_offer_130 ⟨Nat.le_of_ble_eq_true rfl, Nat.le_of_ble_eq_true rfl⟩ rfl (by omega) (by omega) (by decide) ⟨by omega, by omega⟩ (sh_p23 hp2) rfl ?_
              refine aw_iinc (ls' := [some (ab_r 23), some (ab_i (k : Int)), some (ab_r 13), some (ab_i 0), some (ab_i ((o.1.length : Int) + 1)), some (ab_i (j : Int)), some (ab_r p), some (ab_i 0)]) dX1_offer_131 (by decide) rfl rfl ?_
              refine aw_iinc (ls' := [some (ab_r 23), some (ab_i (k : Int)), some (ab_r 13), some (ab_i 0), some (ab_i ((o.1.length : Int) + 1)), some (ab_i ((j : Int) + 1)), some (ab_r p), some (ab_i 0)]) dX1_offer_134 (by decide) rfl rfl ?_
              refine aw_goto (tgt := 16) dX1_offer_137 rfl ?_
              subst hpF
              have n2 : ¬ tk1 (ruX I 13) (tnX I) k (tup I1 (F1 24 j)) = 1 := by rw [q01]; decide
              have hr1 : (ruX I 13).2.1 = I1 13 1 := (he 13 1 (by omega)).symm
              have hr2 : (ruX I 13).2.2.1 = I1 13 2 := (he 13 2 (by omega)).symm
              have n1 : ¬ o.2.2.2 = true := by rw [htk]; decide
              have eTk : (if (of_step (ruX I 13) (tnX I) k o (tup I1 (F1 24 j))).2.2.2 = true then (1 : Int) else 0) = 0 := by unfold of_step; rw [if_neg n1, if_neg n2, if_neg (show ¬ (tup I1 (F1 24 j)).2.2.2.1 + 1 ≤ (ruX I 13).2.1 by rw [hr1]; exact qs.1), if_neg (show ¬ (ruX I 13).2.2.1 = 0 by rw [hr2]; omega), if_pos (show (ruX I 13).2.2.1 = _ by rw [hr2]; exact qs.2)]; try simp
              have eLn : (of_step (ruX I 13) (tnX I) k o (tup I1 (F1 24 j))).1.length = o.1.length + 1 := by unfold of_step; rw [if_neg n1, if_neg n2, if_neg (show ¬ (tup I1 (F1 24 j)).2.2.2.1 + 1 ≤ (ruX I 13).2.1 by rw [hr1]; exact qs.1), if_neg (show ¬ (ruX I 13).2.2.1 = 0 by rw [hr2]; omega), if_pos (show (ruX I 13).2.2.1 = _ by rw [hr2]; exact qs.2)]; try simp
              have hn := OI_e (ru := ruX I 13) (tn := tnX I) (k := k) hOI hjN htk hpb (by omega) (by omega) (by rw [q01]; decide) (by rw [hr1]; exact qs.1) (by rw [hr2]; exact qs.2) (by omega)
              have ih9 := ih (j + 1) _ _ _ (by omega) hn (by unfold of_step; (repeat' split) <;> (try dsimp only) <;> omega) (by unfold of_step; (repeat' split) <;> (try dsimp only) <;> omega) hfo
              refine aw_le (ls' := [some (ab_r 23), some (ab_i (k : Int)), some (ab_r 13), some (ab_i 0), some (ab_i ((o.1.length : Int) + 1)), some (ab_i ((j : Int) + 1)), none, none]) (ab_le_c (ab_le_c (ab_le_c (ab_le_c (ab_le_c (ab_le_c (ab_le_n (ab_le_n ab_le_nil)))))))) ?_
              refine aw_ls ?_ ih9
              rw [eTk, eLn]
              rfl
            · rw [show sn_r I1 13 p = 0 by unfold sn_r; rw [if_neg qs.1, if_neg qs.2.1], show sn_I I1 23 13 p s = ab_u I1 p 3 (I1 p 3 + 1) by unfold sn_I; rw [if_neg qs.1, if_neg qs.2.1, if_neg qs.2.2]]
              refine aw_if_eq (tgt := 89) dX1_offer_82 rfl ⟨by decide, by decide⟩ (fun _ => ?_) (fun c9 => absurd (by decide) c9)
              refine aw_iconst dX1_offer_89 ?_
              refine aw_istore (ls' := [some (ab_r 23), some (ab_i (k : Int)), some (ab_r 13), some (ab_i 0), some (ab_i (o.1.length : Int)), some (ab_i (j : Int)), some (ab_r p), some (ab_i 0)]) dX1_offer_90 (by decide) rfl ?_
              refine aw_iload_n dX1_offer_92 rfl ?_
              refine aw_if_eq (tgt := 103) dX1_offer_93 rfl ⟨by decide, by decide⟩ (fun _ => ?_) (fun c9 => absurd (by decide) c9)
              refine aw_iload dX1_offer_103 rfl ?_
              refine aw_if_ne (tgt := 134) dX1_offer_105 rfl ⟨by decide, by decide⟩ (fun c9 => absurd rfl c9) (fun _ => ?_)
              refine aw_aload_n dX1_offer_108 rfl (by decide) ?_
              refine aw_getrv (r := 24) dX1_offer_109 fX1_11 ⟨Nat.le_of_ble_eq_true rfl, Nat.le_of_ble_eq_true rfl⟩ rfl rfl (hF1.at 23 1 24 rfl rfl rfl) ?_
              refine aw_iload dX1_offer_112 rfl ?_
              refine aw_aload_n dX1_offer_114 rfl (by decide) ?_
              refine aw_getrv (r := 24) dX1_offer_115 fX1_11 ⟨Nat.le_of_ble_eq_true rfl, Nat.le_of_ble_eq_true rfl⟩ rfl rfl (hF1.at 23 1 24 rfl rfl rfl) ?_
              refine aw_iload dX1_offer_118 rfl ?_
              refine aw_aaldv (r := F1 24 o.1.length) dX1_offer_120 ⟨Nat.le_of_ble_eq_true rfl, Nat.le_of_ble_eq_true rfl⟩ rfl (by decide) (by omega) (by omega) (by decide) rfl ?_
              refine aw_aastv (q := j) kc4 dX1_offer_121 ⟨Nat.le_of_ble_eq_true rfl, Nat.le_of_ble_eq_true rfl⟩ rfl (by omega) (by omega) (by decide) ⟨by omega, by omega⟩ (sh_p23 hpm) rfl ?_
              refine aw_aload_n dX1_offer_122 rfl (by decide) ?_
              refine aw_getrv (r := 24) dX1_offer_123 fX1_11 ⟨Nat.le_of_ble_eq_true rfl, Nat.le_of_ble_eq_true rfl⟩ rfl rfl (hF1.at 23 1 24 rfl rfl rfl) ?_
              refine aw_iload dX1_offer_126 rfl ?_
              refine aw_aload dX1_offer_128 rfl (by omega) ?_
              refine aw_aastv (q := o.1.length) kc4 dX1_offer_130 ⟨Nat.le_of_ble_eq_true rfl, Nat.le_of_ble_eq_true rfl⟩ rfl (by omega) (by omega) (by decide) ⟨by omega, by omega⟩ (sh_p23 hp2) rfl ?_
              refine aw_iinc (ls' := [some (ab_r 23), some (ab_i (k : Int)), some (ab_r 13), some (ab_i 0), some (ab_i ((o.1.length : Int) + 1)), some (ab_i (j : Int)), some (ab_r p), some (ab_i 0)]) dX1_offer_131 (by decide) rfl rfl ?_
              refine aw_iinc (ls' := [some (ab_r 23), some (ab_i (k : Int)), some (ab_r 13), some (ab_i 0), some (ab_i ((o.1.length : Int) + 1)), some (ab_i ((j : Int) + 1)), some (ab_r p), some (ab_i 0)]) dX1_offer_134 (by decide) rfl rfl ?_
              refine aw_goto (tgt := 16) dX1_offer_137 rfl ?_
              subst hpF
              have n2 : ¬ tk1 (ruX I 13) (tnX I) k (tup I1 (F1 24 j)) = 1 := by rw [q01]; decide
              have hr1 : (ruX I 13).2.1 = I1 13 1 := (he 13 1 (by omega)).symm
              have hr2 : (ruX I 13).2.2.1 = I1 13 2 := (he 13 2 (by omega)).symm
              have n1 : ¬ o.2.2.2 = true := by rw [htk]; decide
              have eTk : (if (of_step (ruX I 13) (tnX I) k o (tup I1 (F1 24 j))).2.2.2 = true then (1 : Int) else 0) = 0 := by first | (unfold of_step; rw [if_neg n1, if_neg n2, if_pos (show (tup I1 (F1 24 j)).2.2.2.1 + 1 ≤ (ruX I 13).2.1 by rw [hr1]; exact qs)]; simp; done) | (unfold of_step; rw [if_neg n1, if_neg n2, if_neg (show ¬ (tup I1 (F1 24 j)).2.2.2.1 + 1 ≤ (ruX I 13).2.1 by rw [hr1]; exact qs.1), if_neg (show ¬ (ruX I 13).2.2.1 = 0 by rw [hr2]; exact qs.2.1), if_neg (show ¬ (ruX I 13).2.2.1 = 1 by rw [hr2]; exact qs.2.2)]; simp; done)
              have eLn : (of_step (ruX I 13) (tnX I) k o (tup I1 (F1 24 j))).1.length = o.1.length + 1 := by first | (unfold of_step; rw [if_neg n1, if_neg n2, if_pos (show (tup I1 (F1 24 j)).2.2.2.1 + 1 ≤ (ruX I 13).2.1 by rw [hr1]; exact qs)]; simp; done) | (unfold of_step; rw [if_neg n1, if_neg n2, if_neg (show ¬ (tup I1 (F1 24 j)).2.2.2.1 + 1 ≤ (ruX I 13).2.1 by rw [hr1]; exact qs.1), if_neg (show ¬ (ruX I 13).2.2.1 = 0 by rw [hr2]; exact qs.2.1), if_neg (show ¬ (ruX I 13).2.2.1 = 1 by rw [hr2]; exact qs.2.2)]; simp; done)
              have hn := OI_d (ru := ruX I 13) (tn := tnX I) (k := k) hOI hjN htk hpb (by omega) (by omega) (by rw [q01]; decide) (by rw [hr1, hr2]; first | exact Or.inl qs | exact Or.inr qs.2)
              have ih9 := ih (j + 1) _ _ _ (by omega) hn (by unfold of_step; (repeat' split) <;> (try dsimp only) <;> omega) (by unfold of_step; (repeat' split) <;> (try dsimp only) <;> omega) hfo
              refine aw_le (ls' := [some (ab_r 23), some (ab_i (k : Int)), some (ab_r 13), some (ab_i 0), some (ab_i ((o.1.length : Int) + 1)), some (ab_i ((j : Int) + 1)), none, none]) (ab_le_c (ab_le_c (ab_le_c (ab_le_c (ab_le_c (ab_le_c (ab_le_n (ab_le_n ab_le_nil)))))))) ?_
              refine aw_ls ?_ ih9
              rw [eTk, eLn]
              rfl
          · rw [q01]
            refine aw_istore_n (ls' := [some (ab_r 23), some (ab_i (k : Int)), some (ab_r 13), some (ab_i 1), some (ab_i (o.1.length : Int)), some (ab_i (j : Int)), some (ab_r p), some (ab_i 0)]) dX1_offer_70 (by decide) rfl ?_
            refine aw_iload_n dX1_offer_71 rfl ?_
            refine aw_if_ne (tgt := 85) dX1_offer_72 rfl ⟨by decide, by decide⟩ (fun _ => ?_) (fun c9 => absurd c9 (by decide))
            refine aw_iconst dX1_offer_85 ?_
            refine aw_goto (tgt := 90) dX1_offer_86 rfl ?_
            refine aw_istore (ls' := [some (ab_r 23), some (ab_i (k : Int)), some (ab_r 13), some (ab_i 1), some (ab_i (o.1.length : Int)), some (ab_i (j : Int)), some (ab_r p), some (ab_i 1)]) dX1_offer_90 (by decide) rfl ?_
            refine aw_iload_n dX1_offer_92 rfl ?_
            refine aw_if_eq (tgt := 103) dX1_offer_93 rfl ⟨by decide, by decide⟩ (fun c9 => absurd c9 (by decide)) (fun _ => ?_)
            refine aw_aload_n dX1_offer_96 rfl (by decide) ?_
            refine aw_aload dX1_offer_97 rfl (by omega) ?_
            refine aw_iload_n dX1_offer_99 rfl ?_
            refine aw_callV (as := [ab_r p, ab_i (k : Int)]) (rest := []) dX1_offer_100 (ct_X1_house_23 G I1 F1 hF1 p hp2 s k hs hs4 hk) ⟨Nat.le_of_ble_eq_true rfl, Nat.le_of_ble_eq_true rfl⟩ rfl kc1 rfl kX1_house iX1_house eX1_house lX1_126 rfl (Nat.le_of_ble_eq_true rfl) (by decide) (by decide) (by decide) (by decide) ?_
            rintro _ _ ⟨rfl, rfl⟩
            refine aw_iload dX1_offer_103 rfl ?_
            refine aw_if_ne (tgt := 134) dX1_offer_105 rfl ⟨by decide, by decide⟩ (fun _ => ?_) (fun c9 => absurd c9 (by decide))
            refine aw_iinc (ls' := [some (ab_r 23), some (ab_i (k : Int)), some (ab_r 13), some (ab_i 1), some (ab_i (o.1.length : Int)), some (ab_i ((j : Int) + 1)), some (ab_r p), some (ab_i 1)]) dX1_offer_134 (by decide) rfl rfl ?_
            refine aw_goto (tgt := 16) dX1_offer_137 rfl ?_
            subst hpF
            have n1 : ¬ o.2.2.2 = true := by rw [htk]; decide
            have eTk : (if (of_step (ruX I 13) (tnX I) k o (tup I1 (F1 24 j))).2.2.2 = true then (1 : Int) else 0) = 1 := by unfold of_step; rw [if_neg n1, if_pos q01]; try simp
            have eLn : (of_step (ruX I 13) (tnX I) k o (tup I1 (F1 24 j))).1.length = o.1.length := by unfold of_step; rw [if_neg n1, if_pos q01]; try simp
            have hn := OI_b (ru := ruX I 13) (tn := tnX I) (k := k) hOI hjN hpb htk hs hs4 q01 (wv := I1 (4 + s) k) ((tnX_w hs4 hk).trans (he2 _ _ (by omega)).symm)
            have ih9 := ih (j + 1) _ _ _ (by omega) hn (by unfold of_step; (repeat' split) <;> (try dsimp only) <;> omega) (by unfold of_step; (repeat' split) <;> (try dsimp only) <;> omega) hfo
            refine aw_le (ls' := [some (ab_r 23), some (ab_i (k : Int)), some (ab_r 13), some (ab_i 1), some (ab_i (o.1.length : Int)), some (ab_i ((j : Int) + 1)), none, none]) (ab_le_c (ab_le_c (ab_le_c (ab_le_c (ab_le_c (ab_le_c (ab_le_n (ab_le_n ab_le_nil)))))))) ?_
            refine aw_ls ?_ ih9
            rw [eTk, eLn]
            rfl
  refine aw_aload_n dX1_offer_0 rfl (by decide) ?_
  refine aw_aload_n dX1_offer_1 rfl (by decide) ?_
  refine aw_geti dX1_offer_2 fX1_106 ⟨Nat.le_of_ble_eq_true rfl, Nat.le_of_ble_eq_true rfl⟩ rfl rfl ?_
  refine aw_callV (as := [ab_i (I 13 0)]) (rest := []) dX1_offer_5 hst ⟨Nat.le_of_ble_eq_true rfl, Nat.le_of_ble_eq_true rfl⟩ rfl kc1 rfl kX1_stand iX1_stand eX1_stand lX1_109 rfl (Nat.le_of_ble_eq_true rfl) (by decide) (by decide) (by decide) (by decide) ?_
  rintro _ _ ⟨rfl, rfl⟩
  refine aw_iconst dX1_offer_8 ?_
  refine aw_istore_n (ls' := [some (ab_r 23), some (ab_i (k : Int)), some (ab_r 13), some (ab_i 0), none, none, none, none]) dX1_offer_9 (by decide) rfl ?_
  refine aw_iconst dX1_offer_10 ?_
  refine aw_istore (ls' := [some (ab_r 23), some (ab_i (k : Int)), some (ab_r 13), some (ab_i 0), some (ab_i 0), none, none, none]) dX1_offer_11 (by decide) rfl ?_
  refine aw_iconst dX1_offer_13 ?_
  refine aw_istore (ls' := [some (ab_r 23), some (ab_i (k : Int)), some (ab_r 13), some (ab_i 0), some (ab_i 0), some (ab_i 0), none, none]) dX1_offer_14 (by decide) rfl ?_
  have h9 := loop N 0 ([], fun _ _ => 0, I 23 4, false) I Fs (by omega) ?_ (by simp) (by simp) (by rw [List.drop_zero]; exact hO)
  · exact h9
  · refine ⟨⟨Nat.zero_le _, hN12⟩, ⟨hN, rfl, rfl, rfl⟩, fun w s _ _ => by simp, fun _ _ _ => rfl, fun _ _ _ => rfl, fun i hi => by rw [hFL]; exact hP2 i hi, fun a b ha hb2 e => hJ a b ha hb2 (by rw [← hFL, ← hFL]; exact e), fun i hi => by simp at hi, fun _ _ _ => rfl, fun _ _ _ => rfl, fun t ht => by simp at ht, hba⟩
set_option maxHeartbeats 4000000 in
set_option maxRecDepth 100000 in
theorem ct_X1_offer_44_13 (G : ab_G) (I : Nat → Nat → Int) (F : Nat → Nat → Nat) (hF : ab_FB F) (wk : Int) (hba : ∀ p, 53 ≤ p → p ≤ 64 → PB 6000 100000 (tup I p)) (hwk : 0 ≤ wk ∧ wk ≤ 5999) (hnx : 0 ≤ I 44 4 ∧ I 44 4 ≤ 90000) (hT : TB I) (hR : RB 13 I) (N k : Nat) (hk : k < 4) (hN : I 44 2 = N) (hbm : ∀ i, i < N → PB wk (I 44 4) (tup I (F 45 i))) (hN12 : N ≤ 12) (hP : ∀ j, j < 12 → 53 ≤ F 45 j ∧ F 45 j ≤ 64) (hJ : ∀ a b, a < 12 → b < 12 → sd (fun a b => ah (I 13 0) (n4 (I 8)) (tup I a) (tup I b)) (F 45) N a = sd (fun a b => ah (I 13 0) (n4 (I 8)) (tup I a) (tup I b)) (F 45) N b → a = b) : Ct G 2 0 0 YX1_offer [ab_r 44, ab_i (k : Int), ab_r 13] (104, I, F) (fun q h => q = none ∧ ∃ I2 F2, h = (104, I2, F2) ∧ OE 44 I (rw_ F 45 (sd (fun a b => ah (I 13 0) (n4 (I 8)) (tup I a) (tup I b)) (F 45) N)) wk (((List.range N).map (fun i => tup I ((rw_ F 45 (sd (fun a b => ah (I 13 0) (n4 (I 8)) (tup I a) (tup I b)) (F 45) N)) 45 i))).foldl (of_step (ruX I 13) (tnX I) k) ([], fun _ _ => 0, I 44 4, false)) I2 F2) := by
  refine Ct.ofW kX1_offer (ls := [some (ab_r 44), some (ab_i (k : Int)), some (ab_r 13), none, none, none, none, none]) (Nat.le_of_ble_eq_true rfl) rfl ?_
  have hR0 := hR.1
  have hP2 : ∀ j, j < 12 → 53 ≤ sd (fun a b => ah (I 13 0) (n4 (I 8)) (tup I a) (tup I b)) (F 45) N j ∧ sd (fun a b => ah (I 13 0) (n4 (I 8)) (tup I a) (tup I b)) (F 45) N j ≤ 64 := fun j hj => sd_all _ (fun p => 53 ≤ p ∧ p ≤ 64) hP N hN12 j hj
  have hFs : ab_FB (rw_ F 45 (sd (fun a b => ah (I 13 0) (n4 (I 8)) (tup I a) (tup I b)) (F 45) N)) := hF.rw 45 _ (by omega)
  have hst := ct_X1_stand_44 G I F hF 6000 100000 hba (by omega) (by omega) hT.1 (I 13 0) (by unfold ab_In; omega) N hN hN12 hP
  have hbs : ∀ i, i < N → PB wk (I 44 4) (tup I (sd (fun a b => ah (I 13 0) (n4 (I 8)) (tup I a) (tup I b)) (F 45) N i)) := fun i hi => sd_allN _ (fun p => PB wk (I 44 4) (tup I p)) N hbm N (Nat.le_refl _) i hi
  have hFL : ∀ i, (rw_ F 45 (sd (fun a b => ah (I 13 0) (n4 (I 8)) (tup I a) (tup I b)) (F 45) N)) 45 i = sd (fun a b => ah (I 13 0) (n4 (I 8)) (tup I a) (tup I b)) (F 45) N i := fun i => rw_s _ _ _ _
  generalize hFse : (rw_ F 45 (sd (fun a b => ah (I 13 0) (n4 (I 8)) (tup I a) (tup I b)) (F 45) N)) = Fs at *
  generalize hO : (((List.range N).map (fun i => tup I (Fs 45 i))).foldl (of_step (ruX I 13) (tnX I) k) ([], fun _ _ => 0, I 44 4, false)) = O
  generalize hZ : ab_Z G (fun q h => q = none ∧ ∃ I2 F2, h = (104, I2, F2) ∧ OE 44 I Fs wk O I2 F2) 0 0 = Z
  have loop : ∀ (d j : Nat) (o : OS) (I1 : Nat → Nat → Int) (F1 : Nat → Nat → Nat), j + d = N → OI 44 I Fs N wk j o I1 F1 → I 44 4 ≤ o.2.2.1 → o.2.2.1 ≤ I 44 4 + j → (((List.range N).map (fun i => tup I (Fs 45 i))).drop j).foldl (of_step (ruX I 13) (tnX I) k) o = O → aW G YX1_offer (ab_rm 2 0 0) Z 0 0 (104, I1, F1) 16 [some (ab_r 44), some (ab_i (k : Int)), some (ab_r 13), some (ab_i (if o.2.2.2 = true then 1 else 0)), some (ab_i (o.1.length : Int)), some (ab_i (j : Int)), none, none] [] := by
    intro d
    induction d with
    | zero =>
      intro j o I1 F1 hj hOI hx1 hx2 hfo
      have hjN : j = N := by omega
      subst hjN
      rw [List.drop_of_length_le (by simp)] at hfo
      have hfo : o = O := hfo
      subst hfo
      have h2 := hOI.2.1.1
      have hO1 := hOI.1.1
      cases htk : o.2.2.2 with
      | true =>
        rw [if_pos (by decide)]
        refine aw_iload dX1_offer_16 rfl ?_
        refine aw_aload_n dX1_offer_18 rfl (by decide) ?_
        refine aw_getiv (v := (j : Int)) dX1_offer_19 fX1_17 ⟨Nat.le_of_ble_eq_true rfl, Nat.le_of_ble_eq_true rfl⟩ rfl rfl h2 ?_
        refine aw_icmp_ge (tgt := 140) dX1_offer_22 rfl (by first | assumption | (unfold ab_In at *; omega)) (by first | assumption | (unfold ab_In at *; omega)) (fun c_22 => ?_) (fun c_22 => ?_)
        · refine aw_aload_n dX1_offer_140 rfl (by decide) ?_
          refine aw_iload dX1_offer_141 rfl ?_
          refine aw_puti dX1_offer_143 fX1_17 ⟨Nat.le_of_ble_eq_true rfl, Nat.le_of_ble_eq_true rfl⟩ rfl rfl ?_
          refine aw_iload_n dX1_offer_146 rfl ?_
          refine aw_if_ne (tgt := 160) dX1_offer_147 rfl ⟨by decide, by decide⟩ (fun _ => ?_) (fun c9 => absurd c9 (by decide))
          rw [← hZ]
          refine aw_return dX1_offer_160 rfl ?_
          exact ⟨rfl, _, _, rfl, hOI.end htk⟩
        · exfalso; omega
      | false =>
        rw [if_neg (by decide)]
        refine aw_iload dX1_offer_16 rfl ?_
        refine aw_aload_n dX1_offer_18 rfl (by decide) ?_
        refine aw_getiv (v := (j : Int)) dX1_offer_19 fX1_17 ⟨Nat.le_of_ble_eq_true rfl, Nat.le_of_ble_eq_true rfl⟩ rfl rfl h2 ?_
        refine aw_icmp_ge (tgt := 140) dX1_offer_22 rfl (by first | assumption | (unfold ab_In at *; omega)) (by first | assumption | (unfold ab_In at *; omega)) (fun c_22 => ?_) (fun c_22 => ?_)
        · refine aw_aload_n dX1_offer_140 rfl (by decide) ?_
          refine aw_iload dX1_offer_141 rfl ?_
          refine aw_puti dX1_offer_143 fX1_17 ⟨Nat.le_of_ble_eq_true rfl, Nat.le_of_ble_eq_true rfl⟩ rfl rfl ?_
          refine aw_iload_n dX1_offer_146 rfl ?_
          refine aw_if_ne (tgt := 160) dX1_offer_147 rfl ⟨by decide, by decide⟩ (fun c9 => absurd rfl c9) (fun _ => ?_)
          refine aw_aload_n dX1_offer_150 rfl (by decide) ?_
          refine aw_dup dX1_offer_151 rfl ?_
          refine aw_getiv (v := I1 44 5) dX1_offer_152 fX1_27 ⟨Nat.le_of_ble_eq_true rfl, Nat.le_of_ble_eq_true rfl⟩ rfl rfl (ab_u_j (by decide)) ?_
          refine aw_iconst dX1_offer_155 ?_
          refine aw_iadd dX1_offer_156 ?_
          refine aw_puti dX1_offer_157 fX1_27 ⟨Nat.le_of_ble_eq_true rfl, Nat.le_of_ble_eq_true rfl⟩ rfl rfl ?_
          rw [← hZ]
          refine aw_return dX1_offer_160 rfl ?_
          exact ⟨rfl, _, _, rfl, hOI.end2 htk⟩
        · exfalso; omega
    | succ d ih =>
      intro j o I1 F1 hj hOI hx1 hx2 hfo
      have hjN : j < N := by omega
      have h2 := hOI.2.1.1
      have hO1 := hOI.1.1
      have h4 := hOI.2.1.2.2.2
      have h7 := hOI.2.2.2.1
      have h8 := hOI.2.2.2.2.1
      have h9 := hOI.2.2.2.2.2.1
      have hF1 : ab_FB F1 := fun a b e1 e2 => (h8 a b (by omega)).trans (hFs a b e1 e2)
      have he : ∀ i b, i ≤ 13 + 3 → I1 i b = I i b := fun i b hi => h7 i b (by omega)
      have he2 : ∀ i b, i ≤ 12 → I1 i b = I i b := fun i b hi => h7 i b (by omega)
      have hT1 : TB I1 := hT.of he2
      have hR1 : RB 13 I1 := hR.of he
      have hpb : PB wk (I1 44 4) (tup I1 (F1 45 j)) := OI_pbw hOI hjN (fun i hi => by have := hbs i hi; rw [← hFL] at this; exact this) (by rw [h4]; exact hx1)
      have hp : 53 ≤ F1 45 j ∧ F1 45 j ≤ 64 := h9 j (by omega)
      have hpm : 53 ≤ F1 45 o.1.length ∧ F1 45 o.1.length ≤ 64 := h9 o.1.length (by omega)
      have hstep : ((List.range N).map (fun i => tup I (Fs 45 i))).drop j = tup I1 (F1 45 j) :: ((List.range N).map (fun i => tup I (Fs 45 i))).drop (j + 1) := by rw [drop_map_range _ hjN, hOI.2.2.2.2.2.2.2.2.1 j (Nat.le_refl _) (by omega), hOI.2.2.2.2.2.2.2.2.2.1 j (Nat.le_refl _) (by omega)]
      rw [hstep, List.foldl_cons] at hfo
      obtain ⟨p, hpF⟩ : ∃ p, F1 45 j = p := ⟨_, rfl⟩
      obtain ⟨s, hs⟩ : ∃ s : Nat, I1 p 0 = (s : Int) := ⟨(I1 p 0).toNat, by rw [← hpF]; unfold PB tup at hpb; dsimp only at hpb; omega⟩
      have hs4 : s < 4 := by rw [← hpF] at hs; unfold PB tup at hpb; dsimp only at hpb; omega
      have hpb2 : (0 ≤ I1 p 3 ∧ I1 p 3 ≤ 6000) ∧ (0 ≤ I1 p 4 ∧ I1 p 4 ≤ 6000) := by rw [← hpF]; unfold PB tup at hpb; dsimp only at hpb; omega
      have hp2 : 53 ≤ p ∧ p ≤ 64 := by rw [← hpF]; exact hp
      have hRs : (0 ≤ I1 14 s ∧ I1 14 s ≤ 2) ∧ (0 ≤ I1 15 s ∧ I1 15 s ≤ 99) ∧ (0 ≤ I1 16 s ∧ I1 16 s ≤ 9) := hR1.2.2.2.2 s hs4
      have hTw := hT1.2.1 s k hs4 hk
      have hR10 := hR1.2.1
      have hR20 := hR1.2.2.1
      have hmb := mul_bd hRs.2.2.1 hRs.2.2.2 hpb2.2.1 (by omega)
      have htk1 : tk1 (ruX I 13) (tnX I) k (tup I1 p) = rl_takes (I1 14 s) (I1 15 s) (I1 16 s) (I1 (4 + s) k) (I1 p 4) := tk1_X he he2 (by unfold tup; dsimp only; omega) hs4 hk
      cases htk : o.2.2.2 with
      | true =>
        rw [if_pos (by decide)]
        refine aw_iload dX1_offer_16 rfl ?_
        refine aw_aload_n dX1_offer_18 rfl (by decide) ?_
        refine aw_getiv (v := (N : Int)) dX1_offer_19 fX1_17 ⟨Nat.le_of_ble_eq_true rfl, Nat.le_of_ble_eq_true rfl⟩ rfl rfl h2 ?_
        refine aw_icmp_ge (tgt := 140) dX1_offer_22 rfl (by first | assumption | (unfold ab_In at *; omega)) (by first | assumption | (unfold ab_In at *; omega)) (fun c_22 => ?_) (fun c_22 => ?_)
        · exfalso; omega
        · refine aw_aload_n dX1_offer_25 rfl (by decide) ?_
          refine aw_getrv (r := 45) dX1_offer_26 fX1_11 ⟨Nat.le_of_ble_eq_true rfl, Nat.le_of_ble_eq_true rfl⟩ rfl rfl (hF1.at 44 1 45 rfl rfl rfl) ?_
          refine aw_iload dX1_offer_29 rfl ?_
          refine aw_aaldv (r := p) dX1_offer_31 ⟨Nat.le_of_ble_eq_true rfl, Nat.le_of_ble_eq_true rfl⟩ rfl (by decide) (by omega) (by omega) (by decide) hpF ?_
          refine aw_astore (ls' := [some (ab_r 44), some (ab_i (k : Int)), some (ab_r 13), some (ab_i 1), some (ab_i (o.1.length : Int)), some (ab_i (j : Int)), some (ab_r p), none]) dX1_offer_32 (by decide) (by omega) rfl ?_
          refine aw_iconst dX1_offer_34 ?_
          refine aw_istore (ls' := [some (ab_r 44), some (ab_i (k : Int)), some (ab_r 13), some (ab_i 1), some (ab_i (o.1.length : Int)), some (ab_i (j : Int)), some (ab_r p), some (ab_i 0)]) dX1_offer_35 (by decide) rfl ?_
          refine aw_iload_n dX1_offer_37 rfl ?_
          refine aw_if_ne (tgt := 103) dX1_offer_38 rfl ⟨by decide, by decide⟩ (fun _ => ?_) (fun c9 => absurd c9 (by decide))
          refine aw_iload dX1_offer_103 rfl ?_
          refine aw_if_ne (tgt := 134) dX1_offer_105 rfl ⟨by decide, by decide⟩ (fun c9 => absurd rfl c9) (fun _ => ?_)
          refine aw_aload_n dX1_offer_108 rfl (by decide) ?_
          refine aw_getrv (r := 45) dX1_offer_109 fX1_11 ⟨Nat.le_of_ble_eq_true rfl, Nat.le_of_ble_eq_true rfl⟩ rfl rfl (hF1.at 44 1 45 rfl rfl rfl) ?_
          refine aw_iload dX1_offer_112 rfl ?_
          refine aw_aload_n dX1_offer_114 rfl (by decide) ?_
          refine aw_getrv (r := 45) dX1_offer_115 fX1_11 ⟨Nat.le_of_ble_eq_true rfl, Nat.le_of_ble_eq_true rfl⟩ rfl rfl (hF1.at 44 1 45 rfl rfl rfl) ?_
          refine aw_iload dX1_offer_118 rfl ?_
          refine aw_aaldv (r := F1 45 o.1.length) dX1_offer_120 ⟨Nat.le_of_ble_eq_true rfl, Nat.le_of_ble_eq_true rfl⟩ rfl (by decide) (by omega) (by omega) (by decide) rfl ?_
          refine aw_aastv (q := j) kc4 dX1_offer_121 ⟨Nat.le_of_ble_eq_true rfl, Nat.le_of_ble_eq_true rfl⟩ rfl (by omega) (by omega) (by decide) ⟨by omega, by omega⟩ (sh_p44 hpm) rfl ?_
          refine aw_aload_n dX1_offer_122 rfl (by decide) ?_
          refine aw_getrv (r := 45) dX1_offer_123 fX1_11 ⟨Nat.le_of_ble_eq_true rfl, Nat.le_of_ble_eq_true rfl⟩ rfl rfl (hF1.at 44 1 45 rfl rfl rfl) ?_
          refine aw_iload dX1_offer_126 rfl ?_
          refine aw_aload dX1_offer_128 rfl (by omega) ?_
          refine aw_aastv (q := o.1.length) kc4 dX1_offer_130 ⟨Nat.le_of_ble_eq_true rfl, Nat.le_of_ble_eq_true rfl⟩ rfl (by omega) (by omega) (by decide) ⟨by omega, by omega⟩ (sh_p44 hp2) rfl ?_
          refine aw_iinc (ls' := [some (ab_r 44), some (ab_i (k : Int)), some (ab_r 13), some (ab_i 1), some (ab_i ((o.1.length : Int) + 1)), some (ab_i (j : Int)), some (ab_r p), some (ab_i 0)]) dX1_offer_131 (by decide) rfl rfl ?_
          refine aw_iinc (ls' := [some (ab_r 44), some (ab_i (k : Int)), some (ab_r 13), some (ab_i 1), some (ab_i ((o.1.length : Int) + 1)), some (ab_i ((j : Int) + 1)), some (ab_r p), some (ab_i 0)]) dX1_offer_134 (by decide) rfl rfl ?_
          refine aw_goto (tgt := 16) dX1_offer_137 rfl ?_
          subst hpF
          have n1 :  o.2.2.2 = true := by rw [htk]
          have eTk : (if (of_step (ruX I 13) (tnX I) k o (tup I1 (F1 45 j))).2.2.2 = true then (1 : Int) else 0) = 1 := by unfold of_step; rw [if_pos htk]; simp
          have eLn : (of_step (ruX I 13) (tnX I) k o (tup I1 (F1 45 j))).1.length = o.1.length + 1 := by unfold of_step; rw [if_pos htk]; simp
          have hn := OI_a (ru := ruX I 13) (tn := tnX I) (k := k) hOI hjN hpb htk
          have ih9 := ih (j + 1) _ _ _ (by omega) hn (by unfold of_step; (repeat' split) <;> (try dsimp only) <;> omega) (by unfold of_step; (repeat' split) <;> (try dsimp only) <;> omega) hfo
          refine aw_le (ls' := [some (ab_r 44), some (ab_i (k : Int)), some (ab_r 13), some (ab_i 1), some (ab_i ((o.1.length : Int) + 1)), some (ab_i ((j : Int) + 1)), none, none]) (ab_le_c (ab_le_c (ab_le_c (ab_le_c (ab_le_c (ab_le_c (ab_le_n (ab_le_n ab_le_nil)))))))) ?_
          refine aw_ls ?_ ih9
          rw [eTk, eLn]
          rfl
      | false =>
        rw [if_neg (by decide)]
        refine aw_iload dX1_offer_16 rfl ?_
        refine aw_aload_n dX1_offer_18 rfl (by decide) ?_
        refine aw_getiv (v := (N : Int)) dX1_offer_19 fX1_17 ⟨Nat.le_of_ble_eq_true rfl, Nat.le_of_ble_eq_true rfl⟩ rfl rfl h2 ?_
        refine aw_icmp_ge (tgt := 140) dX1_offer_22 rfl (by first | assumption | (unfold ab_In at *; omega)) (by first | assumption | (unfold ab_In at *; omega)) (fun c_22 => ?_) (fun c_22 => ?_)
        · exfalso; omega
        · refine aw_aload_n dX1_offer_25 rfl (by decide) ?_
          refine aw_getrv (r := 45) dX1_offer_26 fX1_11 ⟨Nat.le_of_ble_eq_true rfl, Nat.le_of_ble_eq_true rfl⟩ rfl rfl (hF1.at 44 1 45 rfl rfl rfl) ?_
          refine aw_iload dX1_offer_29 rfl ?_
          refine aw_aaldv (r := p) dX1_offer_31 ⟨Nat.le_of_ble_eq_true rfl, Nat.le_of_ble_eq_true rfl⟩ rfl (by decide) (by omega) (by omega) (by decide) hpF ?_
          refine aw_astore (ls' := [some (ab_r 44), some (ab_i (k : Int)), some (ab_r 13), some (ab_i 0), some (ab_i (o.1.length : Int)), some (ab_i (j : Int)), some (ab_r p), none]) dX1_offer_32 (by decide) (by omega) rfl ?_
          refine aw_iconst dX1_offer_34 ?_
          refine aw_istore (ls' := [some (ab_r 44), some (ab_i (k : Int)), some (ab_r 13), some (ab_i 0), some (ab_i (o.1.length : Int)), some (ab_i (j : Int)), some (ab_r p), some (ab_i 0)]) dX1_offer_35 (by decide) rfl ?_
          refine aw_iload_n dX1_offer_37 rfl ?_
          refine aw_if_ne (tgt := 103) dX1_offer_38 rfl ⟨by decide, by decide⟩ (fun c9 => absurd rfl c9) (fun _ => ?_)
          refine aw_aload_n dX1_offer_41 rfl (by decide) ?_
          refine aw_aload dX1_offer_42 rfl (by omega) ?_
          refine aw_getiv (v := (s : Int)) dX1_offer_44 fX1_97 ⟨by omega, by omega⟩ (sh_p44 hp2) rfl hs ?_
          refine aw_aload_n dX1_offer_47 rfl (by decide) ?_
          refine aw_getrv (r := 2) dX1_offer_48 fX1_35 ⟨Nat.le_of_ble_eq_true rfl, Nat.le_of_ble_eq_true rfl⟩ rfl rfl (hF1.at 44 0 2 rfl rfl rfl) ?_
          refine aw_getrv (r := 3) dX1_offer_51 fX1_112 ⟨Nat.le_of_ble_eq_true rfl, Nat.le_of_ble_eq_true rfl⟩ rfl rfl (hF1.at 2 0 3 rfl rfl rfl) ?_
          refine aw_aload dX1_offer_54 rfl (by omega) ?_
          refine aw_getiv (v := (s : Int)) dX1_offer_56 fX1_97 ⟨by omega, by omega⟩ (sh_p44 hp2) rfl hs ?_
          refine aw_aaldv (r := 4 + s) dX1_offer_59 ⟨Nat.le_of_ble_eq_true rfl, Nat.le_of_ble_eq_true rfl⟩ rfl (by decide) (by omega) (by omega) (by decide) (hF1.w hs4) ?_
          refine aw_iload_n dX1_offer_60 rfl ?_
          refine aw_ialdq (q := k) (v := I1 (4 + s) k) dX1_offer_61 ⟨by omega, by omega⟩ (sh_w hs4) (by omega) (by omega) (by decide) rfl rfl ?_
          refine aw_aload dX1_offer_62 rfl (by omega) ?_
          refine aw_geti dX1_offer_64 fX1_115 ⟨by omega, by omega⟩ (sh_p44 hp2) rfl ?_
          refine aw_callV (as := [ab_i (s : Int), ab_i (I1 (4 + s) k), ab_i (I1 p 4)]) (rest := []) dX1_offer_67 (ct_X7_takes_13 G I1 F1 hF1 s (I1 (4 + s) k) (I1 p 4) hs4 (by unfold ab_In; omega) hRs.2.1 (by unfold ab_In; omega) (by unfold ab_In; omega)) ⟨Nat.le_of_ble_eq_true rfl, Nat.le_of_ble_eq_true rfl⟩ rfl kc7 rfl kX7_takes iX7_takes eX7_takes lX1_118 rfl (Nat.le_of_ble_eq_true rfl) (by decide) (by decide) (by decide) (by decide) ?_
          rintro _ _ ⟨rfl, rfl⟩
          rw [← htk1]
          have h01 := rl_01 (I1 14 s) (I1 15 s) (I1 16 s) (I1 (4 + s) k) (I1 p 4)
          rw [← htk1] at h01
          rcases h01 with q01 | q01
          · rw [q01]
            refine aw_istore_n (ls' := [some (ab_r 44), some (ab_i (k : Int)), some (ab_r 13), some (ab_i 0), some (ab_i (o.1.length : Int)), some (ab_i (j : Int)), some (ab_r p), some (ab_i 0)]) dX1_offer_70 (by decide) rfl ?_
            refine aw_iload_n dX1_offer_71 rfl ?_
            refine aw_if_ne (tgt := 85) dX1_offer_72 rfl ⟨by decide, by decide⟩ (fun c9 => absurd rfl c9) (fun _ => ?_)
            refine aw_aload_n dX1_offer_75 rfl (by decide) ?_
            refine aw_aload dX1_offer_76 rfl (by omega) ?_
            refine aw_aload_n dX1_offer_78 rfl (by decide) ?_
            refine aw_callV (as := [ab_r p, ab_r 13]) (rest := []) dX1_offer_79 (ct_X1_sayNo_44_13 G I1 F1 hF1 p hp2 s hs hs4 hpb2.1 hR10 hR20) ⟨Nat.le_of_ble_eq_true rfl, Nat.le_of_ble_eq_true rfl⟩ rfl kc1 rfl kX1_sayNo iX1_sayNo eX1_sayNo lX1_122 rfl (Nat.le_of_ble_eq_true rfl) (by decide) (by decide) (by decide) (by decide) ?_
            rintro _ _ ⟨rfl, rfl⟩
            rcases (show I1 p 3 + 1 ≤ I1 13 1 ∨ (¬ I1 p 3 + 1 ≤ I1 13 1 ∧ I1 13 2 = 0) ∨ (¬ I1 p 3 + 1 ≤ I1 13 1 ∧ I1 13 2 = 1) ∨ (¬ I1 p 3 + 1 ≤ I1 13 1 ∧ ¬ I1 13 2 = 0 ∧ ¬ I1 13 2 = 1) by omega) with qs | qs | qs | qs
            · rw [show sn_r I1 13 p = 0 by unfold sn_r; rw [if_pos qs], show sn_I I1 44 13 p s = ab_u I1 p 3 (I1 p 3 + 1) by unfold sn_I; rw [if_pos qs]]
              refine aw_if_eq (tgt := 89) dX1_offer_82 rfl ⟨by decide, by decide⟩ (fun _ => ?_) (fun c9 => absurd (by decide) c9)
              refine aw_iconst dX1_offer_89 ?_
              refine aw_istore (ls' := [some (ab_r 44), some (ab_i (k : Int)), some (ab_r 13), some (ab_i 0), some (ab_i (o.1.length : Int)), some (ab_i (j : Int)), some (ab_r p), some (ab_i 0)]) dX1_offer_90 (by decide) rfl ?_
              refine aw_iload_n dX1_offer_92 rfl ?_
              refine aw_if_eq (tgt := 103) dX1_offer_93 rfl ⟨by decide, by decide⟩ (fun _ => ?_) (fun c9 => absurd (by decide) c9)
              refine aw_iload dX1_offer_103 rfl ?_
              refine aw_if_ne (tgt := 134) dX1_offer_105 rfl ⟨by decide, by decide⟩ (fun c9 => absurd rfl c9) (fun _ => ?_)
              refine aw_aload_n dX1_offer_108 rfl (by decide) ?_
              refine aw_getrv (r := 45) dX1_offer_109 fX1_11 ⟨Nat.le_of_ble_eq_true rfl, Nat.le_of_ble_eq_true rfl⟩ rfl rfl (hF1.at 44 1 45 rfl rfl rfl) ?_
              refine aw_iload dX1_offer_112 rfl ?_
              refine aw_aload_n dX1_offer_114 rfl (by decide) ?_
              refine aw_getrv (r := 45) dX1_offer_115 fX1_11 ⟨Nat.le_of_ble_eq_true rfl, Nat.le_of_ble_eq_true rfl⟩ rfl rfl (hF1.at 44 1 45 rfl rfl rfl) ?_
              refine aw_iload dX1_offer_118 rfl ?_
              refine aw_aaldv (r := F1 45 o.1.length) dX1_offer_120 ⟨Nat.le_of_ble_eq_true rfl, Nat.le_of_ble_eq_true rfl⟩ rfl (by decide) (by omega) (by omega) (by decide) rfl ?_
              refine aw_aastv (q := j) kc4 dX1_offer_121 ⟨Nat.le_of_ble_eq_true rfl, Nat.le_of_ble_eq_true rfl⟩ rfl (by omega) (by omega) (by decide) ⟨by omega, by omega⟩ (sh_p44 hpm) rfl ?_
              refine aw_aload_n dX1_offer_122 rfl (by decide) ?_
              refine aw_getrv (r := 45) dX1_offer_123 fX1_11 ⟨Nat.le_of_ble_eq_true rfl, Nat.le_of_ble_eq_true rfl⟩ rfl rfl (hF1.at 44 1 45 rfl rfl rfl) ?_
              refine aw_iload dX1_offer_126 rfl ?_
              refine aw_aload dX1_offer_128 rfl (by omega) ?_
              refine aw_aastv (q := o.1.length) kc4 dX1_offer_130 ⟨Nat.le_of_ble_eq_true rfl, Nat.le_of_ble_eq_true rfl⟩ rfl (by omega) (by omega) (by decide) ⟨by omega, by omega⟩ (sh_p44 hp2) rfl ?_
              refine aw_iinc (ls' := [some (ab_r 44), some (ab_i (k : Int)), some (ab_r 13), some (ab_i 0), some (ab_i ((o.1.length : Int) + 1)), some (ab_i (j : Int)), some (ab_r p), some (ab_i 0)]) dX1_offer_131 (by decide) rfl rfl ?_
              refine aw_iinc (ls' := [some (ab_r 44), some (ab_i (k : Int)), some (ab_r 13), some (ab_i 0), some (ab_i ((o.1.length : Int) + 1)), some (ab_i ((j : Int) + 1)), some (ab_r p), some (ab_i 0)]) dX1_offer_134 (by decide) rfl rfl ?_
              refine aw_goto (tgt := 16) dX1_offer_137 rfl ?_
              subst hpF
              have n2 : ¬ tk1 (ruX I 13) (tnX I) k (tup I1 (F1 45 j)) = 1 := by rw [q01]; decide
              have hr1 : (ruX I 13).2.1 = I1 13 1 := (he 13 1 (by omega)).symm
              have hr2 : (ruX I 13).2.2.1 = I1 13 2 := (he 13 2 (by omega)).symm
              have n1 : ¬ o.2.2.2 = true := by rw [htk]; decide
              have eTk : (if (of_step (ruX I 13) (tnX I) k o (tup I1 (F1 45 j))).2.2.2 = true then (1 : Int) else 0) = 0 := by first | (unfold of_step; rw [if_neg n1, if_neg n2, if_pos (show (tup I1 (F1 45 j)).2.2.2.1 + 1 ≤ (ruX I 13).2.1 by rw [hr1]; exact qs)]; simp; done) | (unfold of_step; rw [if_neg n1, if_neg n2, if_neg (show ¬ (tup I1 (F1 45 j)).2.2.2.1 + 1 ≤ (ruX I 13).2.1 by rw [hr1]; exact qs.1), if_neg (show ¬ (ruX I 13).2.2.1 = 0 by rw [hr2]; exact qs.2.1), if_neg (show ¬ (ruX I 13).2.2.1 = 1 by rw [hr2]; exact qs.2.2)]; simp; done)
              have eLn : (of_step (ruX I 13) (tnX I) k o (tup I1 (F1 45 j))).1.length = o.1.length + 1 := by first | (unfold of_step; rw [if_neg n1, if_neg n2, if_pos (show (tup I1 (F1 45 j)).2.2.2.1 + 1 ≤ (ruX I 13).2.1 by rw [hr1]; exact qs)]; simp; done) | (unfold of_step; rw [if_neg n1, if_neg n2, if_neg (show ¬ (tup I1 (F1 45 j)).2.2.2.1 + 1 ≤ (ruX I 13).2.1 by rw [hr1]; exact qs.1), if_neg (show ¬ (ruX I 13).2.2.1 = 0 by rw [hr2]; exact qs.2.1), if_neg (show ¬ (ruX I 13).2.2.1 = 1 by rw [hr2]; exact qs.2.2)]; simp; done)
              have hn := OI_d (ru := ruX I 13) (tn := tnX I) (k := k) hOI hjN htk hpb (by omega) (by omega) (by rw [q01]; decide) (by rw [hr1, hr2]; first | exact Or.inl qs | exact Or.inr qs.2)
              have ih9 := ih (j + 1) _ _ _ (by omega) hn (by unfold of_step; (repeat' split) <;> (try dsimp only) <;> omega) (by unfold of_step; (repeat' split) <;> (try dsimp only) <;> omega) hfo
              refine aw_le (ls' := [some (ab_r 44), some (ab_i (k : Int)), some (ab_r 13), some (ab_i 0), some (ab_i ((o.1.length : Int) + 1)), some (ab_i ((j : Int) + 1)), none, none]) (ab_le_c (ab_le_c (ab_le_c (ab_le_c (ab_le_c (ab_le_c (ab_le_n (ab_le_n ab_le_nil)))))))) ?_
              refine aw_ls ?_ ih9
              rw [eTk, eLn]
              rfl
            · rw [show sn_r I1 13 p = 1 by unfold sn_r; rw [if_neg qs.1, if_pos qs.2], show sn_I I1 44 13 p s = ab_u (ab_u I1 p 3 (I1 p 3 + 1)) 50 s (I1 50 s + 1) by unfold sn_I; rw [if_neg qs.1, if_pos qs.2]]
              refine aw_if_eq (tgt := 89) dX1_offer_82 rfl ⟨by decide, by decide⟩ (fun c9 => absurd c9 (by decide)) (fun _ => ?_)
              refine aw_iconst dX1_offer_85 ?_
              refine aw_goto (tgt := 90) dX1_offer_86 rfl ?_
              refine aw_istore (ls' := [some (ab_r 44), some (ab_i (k : Int)), some (ab_r 13), some (ab_i 0), some (ab_i (o.1.length : Int)), some (ab_i (j : Int)), some (ab_r p), some (ab_i 1)]) dX1_offer_90 (by decide) rfl ?_
              refine aw_iload_n dX1_offer_92 rfl ?_
              refine aw_if_eq (tgt := 103) dX1_offer_93 rfl ⟨by decide, by decide⟩ (fun _ => ?_) (fun c9 => absurd (by decide) c9)
              refine aw_iload dX1_offer_103 rfl ?_
              refine aw_if_ne (tgt := 134) dX1_offer_105 rfl ⟨by decide, by decide⟩ (fun _ => ?_) (fun c9 => absurd c9 (by decide))
              refine aw_iinc (ls' := [some (ab_r 44), some (ab_i (k : Int)), some (ab_r 13), some (ab_i 0), some (ab_i (o.1.length : Int)), some (ab_i ((j : Int) + 1)), some (ab_r p), some (ab_i 1)]) dX1_offer_134 (by decide) rfl rfl ?_
              refine aw_goto (tgt := 16) dX1_offer_137 rfl ?_
              subst hpF
              have n2 : ¬ tk1 (ruX I 13) (tnX I) k (tup I1 (F1 45 j)) = 1 := by rw [q01]; decide
              have hr1 : (ruX I 13).2.1 = I1 13 1 := (he 13 1 (by omega)).symm
              have hr2 : (ruX I 13).2.2.1 = I1 13 2 := (he 13 2 (by omega)).symm
              have n1 : ¬ o.2.2.2 = true := by rw [htk]; decide
              have eTk : (if (of_step (ruX I 13) (tnX I) k o (tup I1 (F1 45 j))).2.2.2 = true then (1 : Int) else 0) = 0 := by unfold of_step; rw [if_neg n1, if_neg n2, if_neg (show ¬ (tup I1 (F1 45 j)).2.2.2.1 + 1 ≤ (ruX I 13).2.1 by rw [hr1]; exact qs.1), if_pos (show (ruX I 13).2.2.1 = _ by rw [hr2]; exact qs.2)]; try simp
              have eLn : (of_step (ruX I 13) (tnX I) k o (tup I1 (F1 45 j))).1.length = o.1.length := by unfold of_step; rw [if_neg n1, if_neg n2, if_neg (show ¬ (tup I1 (F1 45 j)).2.2.2.1 + 1 ≤ (ruX I 13).2.1 by rw [hr1]; exact qs.1), if_pos (show (ruX I 13).2.2.1 = _ by rw [hr2]; exact qs.2)]; try simp
              have hn := OI_c (ru := ruX I 13) (tn := tnX I) (k := k) hOI hjN htk hpb (by omega) (by omega) hs hs4 (by rw [q01]; decide) (by rw [hr1]; exact qs.1) (by rw [hr2]; exact qs.2)
              have ih9 := ih (j + 1) _ _ _ (by omega) hn (by unfold of_step; (repeat' split) <;> (try dsimp only) <;> omega) (by unfold of_step; (repeat' split) <;> (try dsimp only) <;> omega) hfo
              refine aw_le (ls' := [some (ab_r 44), some (ab_i (k : Int)), some (ab_r 13), some (ab_i 0), some (ab_i (o.1.length : Int)), some (ab_i ((j : Int) + 1)), none, none]) (ab_le_c (ab_le_c (ab_le_c (ab_le_c (ab_le_c (ab_le_c (ab_le_n (ab_le_n ab_le_nil)))))))) ?_
              refine aw_ls ?_ ih9
              rw [eTk, eLn]
              rfl
            · rw [show sn_r I1 13 p = 0 by unfold sn_r; rw [if_neg qs.1, if_neg (by omega)], show sn_I I1 44 13 p s = pt (ab_u I1 44 4 (I1 44 4 + 1)) p (I1 p 0, I1 44 4, 0, 0, I1 p 4) by unfold sn_I; rw [if_neg qs.1, if_neg (by omega), if_pos qs.2]; exact back_I hp2]
              refine aw_if_eq (tgt := 89) dX1_offer_82 rfl ⟨by decide, by decide⟩ (fun _ => ?_) (fun c9 => absurd (by decide) c9)
              refine aw_iconst dX1_offer_89 ?_
              refine aw_istore (ls' := [some (ab_r 44), some (ab_i (k : Int)), some (ab_r 13), some (ab_i 0), some (ab_i (o.1.length : Int)), some (ab_i (j : Int)), some (ab_r p), some (ab_i 0)]) dX1_offer_90 (by decide) rfl ?_
              refine aw_iload_n dX1_offer_92 rfl ?_
              refine aw_if_eq (tgt := 103) dX1_offer_93 rfl ⟨by decide, by decide⟩ (fun _ => ?_) (fun c9 => absurd (by decide) c9)
              refine aw_iload dX1_offer_103 rfl ?_
              refine aw_if_ne (tgt := 134) dX1_offer_105 rfl ⟨by decide, by decide⟩ (fun c9 => absurd rfl c9) (fun _ => ?_)
              refine aw_aload_n dX1_offer_108 rfl (by decide) ?_
              refine aw_getrv (r := 45) dX1_offer_109 fX1_11 ⟨Nat.le_of_ble_eq_true rfl, Nat.le_of_ble_eq_true rfl⟩ rfl rfl (hF1.at 44 1 45 rfl rfl rfl) ?_
              refine aw_iload dX1_offer_112 rfl ?_
              refine aw_aload_n dX1_offer_114 rfl (by decide) ?_
              refine aw_getrv (r := 45) dX1_offer_115 fX1_11 ⟨Nat.le_of_ble_eq_true rfl, Nat.le_of_ble_eq_true rfl⟩ rfl rfl (hF1.at 44 1 45 rfl rfl rfl) ?_
              refine aw_iload dX1_offer_118 rfl ?_
              refine aw_aaldv (r := F1 45 o.1.length) dX1_offer_120 ⟨Nat.le_of_ble_eq_true rfl, Nat.le_of_ble_eq_true rfl⟩ rfl (by decide) (by omega) (by omega) (by decide) rfl ?_
              refine aw_aastv (q := j) kc4 dX1_offer_121 ⟨Nat.le_of_ble_eq_true rfl, Nat.le_of_ble_eq_true rfl⟩ rfl (by omega) (by omega) (by decide) ⟨by omega, by omega⟩ (sh_p44 hpm) rfl ?_
              refine aw_aload_n dX1_offer_122 rfl (by decide) ?_
              refine aw_getrv (r := 45) dX1_offer_123 fX1_11 ⟨Nat.le_of_ble_eq_true rfl, Nat.le_of_ble_eq_true rfl⟩ rfl rfl (hF1.at 44 1 45 rfl rfl rfl) ?_
              refine aw_iload dX1_offer_126 rfl ?_
              refine aw_aload dX1_offer_128 rfl (by omega) ?_
              refine aw_aastv (q := o.1.length) kc4 dX1_offer_130 ⟨Nat.le_of_ble_eq_true rfl, Nat.le_of_ble_eq_true rfl⟩ rfl (by omega) (by omega) (by decide) ⟨by omega, by omega⟩ (sh_p44 hp2) rfl ?_
              refine aw_iinc (ls' := [some (ab_r 44), some (ab_i (k : Int)), some (ab_r 13), some (ab_i 0), some (ab_i ((o.1.length : Int) + 1)), some (ab_i (j : Int)), some (ab_r p), some (ab_i 0)]) dX1_offer_131 (by decide) rfl rfl ?_
              refine aw_iinc (ls' := [some (ab_r 44), some (ab_i (k : Int)), some (ab_r 13), some (ab_i 0), some (ab_i ((o.1.length : Int) + 1)), some (ab_i ((j : Int) + 1)), some (ab_r p), some (ab_i 0)]) dX1_offer_134 (by decide) rfl rfl ?_
              refine aw_goto (tgt := 16) dX1_offer_137 rfl ?_
              subst hpF
              have n2 : ¬ tk1 (ruX I 13) (tnX I) k (tup I1 (F1 45 j)) = 1 := by rw [q01]; decide
              have hr1 : (ruX I 13).2.1 = I1 13 1 := (he 13 1 (by omega)).symm
              have hr2 : (ruX I 13).2.2.1 = I1 13 2 := (he 13 2 (by omega)).symm
              have n1 : ¬ o.2.2.2 = true := by rw [htk]; decide
              have eTk : (if (of_step (ruX I 13) (tnX I) k o (tup I1 (F1 45 j))).2.2.2 = true then (1 : Int) else 0) = 0 := by unfold of_step; rw [if_neg n1, if_neg n2, if_neg (show ¬ (tup I1 (F1 45 j)).2.2.2.1 + 1 ≤ (ruX I 13).2.1 by rw [hr1]; exact qs.1), if_neg (show ¬ (ruX I 13).2.2.1 = 0 by rw [hr2]; omega), if_pos (show (ruX I 13).2.2.1 = _ by rw [hr2]; exact qs.2)]; try simp
              have eLn : (of_step (ruX I 13) (tnX I) k o (tup I1 (F1 45 j))).1.length = o.1.length + 1 := by unfold of_step; rw [if_neg n1, if_neg n2, if_neg (show ¬ (tup I1 (F1 45 j)).2.2.2.1 + 1 ≤ (ruX I 13).2.1 by rw [hr1]; exact qs.1), if_neg (show ¬ (ruX I 13).2.2.1 = 0 by rw [hr2]; omega), if_pos (show (ruX I 13).2.2.1 = _ by rw [hr2]; exact qs.2)]; try simp
              have hn := OI_e (ru := ruX I 13) (tn := tnX I) (k := k) hOI hjN htk hpb (by omega) (by omega) (by rw [q01]; decide) (by rw [hr1]; exact qs.1) (by rw [hr2]; exact qs.2) (by omega)
              have ih9 := ih (j + 1) _ _ _ (by omega) hn (by unfold of_step; (repeat' split) <;> (try dsimp only) <;> omega) (by unfold of_step; (repeat' split) <;> (try dsimp only) <;> omega) hfo
              refine aw_le (ls' := [some (ab_r 44), some (ab_i (k : Int)), some (ab_r 13), some (ab_i 0), some (ab_i ((o.1.length : Int) + 1)), some (ab_i ((j : Int) + 1)), none, none]) (ab_le_c (ab_le_c (ab_le_c (ab_le_c (ab_le_c (ab_le_c (ab_le_n (ab_le_n ab_le_nil)))))))) ?_
              refine aw_ls ?_ ih9
              rw [eTk, eLn]
              rfl
            · rw [show sn_r I1 13 p = 0 by unfold sn_r; rw [if_neg qs.1, if_neg qs.2.1], show sn_I I1 44 13 p s = ab_u I1 p 3 (I1 p 3 + 1) by unfold sn_I; rw [if_neg qs.1, if_neg qs.2.1, if_neg qs.2.2]]
              refine aw_if_eq (tgt := 89) dX1_offer_82 rfl ⟨by decide, by decide⟩ (fun _ => ?_) (fun c9 => absurd (by decide) c9)
              refine aw_iconst dX1_offer_89 ?_
              refine aw_istore (ls' := [some (ab_r 44), some (ab_i (k : Int)), some (ab_r 13), some (ab_i 0), some (ab_i (o.1.length : Int)), some (ab_i (j : Int)), some (ab_r p), some (ab_i 0)]) dX1_offer_90 (by decide) rfl ?_
              refine aw_iload_n dX1_offer_92 rfl ?_
              refine aw_if_eq (tgt := 103) dX1_offer_93 rfl ⟨by decide, by decide⟩ (fun _ => ?_) (fun c9 => absurd (by decide) c9)
              refine aw_iload dX1_offer_103 rfl ?_
              refine aw_if_ne (tgt := 134) dX1_offer_105 rfl ⟨by decide, by decide⟩ (fun c9 => absurd rfl c9) (fun _ => ?_)
              refine aw_aload_n dX1_offer_108 rfl (by decide) ?_
              refine aw_getrv (r := 45) dX1_offer_109 fX1_11 ⟨Nat.le_of_ble_eq_true rfl, Nat.le_of_ble_eq_true rfl⟩ rfl rfl (hF1.at 44 1 45 rfl rfl rfl) ?_
              refine aw_iload dX1_offer_112 rfl ?_
              refine aw_aload_n dX1_offer_114 rfl (by decide) ?_
              refine aw_getrv (r := 45) dX1_offer_115 fX1_11 ⟨Nat.le_of_ble_eq_true rfl, Nat.le_of_ble_eq_true rfl⟩ rfl rfl (hF1.at 44 1 45 rfl rfl rfl) ?_
              refine aw_iload dX1_offer_118 rfl ?_
              refine aw_aaldv (r := F1 45 o.1.length) dX1_offer_120 ⟨Nat.le_of_ble_eq_true rfl, Nat.le_of_ble_eq_true rfl⟩ rfl (by decide) (by omega) (by omega) (by decide) rfl ?_
              refine aw_aastv (q := j) kc4 dX1_offer_121 ⟨Nat.le_of_ble_eq_true rfl, Nat.le_of_ble_eq_true rfl⟩ rfl (by omega) (by omega) (by decide) ⟨by omega, by omega⟩ (sh_p44 hpm) rfl ?_
              refine aw_aload_n dX1_offer_122 rfl (by decide) ?_
              refine aw_getrv (r := 45) dX1_offer_123 fX1_11 ⟨Nat.le_of_ble_eq_true rfl, Nat.le_of_ble_eq_true rfl⟩ rfl rfl (hF1.at 44 1 45 rfl rfl rfl) ?_
              refine aw_iload dX1_offer_126 rfl ?_
              refine aw_aload dX1_offer_128 rfl (by omega) ?_
              refine aw_aastv (q := o.1.length) kc4 dX1_offer_130 ⟨Nat.le_of_ble_eq_true rfl, Nat.le_of_ble_eq_true rfl⟩ rfl (by omega) (by omega) (by decide) ⟨by omega, by omega⟩ (sh_p44 hp2) rfl ?_
              refine aw_iinc (ls' := [some (ab_r 44), some (ab_i (k : Int)), some (ab_r 13), some (ab_i 0), some (ab_i ((o.1.length : Int) + 1)), some (ab_i (j : Int)), some (ab_r p), some (ab_i 0)]) dX1_offer_131 (by decide) rfl rfl ?_
              refine aw_iinc (ls' := [some (ab_r 44), some (ab_i (k : Int)), some (ab_r 13), some (ab_i 0), some (ab_i ((o.1.length : Int) + 1)), some (ab_i ((j : Int) + 1)), some (ab_r p), some (ab_i 0)]) dX1_offer_134 (by decide) rfl rfl ?_
              refine aw_goto (tgt := 16) dX1_offer_137 rfl ?_
              subst hpF
              have n2 : ¬ tk1 (ruX I 13) (tnX I) k (tup I1 (F1 45 j)) = 1 := by rw [q01]; decide
              have hr1 : (ruX I 13).2.1 = I1 13 1 := (he 13 1 (by omega)).symm
              have hr2 : (ruX I 13).2.2.1 = I1 13 2 := (he 13 2 (by omega)).symm
              have n1 : ¬ o.2.2.2 = true := by rw [htk]; decide
              have eTk : (if (of_step (ruX I 13) (tnX I) k o (tup I1 (F1 45 j))).2.2.2 = true then (1 : Int) else 0) = 0 := by first | (unfold of_step; rw [if_neg n1, if_neg n2, if_pos (show (tup I1 (F1 45 j)).2.2.2.1 + 1 ≤ (ruX I 13).2.1 by rw [hr1]; exact qs)]; simp; done) | (unfold of_step; rw [if_neg n1, if_neg n2, if_neg (show ¬ (tup I1 (F1 45 j)).2.2.2.1 + 1 ≤ (ruX I 13).2.1 by rw [hr1]; exact qs.1), if_neg (show ¬ (ruX I 13).2.2.1 = 0 by rw [hr2]; exact qs.2.1), if_neg (show ¬ (ruX I 13).2.2.1 = 1 by rw [hr2]; exact qs.2.2)]; simp; done)
              have eLn : (of_step (ruX I 13) (tnX I) k o (tup I1 (F1 45 j))).1.length = o.1.length + 1 := by first | (unfold of_step; rw [if_neg n1, if_neg n2, if_pos (show (tup I1 (F1 45 j)).2.2.2.1 + 1 ≤ (ruX I 13).2.1 by rw [hr1]; exact qs)]; simp; done) | (unfold of_step; rw [if_neg n1, if_neg n2, if_neg (show ¬ (tup I1 (F1 45 j)).2.2.2.1 + 1 ≤ (ruX I 13).2.1 by rw [hr1]; exact qs.1), if_neg (show ¬ (ruX I 13).2.2.1 = 0 by rw [hr2]; exact qs.2.1), if_neg (show ¬ (ruX I 13).2.2.1 = 1 by rw [hr2]; exact qs.2.2)]; simp; done)
              have hn := OI_d (ru := ruX I 13) (tn := tnX I) (k := k) hOI hjN htk hpb (by omega) (by omega) (by rw [q01]; decide) (by rw [hr1, hr2]; first | exact Or.inl qs | exact Or.inr qs.2)
              have ih9 := ih (j + 1) _ _ _ (by omega) hn (by unfold of_step; (repeat' split) <;> (try dsimp only) <;> omega) (by unfold of_step; (repeat' split) <;> (try dsimp only) <;> omega) hfo
              refine aw_le (ls' := [some (ab_r 44), some (ab_i (k : Int)), some (ab_r 13), some (ab_i 0), some (ab_i ((o.1.length : Int) + 1)), some (ab_i ((j : Int) + 1)), none, none]) (ab_le_c (ab_le_c (ab_le_c (ab_le_c (ab_le_c (ab_le_c (ab_le_n (ab_le_n ab_le_nil)))))))) ?_
              refine aw_ls ?_ ih9
              rw [eTk, eLn]
              rfl
          · rw [q01]
            refine aw_istore_n (ls' := [some (ab_r 44), some (ab_i (k : Int)), some (ab_r 13), some (ab_i 1), some (ab_i (o.1.length : Int)), some (ab_i (j : Int)), some (ab_r p), some (ab_i 0)]) dX1_offer_70 (by decide) rfl ?_
            refine aw_iload_n dX1_offer_71 rfl ?_
            refine aw_if_ne (tgt := 85) dX1_offer_72 rfl ⟨by decide, by decide⟩ (fun _ => ?_) (fun c9 => absurd c9 (by decide))
            refine aw_iconst dX1_offer_85 ?_
            refine aw_goto (tgt := 90) dX1_offer_86 rfl ?_
            refine aw_istore (ls' := [some (ab_r 44), some (ab_i (k : Int)), some (ab_r 13), some (ab_i 1), some (ab_i (o.1.length : Int)), some (ab_i (j : Int)), some (ab_r p), some (ab_i 1)]) dX1_offer_90 (by decide) rfl ?_
            refine aw_iload_n dX1_offer_92 rfl ?_
            refine aw_if_eq (tgt := 103) dX1_offer_93 rfl ⟨by decide, by decide⟩ (fun c9 => absurd c9 (by decide)) (fun _ => ?_)
            refine aw_aload_n dX1_offer_96 rfl (by decide) ?_
            refine aw_aload dX1_offer_97 rfl (by omega) ?_
            refine aw_iload_n dX1_offer_99 rfl ?_
            refine aw_callV (as := [ab_r p, ab_i (k : Int)]) (rest := []) dX1_offer_100 (ct_X1_house_44 G I1 F1 hF1 p hp2 s k hs hs4 hk) ⟨Nat.le_of_ble_eq_true rfl, Nat.le_of_ble_eq_true rfl⟩ rfl kc1 rfl kX1_house iX1_house eX1_house lX1_126 rfl (Nat.le_of_ble_eq_true rfl) (by decide) (by decide) (by decide) (by decide) ?_
            rintro _ _ ⟨rfl, rfl⟩
            refine aw_iload dX1_offer_103 rfl ?_
            refine aw_if_ne (tgt := 134) dX1_offer_105 rfl ⟨by decide, by decide⟩ (fun _ => ?_) (fun c9 => absurd c9 (by decide))
            refine aw_iinc (ls' := [some (ab_r 44), some (ab_i (k : Int)), some (ab_r 13), some (ab_i 1), some (ab_i (o.1.length : Int)), some (ab_i ((j : Int) + 1)), some (ab_r p), some (ab_i 1)]) dX1_offer_134 (by decide) rfl rfl ?_
            refine aw_goto (tgt := 16) dX1_offer_137 rfl ?_
            subst hpF
            have n1 : ¬ o.2.2.2 = true := by rw [htk]; decide
            have eTk : (if (of_step (ruX I 13) (tnX I) k o (tup I1 (F1 45 j))).2.2.2 = true then (1 : Int) else 0) = 1 := by unfold of_step; rw [if_neg n1, if_pos q01]; try simp
            have eLn : (of_step (ruX I 13) (tnX I) k o (tup I1 (F1 45 j))).1.length = o.1.length := by unfold of_step; rw [if_neg n1, if_pos q01]; try simp
            have hn := OI_b (ru := ruX I 13) (tn := tnX I) (k := k) hOI hjN hpb htk hs hs4 q01 (wv := I1 (4 + s) k) ((tnX_w hs4 hk).trans (he2 _ _ (by omega)).symm)
            have ih9 := ih (j + 1) _ _ _ (by omega) hn (by unfold of_step; (repeat' split) <;> (try dsimp only) <;> omega) (by unfold of_step; (repeat' split) <;> (try dsimp only) <;> omega) hfo
            refine aw_le (ls' := [some (ab_r 44), some (ab_i (k : Int)), some (ab_r 13), some (ab_i 1), some (ab_i (o.1.length : Int)), some (ab_i ((j : Int) + 1)), none, none]) (ab_le_c (ab_le_c (ab_le_c (ab_le_c (ab_le_c (ab_le_c (ab_le_n (ab_le_n ab_le_nil)))))))) ?_
            refine aw_ls ?_ ih9
            rw [eTk, eLn]
            rfl
  refine aw_aload_n dX1_offer_0 rfl (by decide) ?_
  refine aw_aload_n dX1_offer_1 rfl (by decide) ?_
  refine aw_geti dX1_offer_2 fX1_106 ⟨Nat.le_of_ble_eq_true rfl, Nat.le_of_ble_eq_true rfl⟩ rfl rfl ?_
  refine aw_callV (as := [ab_i (I 13 0)]) (rest := []) dX1_offer_5 hst ⟨Nat.le_of_ble_eq_true rfl, Nat.le_of_ble_eq_true rfl⟩ rfl kc1 rfl kX1_stand iX1_stand eX1_stand lX1_109 rfl (Nat.le_of_ble_eq_true rfl) (by decide) (by decide) (by decide) (by decide) ?_
  rintro _ _ ⟨rfl, rfl⟩
  refine aw_iconst dX1_offer_8 ?_
  refine aw_istore_n (ls' := [some (ab_r 44), some (ab_i (k : Int)), some (ab_r 13), some (ab_i 0), none, none, none, none]) dX1_offer_9 (by decide) rfl ?_
  refine aw_iconst dX1_offer_10 ?_
  refine aw_istore (ls' := [some (ab_r 44), some (ab_i (k : Int)), some (ab_r 13), some (ab_i 0), some (ab_i 0), none, none, none]) dX1_offer_11 (by decide) rfl ?_
  refine aw_iconst dX1_offer_13 ?_
  refine aw_istore (ls' := [some (ab_r 44), some (ab_i (k : Int)), some (ab_r 13), some (ab_i 0), some (ab_i 0), some (ab_i 0), none, none]) dX1_offer_14 (by decide) rfl ?_
  have h9 := loop N 0 ([], fun _ _ => 0, I 44 4, false) I Fs (by omega) ?_ (by simp) (by simp) (by rw [List.drop_zero]; exact hO)
  · exact h9
  · refine ⟨⟨Nat.zero_le _, hN12⟩, ⟨hN, rfl, rfl, rfl⟩, fun w s _ _ => by simp, fun _ _ _ => rfl, fun _ _ _ => rfl, fun i hi => by rw [hFL]; exact hP2 i hi, fun a b ha hb2 e => hJ a b ha hb2 (by rw [← hFL, ← hFL]; exact e), fun i hi => by simp at hi, fun _ _ _ => rfl, fun _ _ _ => rfl, fun t ht => by simp at ht, hba⟩
set_option maxHeartbeats 4000000 in
set_option maxRecDepth 100000 in
theorem ct_X1_offer_44_17 (G : ab_G) (I : Nat → Nat → Int) (F : Nat → Nat → Nat) (hF : ab_FB F) (wk : Int) (hba : ∀ p, 53 ≤ p → p ≤ 64 → PB 6000 100000 (tup I p)) (hwk : 0 ≤ wk ∧ wk ≤ 5999) (hnx : 0 ≤ I 44 4 ∧ I 44 4 ≤ 90000) (hT : TB I) (hR : RB 17 I) (N k : Nat) (hk : k < 4) (hN : I 44 2 = N) (hbm : ∀ i, i < N → PB wk (I 44 4) (tup I (F 45 i))) (hN12 : N ≤ 12) (hP : ∀ j, j < 12 → 53 ≤ F 45 j ∧ F 45 j ≤ 64) (hJ : ∀ a b, a < 12 → b < 12 → sd (fun a b => ah (I 17 0) (n4 (I 8)) (tup I a) (tup I b)) (F 45) N a = sd (fun a b => ah (I 17 0) (n4 (I 8)) (tup I a) (tup I b)) (F 45) N b → a = b) : Ct G 2 0 0 YX1_offer [ab_r 44, ab_i (k : Int), ab_r 17] (104, I, F) (fun q h => q = none ∧ ∃ I2 F2, h = (104, I2, F2) ∧ OE 44 I (rw_ F 45 (sd (fun a b => ah (I 17 0) (n4 (I 8)) (tup I a) (tup I b)) (F 45) N)) wk (((List.range N).map (fun i => tup I ((rw_ F 45 (sd (fun a b => ah (I 17 0) (n4 (I 8)) (tup I a) (tup I b)) (F 45) N)) 45 i))).foldl (of_step (ruX I 17) (tnX I) k) ([], fun _ _ => 0, I 44 4, false)) I2 F2) := by
  refine Ct.ofW kX1_offer (ls := [some (ab_r 44), some (ab_i (k : Int)), some (ab_r 17), none, none, none, none, none]) (Nat.le_of_ble_eq_true rfl) rfl ?_
  have hR0 := hR.1
  have hP2 : ∀ j, j < 12 → 53 ≤ sd (fun a b => ah (I 17 0) (n4 (I 8)) (tup I a) (tup I b)) (F 45) N j ∧ sd (fun a b => ah (I 17 0) (n4 (I 8)) (tup I a) (tup I b)) (F 45) N j ≤ 64 := fun j hj => sd_all _ (fun p => 53 ≤ p ∧ p ≤ 64) hP N hN12 j hj
  have hFs : ab_FB (rw_ F 45 (sd (fun a b => ah (I 17 0) (n4 (I 8)) (tup I a) (tup I b)) (F 45) N)) := hF.rw 45 _ (by omega)
  have hst := ct_X1_stand_44 G I F hF 6000 100000 hba (by omega) (by omega) hT.1 (I 17 0) (by unfold ab_In; omega) N hN hN12 hP
  have hbs : ∀ i, i < N → PB wk (I 44 4) (tup I (sd (fun a b => ah (I 17 0) (n4 (I 8)) (tup I a) (tup I b)) (F 45) N i)) := fun i hi => sd_allN _ (fun p => PB wk (I 44 4) (tup I p)) N hbm N (Nat.le_refl _) i hi
  have hFL : ∀ i, (rw_ F 45 (sd (fun a b => ah (I 17 0) (n4 (I 8)) (tup I a) (tup I b)) (F 45) N)) 45 i = sd (fun a b => ah (I 17 0) (n4 (I 8)) (tup I a) (tup I b)) (F 45) N i := fun i => rw_s _ _ _ _
  generalize hFse : (rw_ F 45 (sd (fun a b => ah (I 17 0) (n4 (I 8)) (tup I a) (tup I b)) (F 45) N)) = Fs at *
  generalize hO : (((List.range N).map (fun i => tup I (Fs 45 i))).foldl (of_step (ruX I 17) (tnX I) k) ([], fun _ _ => 0, I 44 4, false)) = O
  generalize hZ : ab_Z G (fun q h => q = none ∧ ∃ I2 F2, h = (104, I2, F2) ∧ OE 44 I Fs wk O I2 F2) 0 0 = Z
  have loop : ∀ (d j : Nat) (o : OS) (I1 : Nat → Nat → Int) (F1 : Nat → Nat → Nat), j + d = N → OI 44 I Fs N wk j o I1 F1 → I 44 4 ≤ o.2.2.1 → o.2.2.1 ≤ I 44 4 + j → (((List.range N).map (fun i => tup I (Fs 45 i))).drop j).foldl (of_step (ruX I 17) (tnX I) k) o = O → aW G YX1_offer (ab_rm 2 0 0) Z 0 0 (104, I1, F1) 16 [some (ab_r 44), some (ab_i (k : Int)), some (ab_r 17), some (ab_i (if o.2.2.2 = true then 1 else 0)), some (ab_i (o.1.length : Int)), some (ab_i (j : Int)), none, none] [] := by
    intro d
    induction d with
    | zero =>
      intro j o I1 F1 hj hOI hx1 hx2 hfo
      have hjN : j = N := by omega
      subst hjN
      rw [List.drop_of_length_le (by simp)] at hfo
      have hfo : o = O := hfo
      subst hfo
      have h2 := hOI.2.1.1
      have hO1 := hOI.1.1
      cases htk : o.2.2.2 with
      | true =>
        rw [if_pos (by decide)]
        refine aw_iload dX1_offer_16 rfl ?_
        refine aw_aload_n dX1_offer_18 rfl (by decide) ?_
        refine aw_getiv (v := (j : Int)) dX1_offer_19 fX1_17 ⟨Nat.le_of_ble_eq_true rfl, Nat.le_of_ble_eq_true rfl⟩ rfl rfl h2 ?_
        refine aw_icmp_ge (tgt := 140) dX1_offer_22 rfl (by first | assumption | (unfold ab_In at *; omega)) (by first | assumption | (unfold ab_In at *; omega)) (fun c_22 => ?_) (fun c_22 => ?_)
        · refine aw_aload_n dX1_offer_140 rfl (by decide) ?_
          refine aw_iload dX1_offer_141 rfl ?_
          refine aw_puti dX1_offer_143 fX1_17 ⟨Nat.le_of_ble_eq_true rfl, Nat.le_of_ble_eq_true rfl⟩ rfl rfl ?_
          refine aw_iload_n dX1_offer_146 rfl ?_
          refine aw_if_ne (tgt := 160) dX1_offer_147 rfl ⟨by decide, by decide⟩ (fun _ => ?_) (fun c9 => absurd c9 (by decide))
          rw [← hZ]
          refine aw_return dX1_offer_160 rfl ?_
          exact ⟨rfl, _, _, rfl, hOI.end htk⟩
        · exfalso; omega
      | false =>
        rw [if_neg (by decide)]
        refine aw_iload dX1_offer_16 rfl ?_
        refine aw_aload_n dX1_offer_18 rfl (by decide) ?_
        refine aw_getiv (v := (j : Int)) dX1_offer_19 fX1_17 ⟨Nat.le_of_ble_eq_true rfl, Nat.le_of_ble_eq_true rfl⟩ rfl rfl h2 ?_
        refine aw_icmp_ge (tgt := 140) dX1_offer_22 rfl (by first | assumption | (unfold ab_In at *; omega)) (by first | assumption | (unfold ab_In at *; omega)) (fun c_22 => ?_) (fun c_22 => ?_)
        · refine aw_aload_n dX1_offer_140 rfl (by decide) ?_
          refine aw_iload dX1_offer_141 rfl ?_
          refine aw_puti dX1_offer_143 fX1_17 ⟨Nat.le_of_ble_eq_true rfl, Nat.le_of_ble_eq_true rfl⟩ rfl rfl ?_
          refine aw_iload_n dX1_offer_146 rfl ?_
          refine aw_if_ne (tgt := 160) dX1_offer_147 rfl ⟨by decide, by decide⟩ (fun c9 => absurd rfl c9) (fun _ => ?_)
          refine aw_aload_n dX1_offer_150 rfl (by decide) ?_
          refine aw_dup dX1_offer_151 rfl ?_
          refine aw_getiv (v := I1 44 5) dX1_offer_152 fX1_27 ⟨Nat.le_of_ble_eq_true rfl, Nat.le_of_ble_eq_true rfl⟩ rfl rfl (ab_u_j (by decide)) ?_
          refine aw_iconst dX1_offer_155 ?_
          refine aw_iadd dX1_offer_156 ?_
          refine aw_puti dX1_offer_157 fX1_27 ⟨Nat.le_of_ble_eq_true rfl, Nat.le_of_ble_eq_true rfl⟩ rfl rfl ?_
          rw [← hZ]
          refine aw_return dX1_offer_160 rfl ?_
          exact ⟨rfl, _, _, rfl, hOI.end2 htk⟩
        · exfalso; omega
    | succ d ih =>
      intro j o I1 F1 hj hOI hx1 hx2 hfo
      have hjN : j < N := by omega
      have h2 := hOI.2.1.1
      have hO1 := hOI.1.1
      have h4 := hOI.2.1.2.2.2
      have h7 := hOI.2.2.2.1
      have h8 := hOI.2.2.2.2.1
      have h9 := hOI.2.2.2.2.2.1
      have hF1 : ab_FB F1 := fun a b e1 e2 => (h8 a b (by omega)).trans (hFs a b e1 e2)
      have he : ∀ i b, i ≤ 17 + 3 → I1 i b = I i b := fun i b hi => h7 i b (by omega)
      have he2 : ∀ i b, i ≤ 12 → I1 i b = I i b := fun i b hi => h7 i b (by omega)
      have hT1 : TB I1 := hT.of he2
      have hR1 : RB 17 I1 := hR.of he
      have hpb : PB wk (I1 44 4) (tup I1 (F1 45 j)) := OI_pbw hOI hjN (fun i hi => by have := hbs i hi; rw [← hFL] at this; exact this) (by rw [h4]; exact hx1)
      have hp : 53 ≤ F1 45 j ∧ F1 45 j ≤ 64 := h9 j (by omega)
      have hpm : 53 ≤ F1 45 o.1.length ∧ F1 45 o.1.length ≤ 64 := h9 o.1.length (by omega)
      have hstep : ((List.range N).map (fun i => tup I (Fs 45 i))).drop j = tup I1 (F1 45 j) :: ((List.range N).map (fun i => tup I (Fs 45 i))).drop (j + 1) := by rw [drop_map_range _ hjN, hOI.2.2.2.2.2.2.2.2.1 j (Nat.le_refl _) (by omega), hOI.2.2.2.2.2.2.2.2.2.1 j (Nat.le_refl _) (by omega)]
      rw [hstep, List.foldl_cons] at hfo
      obtain ⟨p, hpF⟩ : ∃ p, F1 45 j = p := ⟨_, rfl⟩
      obtain ⟨s, hs⟩ : ∃ s : Nat, I1 p 0 = (s : Int) := ⟨(I1 p 0).toNat, by rw [← hpF]; unfold PB tup at hpb; dsimp only at hpb; omega⟩
      have hs4 : s < 4 := by rw [← hpF] at hs; unfold PB tup at hpb; dsimp only at hpb; omega
      have hpb2 : (0 ≤ I1 p 3 ∧ I1 p 3 ≤ 6000) ∧ (0 ≤ I1 p 4 ∧ I1 p 4 ≤ 6000) := by rw [← hpF]; unfold PB tup at hpb; dsimp only at hpb; omega
      have hp2 : 53 ≤ p ∧ p ≤ 64 := by rw [← hpF]; exact hp
      have hRs : (0 ≤ I1 18 s ∧ I1 18 s ≤ 2) ∧ (0 ≤ I1 19 s ∧ I1 19 s ≤ 99) ∧ (0 ≤ I1 20 s ∧ I1 20 s ≤ 9) := hR1.2.2.2.2 s hs4
      have hTw := hT1.2.1 s k hs4 hk
      have hR10 := hR1.2.1
      have hR20 := hR1.2.2.1
      have hmb := mul_bd hRs.2.2.1 hRs.2.2.2 hpb2.2.1 (by omega)
      have htk1 : tk1 (ruX I 17) (tnX I) k (tup I1 p) = rl_takes (I1 18 s) (I1 19 s) (I1 20 s) (I1 (4 + s) k) (I1 p 4) := tk1_X he he2 (by unfold tup; dsimp only; omega) hs4 hk
      cases htk : o.2.2.2 with
      | true =>
        rw [if_pos (by decide)]
        refine aw_iload dX1_offer_16 rfl ?_
        refine aw_aload_n dX1_offer_18 rfl (by decide) ?_
        refine aw_getiv (v := (N : Int)) dX1_offer_19 fX1_17 ⟨Nat.le_of_ble_eq_true rfl, Nat.le_of_ble_eq_true rfl⟩ rfl rfl h2 ?_
        refine aw_icmp_ge (tgt := 140) dX1_offer_22 rfl (by first | assumption | (unfold ab_In at *; omega)) (by first | assumption | (unfold ab_In at *; omega)) (fun c_22 => ?_) (fun c_22 => ?_)
        · exfalso; omega
        · refine aw_aload_n dX1_offer_25 rfl (by decide) ?_
          refine aw_getrv (r := 45) dX1_offer_26 fX1_11 ⟨Nat.le_of_ble_eq_true rfl, Nat.le_of_ble_eq_true rfl⟩ rfl rfl (hF1.at 44 1 45 rfl rfl rfl) ?_
          refine aw_iload dX1_offer_29 rfl ?_
          refine aw_aaldv (r := p) dX1_offer_31 ⟨Nat.le_of_ble_eq_true rfl, Nat.le_of_ble_eq_true rfl⟩ rfl (by decide) (by omega) (by omega) (by decide) hpF ?_
          refine aw_astore (ls' := [some (ab_r 44), some (ab_i (k : Int)), some (ab_r 17), some (ab_i 1), some (ab_i (o.1.length : Int)), some (ab_i (j : Int)), some (ab_r p), none]) dX1_offer_32 (by decide) (by omega) rfl ?_
          refine aw_iconst dX1_offer_34 ?_
          refine aw_istore (ls' := [some (ab_r 44), some (ab_i (k : Int)), some (ab_r 17), some (ab_i 1), some (ab_i (o.1.length : Int)), some (ab_i (j : Int)), some (ab_r p), some (ab_i 0)]) dX1_offer_35 (by decide) rfl ?_
          refine aw_iload_n dX1_offer_37 rfl ?_
          refine aw_if_ne (tgt := 103) dX1_offer_38 rfl ⟨by decide, by decide⟩ (fun _ => ?_) (fun c9 => absurd c9 (by decide))
          refine aw_iload dX1_offer_103 rfl ?_
          refine aw_if_ne (tgt := 134) dX1_offer_105 rfl ⟨by decide, by decide⟩ (fun c9 => absurd rfl c9) (fun _ => ?_)
          refine aw_aload_n dX1_offer_108 rfl (by decide) ?_
          refine aw_getrv (r := 45) dX1_offer_109 fX1_11 ⟨Nat.le_of_ble_eq_true rfl, Nat.le_of_ble_eq_true rfl⟩ rfl rfl (hF1.at 44 1 45 rfl rfl rfl) ?_
          refine aw_iload dX1_offer_112 rfl ?_
          refine aw_aload_n dX1_offer_114 rfl (by decide) ?_
          refine aw_getrv (r := 45) dX1_offer_115 fX1_11 ⟨Nat.le_of_ble_eq_true rfl, Nat.le_of_ble_eq_true rfl⟩ rfl rfl (hF1.at 44 1 45 rfl rfl rfl) ?_
          refine aw_iload dX1_offer_118 rfl ?_
          refine aw_aaldv (r := F1 45 o.1.length) dX1_offer_120 ⟨Nat.le_of_ble_eq_true rfl, Nat.le_of_ble_eq_true rfl⟩ rfl (by decide) (by omega) (by omega) (by decide) rfl ?_
          refine aw_aastv (q := j) kc4 dX1_offer_121 ⟨Nat.le_of_ble_eq_true rfl, Nat.le_of_ble_eq_true rfl⟩ rfl (by omega) (by omega) (by decide) ⟨by omega, by omega⟩ (sh_p44 hpm) rfl ?_
          refine aw_aload_n dX1_offer_122 rfl (by decide) ?_
          refine aw_getrv (r := 45) dX1_offer_123 fX1_11 ⟨Nat.le_of_ble_eq_true rfl, Nat.le_of_ble_eq_true rfl⟩ rfl rfl (hF1.at 44 1 45 rfl rfl rfl) ?_
          refine aw_iload dX1_offer_126 rfl ?_
          refine aw_aload dX1_offer_128 rfl (by omega) ?_
          refine aw_aastv (q := o.1.length) kc4 dX1_offer_130 ⟨Nat.le_of_ble_eq_true rfl, Nat.le_of_ble_eq_true rfl⟩ rfl (by omega) (by omega) (by decide) ⟨by omega, by omega⟩ (sh_p44 hp2) rfl ?_
          refine aw_iinc (ls' := [some (ab_r 44), some (ab_i (k : Int)), some (ab_r 17), some (ab_i 1), some (ab_i ((o.1.length : Int) + 1)), some (ab_i (j : Int)), some (ab_r p), some (ab_i 0)]) dX1_offer_131 (by decide) rfl rfl ?_
          refine aw_iinc (ls' := [some (ab_r 44), some (ab_i (k : Int)), some (ab_r 17), some (ab_i 1), some (ab_i ((o.1.length : Int) + 1)), some (ab_i ((j : Int) + 1)), some (ab_r p), some (ab_i 0)]) dX1_offer_134 (by decide) rfl rfl ?_
          refine aw_goto (tgt := 16) dX1_offer_137 rfl ?_
          subst hpF
          have n1 :  o.2.2.2 = true := by rw [htk]
          have eTk : (if (of_step (ruX I 17) (tnX I) k o (tup I1 (F1 45 j))).2.2.2 = true then (1 : Int) else 0) = 1 := by unfold of_step; rw [if_pos htk]; simp
          have eLn : (of_step (ruX I 17) (tnX I) k o (tup I1 (F1 45 j))).1.length = o.1.length + 1 := by unfold of_step; rw [if_pos htk]; simp
          have hn := OI_a (ru := ruX I 17) (tn := tnX I) (k := k) hOI hjN hpb htk
          have ih9 := ih (j + 1) _ _ _ (by omega) hn (by unfold of_step; (repeat' split) <;> (try dsimp only) <;> omega) (by unfold of_step; (repeat' split) <;> (try dsimp only) <;> omega) hfo
          refine aw_le (ls' := [some (ab_r 44), some (ab_i (k : Int)), some (ab_r 17), some (ab_i 1), some (ab_i ((o.1.length : Int) + 1)), some (ab_i ((j : Int) + 1)), none, none]) (ab_le_c (ab_le_c (ab_le_c (ab_le_c (ab_le_c (ab_le_c (ab_le_n (ab_le_n ab_le_nil)))))))) ?_
          refine aw_ls ?_ ih9
          rw [eTk, eLn]
          rfl
      | false =>
        rw [if_neg (by decide)]
        refine aw_iload dX1_offer_16 rfl ?_
        refine aw_aload_n dX1_offer_18 rfl (by decide) ?_
        refine aw_getiv (v := (N : Int)) dX1_offer_19 fX1_17 ⟨Nat.le_of_ble_eq_true rfl, Nat.le_of_ble_eq_true rfl⟩ rfl rfl h2 ?_
        refine aw_icmp_ge (tgt := 140) dX1_offer_22 rfl (by first | assumption | (unfold ab_In at *; omega)) (by first | assumption | (unfold ab_In at *; omega)) (fun c_22 => ?_) (fun c_22 => ?_)
        · exfalso; omega
        · refine aw_aload_n dX1_offer_25 rfl (by decide) ?_
          refine aw_getrv (r := 45) dX1_offer_26 fX1_11 ⟨Nat.le_of_ble_eq_true rfl, Nat.le_of_ble_eq_true rfl⟩ rfl rfl (hF1.at 44 1 45 rfl rfl rfl) ?_
          refine aw_iload dX1_offer_29 rfl ?_
          refine aw_aaldv (r := p) dX1_offer_31 ⟨Nat.le_of_ble_eq_true rfl, Nat.le_of_ble_eq_true rfl⟩ rfl (by decide) (by omega) (by omega) (by decide) hpF ?_
          refine aw_astore (ls' := [some (ab_r 44), some (ab_i (k : Int)), some (ab_r 17), some (ab_i 0), some (ab_i (o.1.length : Int)), some (ab_i (j : Int)), some (ab_r p), none]) dX1_offer_32 (by decide) (by omega) rfl ?_
          refine aw_iconst dX1_offer_34 ?_
          refine aw_istore (ls' := [some (ab_r 44), some (ab_i (k : Int)), some (ab_r 17), some (ab_i 0), some (ab_i (o.1.length : Int)), some (ab_i (j : Int)), some (ab_r p), some (ab_i 0)]) dX1_offer_35 (by decide) rfl ?_
          refine aw_iload_n dX1_offer_37 rfl ?_
          refine aw_if_ne (tgt := 103) dX1_offer_38 rfl ⟨by decide, by decide⟩ (fun c9 => absurd rfl c9) (fun _ => ?_)
          refine aw_aload_n dX1_offer_41 rfl (by decide) ?_
          refine aw_aload dX1_offer_42 rfl (by omega) ?_
          refine aw_getiv (v := (s : Int)) dX1_offer_44 fX1_97 ⟨by omega, by omega⟩ (sh_p44 hp2) rfl hs ?_
          refine aw_aload_n dX1_offer_47 rfl (by decide) ?_
          refine aw_getrv (r := 2) dX1_offer_48 fX1_35 ⟨Nat.le_of_ble_eq_true rfl, Nat.le_of_ble_eq_true rfl⟩ rfl rfl (hF1.at 44 0 2 rfl rfl rfl) ?_
          refine aw_getrv (r := 3) dX1_offer_51 fX1_112 ⟨Nat.le_of_ble_eq_true rfl, Nat.le_of_ble_eq_true rfl⟩ rfl rfl (hF1.at 2 0 3 rfl rfl rfl) ?_
          refine aw_aload dX1_offer_54 rfl (by omega) ?_
          refine aw_getiv (v := (s : Int)) dX1_offer_56 fX1_97 ⟨by omega, by omega⟩ (sh_p44 hp2) rfl hs ?_
          refine aw_aaldv (r := 4 + s) dX1_offer_59 ⟨Nat.le_of_ble_eq_true rfl, Nat.le_of_ble_eq_true rfl⟩ rfl (by decide) (by omega) (by omega) (by decide) (hF1.w hs4) ?_
          refine aw_iload_n dX1_offer_60 rfl ?_
          refine aw_ialdq (q := k) (v := I1 (4 + s) k) dX1_offer_61 ⟨by omega, by omega⟩ (sh_w hs4) (by omega) (by omega) (by decide) rfl rfl ?_
          refine aw_aload dX1_offer_62 rfl (by omega) ?_
          refine aw_geti dX1_offer_64 fX1_115 ⟨by omega, by omega⟩ (sh_p44 hp2) rfl ?_
          refine aw_callV (as := [ab_i (s : Int), ab_i (I1 (4 + s) k), ab_i (I1 p 4)]) (rest := []) dX1_offer_67 (ct_X7_takes_17 G I1 F1 hF1 s (I1 (4 + s) k) (I1 p 4) hs4 (by unfold ab_In; omega) hRs.2.1 (by unfold ab_In; omega) (by unfold ab_In; omega)) ⟨Nat.le_of_ble_eq_true rfl, Nat.le_of_ble_eq_true rfl⟩ rfl kc7 rfl kX7_takes iX7_takes eX7_takes lX1_118 rfl (Nat.le_of_ble_eq_true rfl) (by decide) (by decide) (by decide) (by decide) ?_
          rintro _ _ ⟨rfl, rfl⟩
          rw [← htk1]
          have h01 := rl_01 (I1 18 s) (I1 19 s) (I1 20 s) (I1 (4 + s) k) (I1 p 4)
          rw [← htk1] at h01
          rcases h01 with q01 | q01
          · rw [q01]
            refine aw_istore_n (ls' := [some (ab_r 44), some (ab_i (k : Int)), some (ab_r 17), some (ab_i 0), some (ab_i (o.1.length : Int)), some (ab_i (j : Int)), some (ab_r p), some (ab_i 0)]) dX1_offer_70 (by decide) rfl ?_
            refine aw_iload_n dX1_offer_71 rfl ?_
            refine aw_if_ne (tgt := 85) dX1_offer_72 rfl ⟨by decide, by decide⟩ (fun c9 => absurd rfl c9) (fun _ => ?_)
            refine aw_aload_n dX1_offer_75 rfl (by decide) ?_
            refine aw_aload dX1_offer_76 rfl (by omega) ?_
            refine aw_aload_n dX1_offer_78 rfl (by decide) ?_
            refine aw_callV (as := [ab_r p, ab_r 17]) (rest := []) dX1_offer_79 (ct_X1_sayNo_44_17 G I1 F1 hF1 p hp2 s hs hs4 hpb2.1 hR10 hR20) ⟨Nat.le_of_ble_eq_true rfl, Nat.le_of_ble_eq_true rfl⟩ rfl kc1 rfl kX1_sayNo iX1_sayNo eX1_sayNo lX1_122 rfl (Nat.le_of_ble_eq_true rfl) (by decide) (by decide) (by decide) (by decide) ?_
            rintro _ _ ⟨rfl, rfl⟩
            rcases (show I1 p 3 + 1 ≤ I1 17 1 ∨ (¬ I1 p 3 + 1 ≤ I1 17 1 ∧ I1 17 2 = 0) ∨ (¬ I1 p 3 + 1 ≤ I1 17 1 ∧ I1 17 2 = 1) ∨ (¬ I1 p 3 + 1 ≤ I1 17 1 ∧ ¬ I1 17 2 = 0 ∧ ¬ I1 17 2 = 1) by omega) with qs | qs | qs | qs
            · rw [show sn_r I1 17 p = 0 by unfold sn_r; rw [if_pos qs], show sn_I I1 44 17 p s = ab_u I1 p 3 (I1 p 3 + 1) by unfold sn_I; rw [if_pos qs]]
              refine aw_if_eq (tgt := 89) dX1_offer_82 rfl ⟨by decide, by decide⟩ (fun _ => ?_) (fun c9 => absurd (by decide) c9)
              refine aw_iconst dX1_offer_89 ?_
              refine aw_istore (ls' := [some (ab_r 44), some (ab_i (k : Int)), some (ab_r 17), some (ab_i 0), some (ab_i (o.1.length : Int)), some (ab_i (j : Int)), some (ab_r p), some (ab_i 0)]) dX1_offer_90 (by decide) rfl ?_
              refine aw_iload_n dX1_offer_92 rfl ?_
              refine aw_if_eq (tgt := 103) dX1_offer_93 rfl ⟨by decide, by decide⟩ (fun _ => ?_) (fun c9 => absurd (by decide) c9)
              refine aw_iload dX1_offer_103 rfl ?_
              refine aw_if_ne (tgt := 134) dX1_offer_105 rfl ⟨by decide, by decide⟩ (fun c9 => absurd rfl c9) (fun _ => ?_)
              refine aw_aload_n dX1_offer_108 rfl (by decide) ?_
              refine aw_getrv (r := 45) dX1_offer_109 fX1_11 ⟨Nat.le_of_ble_eq_true rfl, Nat.le_of_ble_eq_true rfl⟩ rfl rfl (hF1.at 44 1 45 rfl rfl rfl) ?_
              refine aw_iload dX1_offer_112 rfl ?_
              refine aw_aload_n dX1_offer_114 rfl (by decide) ?_
              refine aw_getrv (r := 45) dX1_offer_115 fX1_11 ⟨Nat.le_of_ble_eq_true rfl, Nat.le_of_ble_eq_true rfl⟩ rfl rfl (hF1.at 44 1 45 rfl rfl rfl) ?_
              refine aw_iload dX1_offer_118 rfl ?_
              refine aw_aaldv (r := F1 45 o.1.length) dX1_offer_120 ⟨Nat.le_of_ble_eq_true rfl, Nat.le_of_ble_eq_true rfl⟩ rfl (by decide) (by omega) (by omega) (by decide) rfl ?_
              refine aw_aastv (q := j) kc4 dX1_offer_121 ⟨Nat.le_of_ble_eq_true rfl, Nat.le_of_ble_eq_true rfl⟩ rfl (by omega) (by omega) (by decide) ⟨by omega, by omega⟩ (sh_p44 hpm) rfl ?_
              refine aw_aload_n dX1_offer_122 rfl (by decide) ?_
              refine aw_getrv (r := 45) dX1_offer_123 fX1_11 ⟨Nat.le_of_ble_eq_true rfl, Nat.le_of_ble_eq_true rfl⟩ rfl rfl (hF1.at 44 1 45 rfl rfl rfl) ?_
              refine aw_iload dX1_offer_126 rfl ?_
              refine aw_aload dX1_offer_128 rfl (by omega) ?_
              refine aw_aastv (q := o.1.length) kc4 dX1_offer_130 ⟨Nat.le_of_ble_eq_true rfl, Nat.le_of_ble_eq_true rfl⟩ rfl (by omega) (by omega) (by decide) ⟨by omega, by omega⟩ (sh_p44 hp2) rfl ?_
              refine aw_iinc (ls' := [some (ab_r 44), some (ab_i (k : Int)), some (ab_r 17), some (ab_i 0), some (ab_i ((o.1.length : Int) + 1)), some (ab_i (j : Int)), some (ab_r p), some (ab_i 0)]) dX1_offer_131 (by decide) rfl rfl ?_
              refine aw_iinc (ls' := [some (ab_r 44), some (ab_i (k : Int)), some (ab_r 17), some (ab_i 0), some (ab_i ((o.1.length : Int) + 1)), some (ab_i ((j : Int) + 1)), some (ab_r p), some (ab_i 0)]) dX1_offer_134 (by decide) rfl rfl ?_
              refine aw_goto (tgt := 16) dX1_offer_137 rfl ?_
              subst hpF
              have n2 : ¬ tk1 (ruX I 17) (tnX I) k (tup I1 (F1 45 j)) = 1 := by rw [q01]; decide
              have hr1 : (ruX I 17).2.1 = I1 17 1 := (he 17 1 (by omega)).symm
              have hr2 : (ruX I 17).2.2.1 = I1 17 2 := (he 17 2 (by omega)).symm
              have n1 : ¬ o.2.2.2 = true := by rw [htk]; decide
              have eTk : (if (of_step (ruX I 17) (tnX I) k o (tup I1 (F1 45 j))).2.2.2 = true then (1 : Int) else 0) = 0 := by first | (unfold of_step; rw [if_neg n1, if_neg n2, if_pos (show (tup I1 (F1 45 j)).2.2.2.1 + 1 ≤ (ruX I 17).2.1 by rw [hr1]; exact qs)]; simp; done) | (unfold of_step; rw [if_neg n1, if_neg n2, if_neg (show ¬ (tup I1 (F1 45 j)).2.2.2.1 + 1 ≤ (ruX I 17).2.1 by rw [hr1]; exact qs.1), if_neg (show ¬ (ruX I 17).2.2.1 = 0 by rw [hr2]; exact qs.2.1), if_neg (show ¬ (ruX I 17).2.2.1 = 1 by rw [hr2]; exact qs.2.2)]; simp; done)
              have eLn : (of_step (ruX I 17) (tnX I) k o (tup I1 (F1 45 j))).1.length = o.1.length + 1 := by first | (unfold of_step; rw [if_neg n1, if_neg n2, if_pos (show (tup I1 (F1 45 j)).2.2.2.1 + 1 ≤ (ruX I 17).2.1 by rw [hr1]; exact qs)]; simp; done) | (unfold of_step; rw [if_neg n1, if_neg n2, if_neg (show ¬ (tup I1 (F1 45 j)).2.2.2.1 + 1 ≤ (ruX I 17).2.1 by rw [hr1]; exact qs.1), if_neg (show ¬ (ruX I 17).2.2.1 = 0 by rw [hr2]; exact qs.2.1), if_neg (show ¬ (ruX I 17).2.2.1 = 1 by rw [hr2]; exact qs.2.2)]; simp; done)
              have hn := OI_d (ru := ruX I 17) (tn := tnX I) (k := k) hOI hjN htk hpb (by omega) (by omega) (by rw [q01]; decide) (by rw [hr1, hr2]; first | exact Or.inl qs | exact Or.inr qs.2)
              have ih9 := ih (j + 1) _ _ _ (by omega) hn (by unfold of_step; (repeat' split) <;> (try dsimp only) <;> omega) (by unfold of_step; (repeat' split) <;> (try dsimp only) <;> omega) hfo
              refine aw_le (ls' := [some (ab_r 44), some (ab_i (k : Int)), some (ab_r 17), some (ab_i 0), some (ab_i ((o.1.length : Int) + 1)), some (ab_i ((j : Int) + 1)), none, none]) (ab_le_c (ab_le_c (ab_le_c (ab_le_c (ab_le_c (ab_le_c (ab_le_n (ab_le_n ab_le_nil)))))))) ?_
              refine aw_ls ?_ ih9
              rw [eTk, eLn]
              rfl
            · rw [show sn_r I1 17 p = 1 by unfold sn_r; rw [if_neg qs.1, if_pos qs.2], show sn_I I1 44 17 p s = ab_u (ab_u I1 p 3 (I1 p 3 + 1)) 50 s (I1 50 s + 1) by unfold sn_I; rw [if_neg qs.1, if_pos qs.2]]
              refine aw_if_eq (tgt := 89) dX1_offer_82 rfl ⟨by decide, by decide⟩ (fun c9 => absurd c9 (by decide)) (fun _ => ?_)
              refine aw_iconst dX1_offer_85 ?_
              refine aw_goto (tgt := 90) dX1_offer_86 rfl ?_
              refine aw_istore (ls' := [some (ab_r 44), some (ab_i (k : Int)), some (ab_r 17), some (ab_i 0), some (ab_i (o.1.length : Int)), some (ab_i (j : Int)), some (ab_r p), some (ab_i 1)]) dX1_offer_90 (by decide) rfl ?_
              refine aw_iload_n dX1_offer_92 rfl ?_
              refine aw_if_eq (tgt := 103) dX1_offer_93 rfl ⟨by decide, by decide⟩ (fun _ => ?_) (fun c9 => absurd (by decide) c9)
              refine aw_iload dX1_offer_103 rfl ?_
              refine aw_if_ne (tgt := 134) dX1_offer_105 rfl ⟨by decide, by decide⟩ (fun _ => ?_) (fun c9 => absurd c9 (by decide))
              refine aw_iinc (ls' := [some (ab_r 44), some (ab_i (k : Int)), some (ab_r 17), some (ab_i 0), some (ab_i (o.1.length : Int)), some (ab_i ((j : Int) + 1)), some (ab_r p), some (ab_i 1)]) dX1_offer_134 (by decide) rfl rfl ?_
              refine aw_goto (tgt := 16) dX1_offer_137 rfl ?_
              subst hpF
              have n2 : ¬ tk1 (ruX I 17) (tnX I) k (tup I1 (F1 45 j)) = 1 := by rw [q01]; decide
              have hr1 : (ruX I 17).2.1 = I1 17 1 := (he 17 1 (by omega)).symm
              have hr2 : (ruX I 17).2.2.1 = I1 17 2 := (he 17 2 (by omega)).symm
              have n1 : ¬ o.2.2.2 = true := by rw [htk]; decide
              have eTk : (if (of_step (ruX I 17) (tnX I) k o (tup I1 (F1 45 j))).2.2.2 = true then (1 : Int) else 0) = 0 := by unfold of_step; rw [if_neg n1, if_neg n2, if_neg (show ¬ (tup I1 (F1 45 j)).2.2.2.1 + 1 ≤ (ruX I 17).2.1 by rw [hr1]; exact qs.1), if_pos (show (ruX I 17).2.2.1 = _ by rw [hr2]; exact qs.2)]; try simp
              have eLn : (of_step (ruX I 17) (tnX I) k o (tup I1 (F1 45 j))).1.length = o.1.length := by unfold of_step; rw [if_neg n1, if_neg n2, if_neg (show ¬ (tup I1 (F1 45 j)).2.2.2.1 + 1 ≤ (ruX I 17).2.1 by rw [hr1]; exact qs.1), if_pos (show (ruX I 17).2.2.1 = _ by rw [hr2]; exact qs.2)]; try simp
              have hn := OI_c (ru := ruX I 17) (tn := tnX I) (k := k) hOI hjN htk hpb (by omega) (by omega) hs hs4 (by rw [q01]; decide) (by rw [hr1]; exact qs.1) (by rw [hr2]; exact qs.2)
              have ih9 := ih (j + 1) _ _ _ (by omega) hn (by unfold of_step; (repeat' split) <;> (try dsimp only) <;> omega) (by unfold of_step; (repeat' split) <;> (try dsimp only) <;> omega) hfo
              refine aw_le (ls' := [some (ab_r 44), some (ab_i (k : Int)), some (ab_r 17), some (ab_i 0), some (ab_i (o.1.length : Int)), some (ab_i ((j : Int) + 1)), none, none]) (ab_le_c (ab_le_c (ab_le_c (ab_le_c (ab_le_c (ab_le_c (ab_le_n (ab_le_n ab_le_nil)))))))) ?_
              refine aw_ls ?_ ih9
              rw [eTk, eLn]
              rfl
            · rw [show sn_r I1 17 p = 0 by unfold sn_r; rw [if_neg qs.1, if_neg (by omega)], show sn_I I1 44 17 p s = pt (ab_u I1 44 4 (I1 44 4 + 1)) p (I1 p 0, I1 44 4, 0, 0, I1 p 4) by unfold sn_I; rw [if_neg qs.1, if_neg (by omega), if_pos qs.2]; exact back_I hp2]
              refine aw_if_eq (tgt := 89) dX1_offer_82 rfl ⟨by decide, by decide⟩ (fun _ => ?_) (fun c9 => absurd (by decide) c9)
              refine aw_iconst dX1_offer_89 ?_
              refine aw_istore (ls' := [some (ab_r 44), some (ab_i (k : Int)), some (ab_r 17), some (ab_i 0), some (ab_i (o.1.length : Int)), some (ab_i (j : Int)), some (ab_r p), some (ab_i 0)]) dX1_offer_90 (by decide) rfl ?_
              refine aw_iload_n dX1_offer_92 rfl ?_
              refine aw_if_eq (tgt := 103) dX1_offer_93 rfl ⟨by decide, by decide⟩ (fun _ => ?_) (fun c9 => absurd (by decide) c9)
              refine aw_iload dX1_offer_103 rfl ?_
              refine aw_if_ne (tgt := 134) dX1_offer_105 rfl ⟨by decide, by decide⟩ (fun c9 => absurd rfl c9) (fun _ => ?_)
              refine aw_aload_n dX1_offer_108 rfl (by decide) ?_
              refine aw_getrv (r := 45) dX1_offer_109 fX1_11 ⟨Nat.le_of_ble_eq_true rfl, Nat.le_of_ble_eq_true rfl⟩ rfl rfl (hF1.at 44 1 45 rfl rfl rfl) ?_
              refine aw_iload dX1_offer_112 rfl ?_
              refine aw_aload_n dX1_offer_114 rfl (by decide) ?_
              refine aw_getrv (r := 45) dX1_offer_115 fX1_11 ⟨Nat.le_of_ble_eq_true rfl, Nat.le_of_ble_eq_true rfl⟩ rfl rfl (hF1.at 44 1 45 rfl rfl rfl) ?_
              refine aw_iload dX1_offer_118 rfl ?_
              refine aw_aaldv (r := F1 45 o.1.length) dX1_offer_120 ⟨Nat.le_of_ble_eq_true rfl, Nat.le_of_ble_eq_true rfl⟩ rfl (by decide) (by omega) (by omega) (by decide) rfl ?_
              refine aw_aastv (q := j) kc4 dX1_offer_121 ⟨Nat.le_of_ble_eq_true rfl, Nat.le_of_ble_eq_true rfl⟩ rfl (by omega) (by omega) (by decide) ⟨by omega, by omega⟩ (sh_p44 hpm) rfl ?_
              refine aw_aload_n dX1_offer_122 rfl (by decide) ?_
              refine aw_getrv (r := 45) dX1_offer_123 fX1_11 ⟨Nat.le_of_ble_eq_true rfl, Nat.le_of_ble_eq_true rfl⟩ rfl rfl (hF1.at 44 1 45 rfl rfl rfl) ?_
              refine aw_iload dX1_offer_126 rfl ?_
              refine aw_aload dX1_offer_128 rfl (by omega) ?_
              refine aw_aastv (q := o.1.length) kc4 dX1_offer_130 ⟨Nat.le_of_ble_eq_true rfl, Nat.le_of_ble_eq_true rfl⟩ rfl (by omega) (by omega) (by decide) ⟨by omega, by omega⟩ (sh_p44 hp2) rfl ?_
              refine aw_iinc (ls' := [some (ab_r 44), some (ab_i (k : Int)), some (ab_r 17), some (ab_i 0), some (ab_i ((o.1.length : Int) + 1)), some (ab_i (j : Int)), some (ab_r p), some (ab_i 0)]) dX1_offer_131 (by decide) rfl rfl ?_
              refine aw_iinc (ls' := [some (ab_r 44), some (ab_i (k : Int)), some (ab_r 17), some (ab_i 0), some (ab_i ((o.1.length : Int) + 1)), some (ab_i ((j : Int) + 1)), some (ab_r p), some (ab_i 0)]) dX1_offer_134 (by decide) rfl rfl ?_
              refine aw_goto (tgt := 16) dX1_offer_137 rfl ?_
              subst hpF
              have n2 : ¬ tk1 (ruX I 17) (tnX I) k (tup I1 (F1 45 j)) = 1 := by rw [q01]; decide
              have hr1 : (ruX I 17).2.1 = I1 17 1 := (he 17 1 (by omega)).symm
              have hr2 : (ruX I 17).2.2.1 = I1 17 2 := (he 17 2 (by omega)).symm
              have n1 : ¬ o.2.2.2 = true := by rw [htk]; decide
              have eTk : (if (of_step (ruX I 17) (tnX I) k o (tup I1 (F1 45 j))).2.2.2 = true then (1 : Int) else 0) = 0 := by unfold of_step; rw [if_neg n1, if_neg n2, if_neg (show ¬ (tup I1 (F1 45 j)).2.2.2.1 + 1 ≤ (ruX I 17).2.1 by rw [hr1]; exact qs.1), if_neg (show ¬ (ruX I 17).2.2.1 = 0 by rw [hr2]; omega), if_pos (show (ruX I 17).2.2.1 = _ by rw [hr2]; exact qs.2)]; try simp
              have eLn : (of_step (ruX I 17) (tnX I) k o (tup I1 (F1 45 j))).1.length = o.1.length + 1 := by unfold of_step; rw [if_neg n1, if_neg n2, if_neg (show ¬ (tup I1 (F1 45 j)).2.2.2.1 + 1 ≤ (ruX I 17).2.1 by rw [hr1]; exact qs.1), if_neg (show ¬ (ruX I 17).2.2.1 = 0 by rw [hr2]; omega), if_pos (show (ruX I 17).2.2.1 = _ by rw [hr2]; exact qs.2)]; try simp
              have hn := OI_e (ru := ruX I 17) (tn := tnX I) (k := k) hOI hjN htk hpb (by omega) (by omega) (by rw [q01]; decide) (by rw [hr1]; exact qs.1) (by rw [hr2]; exact qs.2) (by omega)
              have ih9 := ih (j + 1) _ _ _ (by omega) hn (by unfold of_step; (repeat' split) <;> (try dsimp only) <;> omega) (by unfold of_step; (repeat' split) <;> (try dsimp only) <;> omega) hfo
              refine aw_le (ls' := [some (ab_r 44), some (ab_i (k : Int)), some (ab_r 17), some (ab_i 0), some (ab_i ((o.1.length : Int) + 1)), some (ab_i ((j : Int) + 1)), none, none]) (ab_le_c (ab_le_c (ab_le_c (ab_le_c (ab_le_c (ab_le_c (ab_le_n (ab_le_n ab_le_nil)))))))) ?_
              refine aw_ls ?_ ih9
              rw [eTk, eLn]
              rfl
            · rw [show sn_r I1 17 p = 0 by unfold sn_r; rw [if_neg qs.1, if_neg qs.2.1], show sn_I I1 44 17 p s = ab_u I1 p 3 (I1 p 3 + 1) by unfold sn_I; rw [if_neg qs.1, if_neg qs.2.1, if_neg qs.2.2]]
              refine aw_if_eq (tgt := 89) dX1_offer_82 rfl ⟨by decide, by decide⟩ (fun _ => ?_) (fun c9 => absurd (by decide) c9)
              refine aw_iconst dX1_offer_89 ?_
              refine aw_istore (ls' := [some (ab_r 44), some (ab_i (k : Int)), some (ab_r 17), some (ab_i 0), some (ab_i (o.1.length : Int)), some (ab_i (j : Int)), some (ab_r p), some (ab_i 0)]) dX1_offer_90 (by decide) rfl ?_
              refine aw_iload_n dX1_offer_92 rfl ?_
              refine aw_if_eq (tgt := 103) dX1_offer_93 rfl ⟨by decide, by decide⟩ (fun _ => ?_) (fun c9 => absurd (by decide) c9)
              refine aw_iload dX1_offer_103 rfl ?_
              refine aw_if_ne (tgt := 134) dX1_offer_105 rfl ⟨by decide, by decide⟩ (fun c9 => absurd rfl c9) (fun _ => ?_)
              refine aw_aload_n dX1_offer_108 rfl (by decide) ?_
              refine aw_getrv (r := 45) dX1_offer_109 fX1_11 ⟨Nat.le_of_ble_eq_true rfl, Nat.le_of_ble_eq_true rfl⟩ rfl rfl (hF1.at 44 1 45 rfl rfl rfl) ?_
              refine aw_iload dX1_offer_112 rfl ?_
              refine aw_aload_n dX1_offer_114 rfl (by decide) ?_
              refine aw_getrv (r := 45) dX1_offer_115 fX1_11 ⟨Nat.le_of_ble_eq_true rfl, Nat.le_of_ble_eq_true rfl⟩ rfl rfl (hF1.at 44 1 45 rfl rfl rfl) ?_
              refine aw_iload dX1_offer_118 rfl ?_
              refine aw_aaldv (r := F1 45 o.1.length) dX1_offer_120 ⟨Nat.le_of_ble_eq_true rfl, Nat.le_of_ble_eq_true rfl⟩ rfl (by decide) (by omega) (by omega) (by decide) rfl ?_
              refine aw_aastv (q := j) kc4 dX1_offer_121 ⟨Nat.le_of_ble_eq_true rfl, Nat.le_of_ble_eq_true rfl⟩ rfl (by omega) (by omega) (by decide) ⟨by omega, by omega⟩ (sh_p44 hpm) rfl ?_
              refine aw_aload_n dX1_offer_122 rfl (by decide) ?_
              refine aw_getrv (r := 45) dX1_offer_123 fX1_11 ⟨Nat.le_of_ble_eq_true rfl, Nat.le_of_ble_eq_true rfl⟩ rfl rfl (hF1.at 44 1 45 rfl rfl rfl) ?_
              refine aw_iload dX1_offer_126 rfl ?_
              refine aw_aload dX1_offer_128 rfl (by omega) ?_
              refine aw_aastv (q := o.1.length) kc4 dX1_offer_130 ⟨Nat.le_of_ble_eq_true rfl, Nat.le_of_ble_eq_true rfl⟩ rfl (by omega) (by omega) (by decide) ⟨by omega, by omega⟩ (sh_p44 hp2) rfl ?_
              refine aw_iinc (ls' := [some (ab_r 44), some (ab_i (k : Int)), some (ab_r 17), some (ab_i 0), some (ab_i ((o.1.length : Int) + 1)), some (ab_i (j : Int)), some (ab_r p), some (ab_i 0)]) dX1_offer_131 (by decide) rfl rfl ?_
              refine aw_iinc (ls' := [some (ab_r 44), some (ab_i (k : Int)), some (ab_r 17), some (ab_i 0), some (ab_i ((o.1.length : Int) + 1)), some (ab_i ((j : Int) + 1)), some (ab_r p), some (ab_i 0)]) dX1_offer_134 (by decide) rfl rfl ?_
              refine aw_goto (tgt := 16) dX1_offer_137 rfl ?_
              subst hpF
              have n2 : ¬ tk1 (ruX I 17) (tnX I) k (tup I1 (F1 45 j)) = 1 := by rw [q01]; decide
              have hr1 : (ruX I 17).2.1 = I1 17 1 := (he 17 1 (by omega)).symm
              have hr2 : (ruX I 17).2.2.1 = I1 17 2 := (he 17 2 (by omega)).symm
              have n1 : ¬ o.2.2.2 = true := by rw [htk]; decide
              have eTk : (if (of_step (ruX I 17) (tnX I) k o (tup I1 (F1 45 j))).2.2.2 = true then (1 : Int) else 0) = 0 := by first | (unfold of_step; rw [if_neg n1, if_neg n2, if_pos (show (tup I1 (F1 45 j)).2.2.2.1 + 1 ≤ (ruX I 17).2.1 by rw [hr1]; exact qs)]; simp; done) | (unfold of_step; rw [if_neg n1, if_neg n2, if_neg (show ¬ (tup I1 (F1 45 j)).2.2.2.1 + 1 ≤ (ruX I 17).2.1 by rw [hr1]; exact qs.1), if_neg (show ¬ (ruX I 17).2.2.1 = 0 by rw [hr2]; exact qs.2.1), if_neg (show ¬ (ruX I 17).2.2.1 = 1 by rw [hr2]; exact qs.2.2)]; simp; done)
              have eLn : (of_step (ruX I 17) (tnX I) k o (tup I1 (F1 45 j))).1.length = o.1.length + 1 := by first | (unfold of_step; rw [if_neg n1, if_neg n2, if_pos (show (tup I1 (F1 45 j)).2.2.2.1 + 1 ≤ (ruX I 17).2.1 by rw [hr1]; exact qs)]; simp; done) | (unfold of_step; rw [if_neg n1, if_neg n2, if_neg (show ¬ (tup I1 (F1 45 j)).2.2.2.1 + 1 ≤ (ruX I 17).2.1 by rw [hr1]; exact qs.1), if_neg (show ¬ (ruX I 17).2.2.1 = 0 by rw [hr2]; exact qs.2.1), if_neg (show ¬ (ruX I 17).2.2.1 = 1 by rw [hr2]; exact qs.2.2)]; simp; done)
              have hn := OI_d (ru := ruX I 17) (tn := tnX I) (k := k) hOI hjN htk hpb (by omega) (by omega) (by rw [q01]; decide) (by rw [hr1, hr2]; first | exact Or.inl qs | exact Or.inr qs.2)
              have ih9 := ih (j + 1) _ _ _ (by omega) hn (by unfold of_step; (repeat' split) <;> (try dsimp only) <;> omega) (by unfold of_step; (repeat' split) <;> (try dsimp only) <;> omega) hfo
              refine aw_le (ls' := [some (ab_r 44), some (ab_i (k : Int)), some (ab_r 17), some (ab_i 0), some (ab_i ((o.1.length : Int) + 1)), some (ab_i ((j : Int) + 1)), none, none]) (ab_le_c (ab_le_c (ab_le_c (ab_le_c (ab_le_c (ab_le_c (ab_le_n (ab_le_n ab_le_nil)))))))) ?_
              refine aw_ls ?_ ih9
              rw [eTk, eLn]
              rfl
          · rw [q01]
            refine aw_istore_n (ls' := [some (ab_r 44), some (ab_i (k : Int)), some (ab_r 17), some (ab_i 1), some (ab_i (o.1.length : Int)), some (ab_i (j : Int)), some (ab_r p), some (ab_i 0)]) dX1_offer_70 (by decide) rfl ?_
            refine aw_iload_n dX1_offer_71 rfl ?_
            refine aw_if_ne (tgt := 85) dX1_offer_72 rfl ⟨by decide, by decide⟩ (fun _ => ?_) (fun c9 => absurd c9 (by decide))
            refine aw_iconst dX1_offer_85 ?_
            refine aw_goto (tgt := 90) dX1_offer_86 rfl ?_
            refine aw_istore (ls' := [some (ab_r 44), some (ab_i (k : Int)), some (ab_r 17), some (ab_i 1), some (ab_i (o.1.length : Int)), some (ab_i (j : Int)), some (ab_r p), some (ab_i 1)]) dX1_offer_90 (by decide) rfl ?_
            refine aw_iload_n dX1_offer_92 rfl ?_
            refine aw_if_eq (tgt := 103) dX1_offer_93 rfl ⟨by decide, by decide⟩ (fun c9 => absurd c9 (by decide)) (fun _ => ?_)
            refine aw_aload_n dX1_offer_96 rfl (by decide) ?_
            refine aw_aload dX1_offer_97 rfl (by omega) ?_
            refine aw_iload_n dX1_offer_99 rfl ?_
            refine aw_callV (as := [ab_r p, ab_i (k : Int)]) (rest := []) dX1_offer_100 (ct_X1_house_44 G I1 F1 hF1 p hp2 s k hs hs4 hk) ⟨Nat.le_of_ble_eq_true rfl, Nat.le_of_ble_eq_true rfl⟩ rfl kc1 rfl kX1_house iX1_house eX1_house lX1_126 rfl (Nat.le_of_ble_eq_true rfl) (by decide) (by decide) (by decide) (by decide) ?_
            rintro _ _ ⟨rfl, rfl⟩
            refine aw_iload dX1_offer_103 rfl ?_
            refine aw_if_ne (tgt := 134) dX1_offer_105 rfl ⟨by decide, by decide⟩ (fun _ => ?_) (fun c9 => absurd c9 (by decide))
            refine aw_iinc (ls' := [some (ab_r 44), some (ab_i (k : Int)), some (ab_r 17), some (ab_i 1), some (ab_i (o.1.length : Int)), some (ab_i ((j : Int) + 1)), some (ab_r p), some (ab_i 1)]) dX1_offer_134 (by decide) rfl rfl ?_
            refine aw_goto (tgt := 16) dX1_offer_137 rfl ?_
            subst hpF
            have n1 : ¬ o.2.2.2 = true := by rw [htk]; decide
            have eTk : (if (of_step (ruX I 17) (tnX I) k o (tup I1 (F1 45 j))).2.2.2 = true then (1 : Int) else 0) = 1 := by unfold of_step; rw [if_neg n1, if_pos q01]; try simp
            have eLn : (of_step (ruX I 17) (tnX I) k o (tup I1 (F1 45 j))).1.length = o.1.length := by unfold of_step; rw [if_neg n1, if_pos q01]; try simp
            have hn := OI_b (ru := ruX I 17) (tn := tnX I) (k := k) hOI hjN hpb htk hs hs4 q01 (wv := I1 (4 + s) k) ((tnX_w hs4 hk).trans (he2 _ _ (by omega)).symm)
            have ih9 := ih (j + 1) _ _ _ (by omega) hn (by unfold of_step; (repeat' split) <;> (try dsimp only) <;> omega) (by unfold of_step; (repeat' split) <;> (try dsimp only) <;> omega) hfo
            refine aw_le (ls' := [some (ab_r 44), some (ab_i (k : Int)), some (ab_r 17), some (ab_i 1), some (ab_i (o.1.length : Int)), some (ab_i ((j : Int) + 1)), none, none]) (ab_le_c (ab_le_c (ab_le_c (ab_le_c (ab_le_c (ab_le_c (ab_le_n (ab_le_n ab_le_nil)))))))) ?_
            refine aw_ls ?_ ih9
            rw [eTk, eLn]
            rfl
  refine aw_aload_n dX1_offer_0 rfl (by decide) ?_
  refine aw_aload_n dX1_offer_1 rfl (by decide) ?_
  refine aw_geti dX1_offer_2 fX1_106 ⟨Nat.le_of_ble_eq_true rfl, Nat.le_of_ble_eq_true rfl⟩ rfl rfl ?_
  refine aw_callV (as := [ab_i (I 17 0)]) (rest := []) dX1_offer_5 hst ⟨Nat.le_of_ble_eq_true rfl, Nat.le_of_ble_eq_true rfl⟩ rfl kc1 rfl kX1_stand iX1_stand eX1_stand lX1_109 rfl (Nat.le_of_ble_eq_true rfl) (by decide) (by decide) (by decide) (by decide) ?_
  rintro _ _ ⟨rfl, rfl⟩
  refine aw_iconst dX1_offer_8 ?_
  refine aw_istore_n (ls' := [some (ab_r 44), some (ab_i (k : Int)), some (ab_r 17), some (ab_i 0), none, none, none, none]) dX1_offer_9 (by decide) rfl ?_
  refine aw_iconst dX1_offer_10 ?_
  refine aw_istore (ls' := [some (ab_r 44), some (ab_i (k : Int)), some (ab_r 17), some (ab_i 0), some (ab_i 0), none, none, none]) dX1_offer_11 (by decide) rfl ?_
  refine aw_iconst dX1_offer_13 ?_
  refine aw_istore (ls' := [some (ab_r 44), some (ab_i (k : Int)), some (ab_r 17), some (ab_i 0), some (ab_i 0), some (ab_i 0), none, none]) dX1_offer_14 (by decide) rfl ?_
  have h9 := loop N 0 ([], fun _ _ => 0, I 44 4, false) I Fs (by omega) ?_ (by simp) (by simp) (by rw [List.drop_zero]; exact hO)
  · exact h9
  · refine ⟨⟨Nat.zero_le _, hN12⟩, ⟨hN, rfl, rfl, rfl⟩, fun w s _ _ => by simp, fun _ _ _ => rfl, fun _ _ _ => rfl, fun i hi => by rw [hFL]; exact hP2 i hi, fun a b ha hb2 e => hJ a b ha hb2 (by rw [← hFL, ← hFL]; exact e), fun i hi => by simp at hi, fun _ _ _ => rfl, fun _ _ _ => rfl, fun t ht => by simp at ht, hba⟩
