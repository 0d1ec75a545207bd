theorem pt_all (I : Nat → Nat → Int) (p : Nat) (a b c d e : Int) : ab_u (ab_u (ab_u (ab_u (ab_u I p 0 a) p 1 b) p 2 c) p 3 d) p 4 e = pt I p (a, b, c, d, e) := by
  funext x y
  by_cases hx : x = p
  · subst hx
    by_cases h0 : y = 0
    · subst h0; simp [ab_u, pt]
    by_cases h1 : y = 1
    · subst h1; simp [ab_u, pt]
    by_cases h2 : y = 2
    · subst h2; simp [ab_u, pt]
    by_cases h3 : y = 3
    · subst h3; simp [ab_u, pt]
    by_cases h4 : y = 4
    · subst h4; simp [ab_u, pt]
    simp [ab_u, pt, h0, h1, h2, h3, h4]
  · simp [ab_u, pt, hx]
-- rules: order, noes, then, grow, ways, bars, falls; the town: needs, worths
abbrev Ru : Type := Int × Int × Int × Int × (Nat → Int) × (Nat → Int) × (Nat → Int)
abbrev Tn : Type := (Nat → Int) × (Nat → Nat → Int)
def ruX (I : Nat → Nat → Int) (r : Nat) : Ru := (I r 0, I r 1, I r 2, I r 3, n4 (I (r + 1)), n4 (I (r + 2)), n4 (I (r + 3)))
def tnX (I : Nat → Nat → Int) : Tn := (n4 (I 8), fun s k => if s < 4 ∧ k < 4 then I (4 + s) k else 0)
theorem tnX_w {I : Nat → Nat → Int} {s k : Nat} (hs : s < 4) (hk : k < 4) : (tnX I).2 s k = I (4 + s) k := if_pos ⟨hs, hk⟩
def tk1 (ru : Ru) (tn : Tn) (k : Nat) (t : P5) : Int := rl_takes (ru.2.2.2.2.1 t.1.toNat) (ru.2.2.2.2.2.1 t.1.toNat) (ru.2.2.2.2.2.2 t.1.toNat) (tn.2 t.1.toNat k) t.2.2.2.2
-- who stays, what is added to the tallies, the next number, is it taken
abbrev OS : Type := List P5 × (Nat → Nat → Int) × Int × Bool
def ta (T : Nat → Nat → Int) (w s : Nat) (v : Int) : Nat → Nat → Int := fun a b => if a = w ∧ b = s then T a b + v else T a b
def of_step (ru : Ru) (tn : Tn) (k : Nat) (o : OS) (t : P5) : OS :=
  if o.2.2.2 = true then (o.1 ++ [t], o.2.1, o.2.2.1, true)
  else if tk1 ru tn k t = 1 then (o.1, ta (ta (ta o.2.1 0 t.1.toNat 1) 1 t.1.toNat t.2.2.2.2) 2 t.1.toNat (tn.2 t.1.toNat k), o.2.2.1, true)
  else if t.2.2.2.1 + 1 ≤ ru.2.1 then (o.1 ++ [(t.1, t.2.1, t.2.2.1, t.2.2.2.1 + 1, t.2.2.2.2)], o.2.1, o.2.2.1, false)
  else if ru.2.2.1 = 0 then (o.1, ta o.2.1 3 t.1.toNat 1, o.2.2.1, false)
  else if ru.2.2.1 = 1 then (o.1 ++ [(t.1, o.2.2.1, 0, 0, t.2.2.2.2)], o.2.1, o.2.2.1 + 1, false)
  else (o.1 ++ [(t.1, t.2.1, t.2.2.1, t.2.2.2.1 + 1, t.2.2.2.2)], o.2.1, o.2.2.1, false)
/-- sayNo: its answer, its heap -/
def sn_r (I : Nat → Nat → Int) (r p : Nat) : Int := if I p 3 + 1 ≤ I r 1 then 0 else if I r 2 = 0 then 1 else 0
def sn_I (I : Nat → Nat → Int) (c r p s : Nat) : Nat → Nat → Int :=
  if I p 3 + 1 ≤ I r 1 then ab_u I p 3 (I p 3 + 1)
  else if I r 2 = 0 then ab_u (ab_u I p 3 (I p 3 + 1)) (c + 6) s (I (c + 6) s + 1)
  else if I r 2 = 1 then ab_u (ab_u (ab_u (ab_u (ab_u I p 3 (I p 3 + 1)) p 1 (I c 4)) c 4 (I c 4 + 1)) p 2 0) p 3 0
  else ab_u I p 3 (I p 3 + 1)
set_option maxHeartbeats 4000000 in
set_option maxRecDepth 100000 in
theorem ct_X4_begin_23 (G : ab_G) (I : Nat → Nat → Int) (F : Nat → Nat → Nat)(p : Nat) (hp : 32 ≤ p ∧ p ≤ 43) (a b : Int) : Ct G 0 0 0 YX4_begin [ab_r p, ab_i a, ab_i b] (104, I, F) (fun r h => r = none ∧ h = (104, pt I p (a, b, 0, 0, 0), F)) := by
  refine Ct.ofW kX4_begin (ls := [some (ab_r p), some (ab_i a), some (ab_i b)]) (Nat.le_of_ble_eq_true rfl) rfl ?_
  refine aw_aload_n dX4_begin_0 rfl (by omega) ?_
  refine aw_iload_n dX4_begin_1 rfl ?_
  refine aw_puti dX4_begin_2 fX4_7 ⟨by omega, by omega⟩ (sh_p23 hp) rfl ?_
  refine aw_aload_n dX4_begin_5 rfl (by omega) ?_
  refine aw_iload_n dX4_begin_6 rfl ?_
  refine aw_puti dX4_begin_7 fX4_13 ⟨by omega, by omega⟩ (sh_p23 hp) rfl ?_
  refine aw_aload_n dX4_begin_10 rfl (by omega) ?_
  refine aw_iconst dX4_begin_11 ?_
  refine aw_puti dX4_begin_12 fX4_16 ⟨by omega, by omega⟩ (sh_p23 hp) rfl ?_
  refine aw_aload_n dX4_begin_15 rfl (by omega) ?_
  refine aw_iconst dX4_begin_16 ?_
  refine aw_puti dX4_begin_17 fX4_19 ⟨by omega, by omega⟩ (sh_p23 hp) rfl ?_
  refine aw_aload_n dX4_begin_20 rfl (by omega) ?_
  refine aw_iconst dX4_begin_21 ?_
  refine aw_puti dX4_begin_22 fX4_22 ⟨by omega, by omega⟩ (sh_p23 hp) rfl ?_
  refine aw_return dX4_begin_25 rfl ?_
  exact ⟨rfl, by rw [pt_all]⟩
set_option maxHeartbeats 4000000 in
set_option maxRecDepth 100000 in
theorem ct_X1_isFull_23 (G : ab_G) (I : Nat → Nat → Int) (F : Nat → Nat → Nat) (hs : ab_In (I 23 2)) : Ct G 0 0 0 YX1_isFull [ab_r 23] (104, I, F) (fun r h => r = some (ab_i (if 12 ≤ I 23 2 then 1 else 0)) ∧ h = (104, I, F)) := by
  refine Ct.ofW kX1_isFull (ls := [some (ab_r 23)]) (Nat.le_of_ble_eq_true rfl) rfl ?_
  refine aw_aload_n dX1_isFull_0 rfl (by decide) ?_
  refine aw_geti dX1_isFull_1 fX1_17 ⟨Nat.le_of_ble_eq_true rfl, Nat.le_of_ble_eq_true rfl⟩ rfl rfl ?_
  refine aw_bipush dX1_isFull_4 rfl ?_
  refine aw_icmp_lt (tgt := 13) dX1_isFull_6 rfl (by first | assumption | (unfold ab_In at *; omega)) (by first | assumption | (unfold ab_In at *; omega)) (fun c_6 => ?_) (fun c_6 => ?_)
  · refine aw_iconst dX1_isFull_13 ?_
    refine aw_breturn dX1_isFull_14 rfl (by omega) ?_
    exact ⟨by first | rw [if_pos (by omega)] | rw [if_neg (by omega)], rfl⟩
  · refine aw_iconst dX1_isFull_9 ?_
    refine aw_goto (tgt := 14) dX1_isFull_10 rfl ?_
    refine aw_breturn dX1_isFull_14 rfl (by omega) ?_
    exact ⟨by first | rw [if_pos (by omega)] | rw [if_neg (by omega)], rfl⟩
set_option maxHeartbeats 4000000 in
set_option maxRecDepth 100000 in
theorem ct_X1_add_23 (G : ab_G) (I : Nat → Nat → Int) (F : Nat → Nat → Nat) (hF : ab_FB F) (v : Int) (N p : Nat) (hN : I 23 2 = N) (hN12 : N < 12) (hpF : F 24 N = p) (hp : 32 ≤ p ∧ p ≤ 43) : Ct G 1 0 0 YX1_add [ab_r 23, ab_i v] (104, I, F) (fun r h => r = none ∧ h = (104, ab_u (ab_u (pt I p (v, I 23 4, 0, 0, 0)) 23 4 (I 23 4 + 1)) 23 2 ((N : Int) + 1), F)) := by
  refine Ct.ofW kX1_add (ls := [some (ab_r 23), some (ab_i v)]) (Nat.le_of_ble_eq_true rfl) rfl ?_
  refine aw_aload_n dX1_add_0 rfl (by decide) ?_
  refine aw_callV (as := []) (rest := []) dX1_add_1 (ct_X1_isFull_23 G I F (by unfold ab_In; omega)) ⟨Nat.le_of_ble_eq_true rfl, Nat.le_of_ble_eq_true rfl⟩ rfl kc1 rfl kX1_isFull iX1_isFull eX1_isFull lX1_50 rfl (Nat.le_of_ble_eq_true rfl) (by decide) (by decide) (by decide) (by decide) ?_
  rintro _ _ ⟨rfl, rfl⟩
  refine aw_if_eq (tgt := 8) dX1_add_4 rfl (by split <;> (unfold ab_In; omega)) (fun c_4 => ?_) (fun c_4 => ?_)
  · refine aw_aload_n dX1_add_8 rfl (by decide) ?_
    refine aw_getrv (r := 24) dX1_add_9 fX1_11 ⟨Nat.le_of_ble_eq_true rfl, Nat.le_of_ble_eq_true rfl⟩ rfl rfl (hF.at 23 1 24 rfl rfl rfl) ?_
    refine aw_aload_n dX1_add_12 rfl (by decide) ?_
    refine aw_getiv (v := (N : Int)) dX1_add_13 fX1_17 ⟨Nat.le_of_ble_eq_true rfl, Nat.le_of_ble_eq_true rfl⟩ rfl rfl hN ?_
    refine aw_aaldv (r := p) dX1_add_16 ⟨Nat.le_of_ble_eq_true rfl, Nat.le_of_ble_eq_true rfl⟩ rfl (by decide) (by omega) (by omega) (by decide) hpF ?_
    refine aw_iload_n dX1_add_17 rfl ?_
    refine aw_aload_n dX1_add_18 rfl (by decide) ?_
    refine aw_geti dX1_add_19 fX1_24 ⟨Nat.le_of_ble_eq_true rfl, Nat.le_of_ble_eq_true rfl⟩ rfl rfl ?_
    refine aw_callV (as := [ab_i v, ab_i (I 23 4)]) (rest := []) dX1_add_22 (ct_X4_begin_23 G I F p hp v (I 23 4)) ⟨by omega, by omega⟩ (sh_p23 hp) kc4 rfl kX4_begin iX4_begin eX4_begin lX1_54 rfl (Nat.le_of_ble_eq_true rfl) (by decide) (by decide) (by decide) (by decide) ?_
    rintro _ _ ⟨rfl, rfl⟩
    refine aw_aload_n dX1_add_25 rfl (by decide) ?_
    refine aw_dup dX1_add_26 rfl ?_
    refine aw_getiv (v := I 23 4) dX1_add_27 fX1_24 ⟨Nat.le_of_ble_eq_true rfl, Nat.le_of_ble_eq_true rfl⟩ rfl rfl (pt_ne (by omega)) ?_
    refine aw_iconst dX1_add_30 ?_
    refine aw_iadd dX1_add_31 ?_
    refine aw_puti dX1_add_32 fX1_24 ⟨Nat.le_of_ble_eq_true rfl, Nat.le_of_ble_eq_true rfl⟩ rfl rfl ?_
    refine aw_aload_n dX1_add_35 rfl (by decide) ?_
    refine aw_dup dX1_add_36 rfl ?_
    refine aw_getiv (v := (N : Int)) dX1_add_37 fX1_17 ⟨Nat.le_of_ble_eq_true rfl, Nat.le_of_ble_eq_true rfl⟩ rfl rfl ((ab_u_j (by decide)).trans ((pt_ne (by omega)).trans hN)) ?_
    refine aw_iconst dX1_add_40 ?_
    refine aw_iadd dX1_add_41 ?_
    refine aw_puti dX1_add_42 fX1_17 ⟨Nat.le_of_ble_eq_true rfl, Nat.le_of_ble_eq_true rfl⟩ rfl rfl ?_
    refine aw_return dX1_add_45 rfl ?_
    exact ⟨rfl, rfl⟩
  · rw [if_neg (by omega)] at c_4; exact absurd rfl c_4
set_option maxHeartbeats 4000000 in
set_option maxRecDepth 100000 in
theorem ct_X1_total_23 (G : ab_G) (I : Nat → Nat → Int) (F : Nat → Nat → Nat) (hF : ab_FB F) (w : Nat) (hw : w < 6) : Ct G 0 0 0 YX1_total [ab_r 23, ab_i (w : Int)] (104, I, F) (fun r h => r = some (ab_i (0 + I (26 + w) 0 + I (26 + w) 1 + I (26 + w) 2 + I (26 + w) 3)) ∧ h = (104, I, F)) := by
  refine Ct.ofW kX1_total (ls := [some (ab_r 23), some (ab_i (w : Int)), none, none]) (Nat.le_of_ble_eq_true rfl) rfl ?_
  refine aw_iconst dX1_total_0 ?_
  refine aw_istore_n (ls' := [some (ab_r 23), some (ab_i (w : Int)), some (ab_i 0), none]) dX1_total_1 (by decide) rfl ?_
  refine aw_iconst dX1_total_2 ?_
  refine aw_istore_n (ls' := [some (ab_r 23), some (ab_i (w : Int)), some (ab_i 0), some (ab_i 0)]) dX1_total_3 (by decide) rfl ?_
  refine aw_iload_n dX1_total_4 rfl ?_
  refine aw_iconst dX1_total_5 ?_
  refine aw_icmp_ge (tgt := 26) dX1_total_6 rfl ⟨by decide, by decide⟩ ⟨by decide, by decide⟩ (fun c9 => absurd c9 (by decide)) (fun _ => ?_)
  refine aw_iload_n dX1_total_9 rfl ?_
  refine aw_aload_n dX1_total_10 rfl (by decide) ?_
  refine aw_getrv (r := 25) dX1_total_11 fX1_32 ⟨Nat.le_of_ble_eq_true rfl, Nat.le_of_ble_eq_true rfl⟩ rfl rfl (hF.at 23 6 25 rfl rfl rfl) ?_
  refine aw_iload_n dX1_total_14 rfl ?_
  refine aw_aaldv (r := 26 + w) dX1_total_15 ⟨Nat.le_of_ble_eq_true rfl, Nat.le_of_ble_eq_true rfl⟩ rfl (by decide) (by omega) (by omega) (by decide) (hF.t23 hw) ?_
  refine aw_iload_n dX1_total_16 rfl ?_
  refine aw_ialdq (q := 0) (v := I (26 + w) 0) dX1_total_17 ⟨by omega, by omega⟩ (sh_t23 hw) (by omega) (by omega) (by decide) rfl rfl ?_
  refine aw_iadd dX1_total_18 ?_
  refine aw_istore_n (ls' := [some (ab_r 23), some (ab_i (w : Int)), some (ab_i (0 + (I (26 + w) 0))), some (ab_i 0)]) dX1_total_19 (by decide) rfl ?_
  refine aw_iinc (ls' := [some (ab_r 23), some (ab_i (w : Int)), some (ab_i (0 + (I (26 + w) 0))), some (ab_i 1)]) dX1_total_20 (by decide) rfl rfl ?_
  refine aw_goto (tgt := 4) dX1_total_23 rfl ?_
  refine aw_iload_n dX1_total_4 rfl ?_
  refine aw_iconst dX1_total_5 ?_
  refine aw_icmp_ge (tgt := 26) dX1_total_6 rfl ⟨by decide, by decide⟩ ⟨by decide, by decide⟩ (fun c9 => absurd c9 (by decide)) (fun _ => ?_)
  refine aw_iload_n dX1_total_9 rfl ?_
  refine aw_aload_n dX1_total_10 rfl (by decide) ?_
  refine aw_getrv (r := 25) dX1_total_11 fX1_32 ⟨Nat.le_of_ble_eq_true rfl, Nat.le_of_ble_eq_true rfl⟩ rfl rfl (hF.at 23 6 25 rfl rfl rfl) ?_
  refine aw_iload_n dX1_total_14 rfl ?_
  refine aw_aaldv (r := 26 + w) dX1_total_15 ⟨Nat.le_of_ble_eq_true rfl, Nat.le_of_ble_eq_true rfl⟩ rfl (by decide) (by omega) (by omega) (by decide) (hF.t23 hw) ?_
  refine aw_iload_n dX1_total_16 rfl ?_
  refine aw_ialdq (q := 1) (v := I (26 + w) 1) dX1_total_17 ⟨by omega, by omega⟩ (sh_t23 hw) (by omega) (by omega) (by decide) rfl rfl ?_
  refine aw_iadd dX1_total_18 ?_
  refine aw_istore_n (ls' := [some (ab_r 23), some (ab_i (w : Int)), some (ab_i ((0 + (I (26 + w) 0)) + (I (26 + w) 1))), some (ab_i 1)]) dX1_total_19 (by decide) rfl ?_
  refine aw_iinc (ls' := [some (ab_r 23), some (ab_i (w : Int)), some (ab_i ((0 + (I (26 + w) 0)) + (I (26 + w) 1))), some (ab_i 2)]) dX1_total_20 (by decide) rfl rfl ?_
  refine aw_goto (tgt := 4) dX1_total_23 rfl ?_
  refine aw_iload_n dX1_total_4 rfl ?_
  refine aw_iconst dX1_total_5 ?_
  refine aw_icmp_ge (tgt := 26) dX1_total_6 rfl ⟨by decide, by decide⟩ ⟨by decide, by decide⟩ (fun c9 => absurd c9 (by decide)) (fun _ => ?_)
  refine aw_iload_n dX1_total_9 rfl ?_
  refine aw_aload_n dX1_total_10 rfl (by decide) ?_
  refine aw_getrv (r := 25) dX1_total_11 fX1_32 ⟨Nat.le_of_ble_eq_true rfl, Nat.le_of_ble_eq_true rfl⟩ rfl rfl (hF.at 23 6 25 rfl rfl rfl) ?_
  refine aw_iload_n dX1_total_14 rfl ?_
  refine aw_aaldv (r := 26 + w) dX1_total_15 ⟨Nat.le_of_ble_eq_true rfl, Nat.le_of_ble_eq_true rfl⟩ rfl (by decide) (by omega) (by omega) (by decide) (hF.t23 hw) ?_
  refine aw_iload_n dX1_total_16 rfl ?_
  refine aw_ialdq (q := 2) (v := I (26 + w) 2) dX1_total_17 ⟨by omega, by omega⟩ (sh_t23 hw) (by omega) (by omega) (by decide) rfl rfl ?_
  refine aw_iadd dX1_total_18 ?_
  refine aw_istore_n (ls' := [some (ab_r 23), some (ab_i (w : Int)), some (ab_i (((0 + (I (26 + w) 0)) + (I (26 + w) 1)) + (I (26 + w) 2))), some (ab_i 2)]) dX1_total_19 (by decide) rfl ?_
  refine aw_iinc (ls' := [some (ab_r 23), some (ab_i (w : Int)), some (ab_i (((0 + (I (26 + w) 0)) + (I (26 + w) 1)) + (I (26 + w) 2))), some (ab_i 3)]) dX1_total_20 (by decide) rfl rfl ?_
  refine aw_goto (tgt := 4) dX1_total_23 rfl ?_
  refine aw_iload_n dX1_total_4 rfl ?_
  refine aw_iconst dX1_total_5 ?_
  refine aw_icmp_ge (tgt := 26) dX1_total_6 rfl ⟨by decide, by decide⟩ ⟨by decide, by decide⟩ (fun c9 => absurd c9 (by decide)) (fun _ => ?_)
  refine aw_iload_n dX1_total_9 rfl ?_
  refine aw_aload_n dX1_total_10 rfl (by decide) ?_
  refine aw_getrv (r := 25) dX1_total_11 fX1_32 ⟨Nat.le_of_ble_eq_true rfl, Nat.le_of_ble_eq_true rfl⟩ rfl rfl (hF.at 23 6 25 rfl rfl rfl) ?_
  refine aw_iload_n dX1_total_14 rfl ?_
  refine aw_aaldv (r := 26 + w) dX1_total_15 ⟨Nat.le_of_ble_eq_true rfl, Nat.le_of_ble_eq_true rfl⟩ rfl (by decide) (by omega) (by omega) (by decide) (hF.t23 hw) ?_
  refine aw_iload_n dX1_total_16 rfl ?_
  refine aw_ialdq (q := 3) (v := I (26 + w) 3) dX1_total_17 ⟨by omega, by omega⟩ (sh_t23 hw) (by omega) (by omega) (by decide) rfl rfl ?_
  refine aw_iadd dX1_total_18 ?_
  refine aw_istore_n (ls' := [some (ab_r 23), some (ab_i (w : Int)), some (ab_i ((((0 + (I (26 + w) 0)) + (I (26 + w) 1)) + (I (26 + w) 2)) + (I (26 + w) 3))), some (ab_i 3)]) dX1_total_19 (by decide) rfl ?_
  refine aw_iinc (ls' := [some (ab_r 23), some (ab_i (w : Int)), some (ab_i ((((0 + (I (26 + w) 0)) + (I (26 + w) 1)) + (I (26 + w) 2)) + (I (26 + w) 3))), some (ab_i 4)]) dX1_total_20 (by decide) rfl rfl ?_
  refine aw_goto (tgt := 4) dX1_total_23 rfl ?_
  refine aw_iload_n dX1_total_4 rfl ?_
  refine aw_iconst dX1_total_5 ?_
  refine aw_icmp_ge (tgt := 26) dX1_total_6 rfl ⟨by decide, by decide⟩ ⟨by decide, by decide⟩ (fun _ => ?_) (fun c9 => absurd (by decide) c9)
  refine aw_iload_n dX1_total_26 rfl ?_
  refine aw_ireturn dX1_total_27 rfl ?_
  exact ⟨rfl, rfl⟩
set_option maxHeartbeats 4000000 in
set_option maxRecDepth 100000 in
theorem ct_X1_gained_23 (G : ab_G) (I : Nat → Nat → Int) (F : Nat → Nat → Nat) (hF : ab_FB F) (s : Nat) (hs4 : s < 4) : Ct G 0 0 0 YX1_gained [ab_r 23, ab_i (s : Int)] (104, I, F) (fun r h => r = some (ab_i (I 28 s - I 31 s)) ∧ h = (104, I, F)) := by
  refine Ct.ofW kX1_gained (ls := [some (ab_r 23), some (ab_i (s : Int))]) (Nat.le_of_ble_eq_true rfl) rfl ?_
  refine aw_aload_n dX1_gained_0 rfl (by decide) ?_
  refine aw_getrv (r := 25) dX1_gained_1 fX1_32 ⟨Nat.le_of_ble_eq_true rfl, Nat.le_of_ble_eq_true rfl⟩ rfl rfl (hF.at 23 6 25 rfl rfl rfl) ?_
  refine aw_iconst dX1_gained_4 ?_
  refine aw_aaldv (r := 28) dX1_gained_5 ⟨Nat.le_of_ble_eq_true rfl, Nat.le_of_ble_eq_true rfl⟩ rfl (by decide) (by omega) (by omega) (by decide) (hF.at 25 2 28 rfl rfl rfl) ?_
  refine aw_iload_n dX1_gained_6 rfl ?_
  refine aw_ialdq (q := s) (v := I 28 s) dX1_gained_7 ⟨Nat.le_of_ble_eq_true rfl, Nat.le_of_ble_eq_true rfl⟩ rfl (by omega) (by omega) (by decide) rfl rfl ?_
  refine aw_aload_n dX1_gained_8 rfl (by decide) ?_
  refine aw_getrv (r := 25) dX1_gained_9 fX1_32 ⟨Nat.le_of_ble_eq_true rfl, Nat.le_of_ble_eq_true rfl⟩ rfl rfl (hF.at 23 6 25 rfl rfl rfl) ?_
  refine aw_iconst dX1_gained_12 ?_
  refine aw_aaldv (r := 31) dX1_gained_13 ⟨Nat.le_of_ble_eq_true rfl, Nat.le_of_ble_eq_true rfl⟩ rfl (by decide) (by omega) (by omega) (by decide) (hF.at 25 5 31 rfl rfl rfl) ?_
  refine aw_iload_n dX1_gained_14 rfl ?_
  refine aw_ialdq (q := s) (v := I 31 s) dX1_gained_15 ⟨Nat.le_of_ble_eq_true rfl, Nat.le_of_ble_eq_true rfl⟩ rfl (by omega) (by omega) (by decide) rfl rfl ?_
  refine aw_isub dX1_gained_16 ?_
  refine aw_ireturn dX1_gained_17 rfl ?_
  exact ⟨rfl, rfl⟩
set_option maxHeartbeats 4000000 in
set_option maxRecDepth 100000 in
theorem ct_X1_house_23 (G : ab_G) (I : Nat → Nat → Int) (F : Nat → Nat → Nat) (hF : ab_FB F)(p : Nat) (hp : 32 ≤ p ∧ p ≤ 43) (s k : Nat) (hs : I p 0 = (s : Int)) (hs4 : s < 4) (hk4 : k < 4) : Ct G 0 0 0 YX1_house [ab_r 23, ab_r p, ab_i (k : Int)] (104, I, F) (fun r h => r = none ∧ h = (104, ab_u (ab_u (ab_u I 26 s (I 26 s + 1)) 27 s (I 27 s + I p 4)) 28 s (I 28 s + I (4 + s) k), F)) := by
  refine Ct.ofW kX1_house (ls := [some (ab_r 23), some (ab_r p), some (ab_i (k : Int))]) (Nat.le_of_ble_eq_true rfl) rfl ?_
  refine aw_aload_n dX1_house_0 rfl (by decide) ?_
  refine aw_getrv (r := 25) dX1_house_1 fX1_32 ⟨Nat.le_of_ble_eq_true rfl, Nat.le_of_ble_eq_true rfl⟩ rfl rfl (hF.at 23 6 25 rfl rfl rfl) ?_
  refine aw_iconst dX1_house_4 ?_
  refine aw_aaldv (r := 26) dX1_house_5 ⟨Nat.le_of_ble_eq_true rfl, Nat.le_of_ble_eq_true rfl⟩ rfl (by decide) (by omega) (by omega) (by decide) (hF.at 25 0 26 rfl rfl rfl) ?_
  refine aw_aload_n dX1_house_6 rfl (by omega) ?_
  refine aw_getiv (v := (s : Int)) dX1_house_7 fX1_97 ⟨by omega, by omega⟩ (sh_p23 hp) rfl hs ?_
  refine aw_dup2 dX1_house_10 rfl rfl ?_
  refine aw_ialdq (q := s) (v := I 26 s) dX1_house_11 ⟨Nat.le_of_ble_eq_true rfl, Nat.le_of_ble_eq_true rfl⟩ rfl (by omega) (by omega) (by decide) rfl rfl ?_
  refine aw_iconst dX1_house_12 ?_
  refine aw_iadd dX1_house_13 ?_
  refine aw_iastv (q := s) dX1_house_14 ⟨Nat.le_of_ble_eq_true rfl, Nat.le_of_ble_eq_true rfl⟩ rfl (by omega) (by omega) (by decide) rfl ?_
  refine aw_aload_n dX1_house_15 rfl (by decide) ?_
  refine aw_getrv (r := 25) dX1_house_16 fX1_32 ⟨Nat.le_of_ble_eq_true rfl, Nat.le_of_ble_eq_true rfl⟩ rfl rfl (hF.at 23 6 25 rfl rfl rfl) ?_
  refine aw_iconst dX1_house_19 ?_
  refine aw_aaldv (r := 27) dX1_house_20 ⟨Nat.le_of_ble_eq_true rfl, Nat.le_of_ble_eq_true rfl⟩ rfl (by decide) (by omega) (by omega) (by decide) (hF.at 25 1 27 rfl rfl rfl) ?_
  refine aw_aload_n dX1_house_21 rfl (by omega) ?_
  refine aw_getiv (v := (s : Int)) dX1_house_22 fX1_97 ⟨by omega, by omega⟩ (sh_p23 hp) rfl ((ab_u_i (by omega)).trans hs) ?_
  refine aw_dup2 dX1_house_25 rfl rfl ?_
  refine aw_ialdq (q := s) (v := I 27 s) dX1_house_26 ⟨Nat.le_of_ble_eq_true rfl, Nat.le_of_ble_eq_true rfl⟩ rfl (by omega) (by omega) (by decide) rfl (ab_u_i (by decide)) ?_
  refine aw_aload_n dX1_house_27 rfl (by omega) ?_
  refine aw_getiv (v := I p 4) dX1_house_28 fX1_115 ⟨by omega, by omega⟩ (sh_p23 hp) rfl (ab_u_i (by omega)) ?_
  refine aw_iadd dX1_house_31 ?_
  refine aw_iastv (q := s) dX1_house_32 ⟨Nat.le_of_ble_eq_true rfl, Nat.le_of_ble_eq_true rfl⟩ rfl (by omega) (by omega) (by decide) rfl ?_
  refine aw_aload_n dX1_house_33 rfl (by decide) ?_
  refine aw_getrv (r := 25) dX1_house_34 fX1_32 ⟨Nat.le_of_ble_eq_true rfl, Nat.le_of_ble_eq_true rfl⟩ rfl rfl (hF.at 23 6 25 rfl rfl rfl) ?_
  refine aw_iconst dX1_house_37 ?_
  refine aw_aaldv (r := 28) dX1_house_38 ⟨Nat.le_of_ble_eq_true rfl, Nat.le_of_ble_eq_true rfl⟩ rfl (by decide) (by omega) (by omega) (by decide) (hF.at 25 2 28 rfl rfl rfl) ?_
  refine aw_aload_n dX1_house_39 rfl (by omega) ?_
  refine aw_getiv (v := (s : Int)) dX1_house_40 fX1_97 ⟨by omega, by omega⟩ (sh_p23 hp) rfl (((ab_u_i (by omega)).trans (ab_u_i (by omega))).trans hs) ?_
  refine aw_dup2 dX1_house_43 rfl rfl ?_
  refine aw_ialdq (q := s) (v := I 28 s) dX1_house_44 ⟨Nat.le_of_ble_eq_true rfl, Nat.le_of_ble_eq_true rfl⟩ rfl (by omega) (by omega) (by decide) rfl ((ab_u_i (by decide)).trans (ab_u_i (by decide))) ?_
  refine aw_aload_n dX1_house_45 rfl (by decide) ?_
  refine aw_getrv (r := 2) dX1_house_46 fX1_35 ⟨Nat.le_of_ble_eq_true rfl, Nat.le_of_ble_eq_true rfl⟩ rfl rfl (hF.at 23 0 2 rfl rfl rfl) ?_
  refine aw_getrv (r := 3) dX1_house_49 fX1_112 ⟨Nat.le_of_ble_eq_true rfl, Nat.le_of_ble_eq_true rfl⟩ rfl rfl (hF.at 2 0 3 rfl rfl rfl) ?_
  refine aw_aload_n dX1_house_52 rfl (by omega) ?_
  refine aw_getiv (v := (s : Int)) dX1_house_53 fX1_97 ⟨by omega, by omega⟩ (sh_p23 hp) rfl (((ab_u_i (by omega)).trans (ab_u_i (by omega))).trans hs) ?_
  refine aw_aaldv (r := 4 + s) dX1_house_56 ⟨Nat.le_of_ble_eq_true rfl, Nat.le_of_ble_eq_true rfl⟩ rfl (by decide) (by omega) (by omega) (by decide) (hF.w hs4) ?_
  refine aw_iload_n dX1_house_57 rfl ?_
  refine aw_ialdq (q := k) (v := I (4 + s) k) dX1_house_58 ⟨by omega, by omega⟩ (sh_w hs4) (by omega) (by omega) (by decide) rfl ((ab_u_i (by omega)).trans (ab_u_i (by omega))) ?_
  refine aw_iadd dX1_house_59 ?_
  refine aw_iastv (q := s) dX1_house_60 ⟨Nat.le_of_ble_eq_true rfl, Nat.le_of_ble_eq_true rfl⟩ rfl (by omega) (by omega) (by decide) rfl ?_
  refine aw_return dX1_house_61 rfl ?_
  exact ⟨rfl, rfl⟩
set_option maxHeartbeats 4000000 in
set_option maxRecDepth 100000 in
theorem ct_X1_sayNo_23_13 (G : ab_G) (I : Nat → Nat → Int) (F : Nat → Nat → Nat) (hF : ab_FB F)(p : Nat) (hp : 32 ≤ p ∧ p ≤ 43) (s : Nat) (hs : I p 0 = (s : Int)) (hs4 : s < 4) (h1 : 0 ≤ I p 3 ∧ I p 3 ≤ 6000) (h2 : 0 ≤ I 13 1 ∧ I 13 1 ≤ 9) (h3 : 0 ≤ I 13 2 ∧ I 13 2 ≤ 2) : Ct G 0 0 0 YX1_sayNo [ab_r 23, ab_r p, ab_r 13] (104, I, F) (fun q h => q = some (ab_i (sn_r I 13 p)) ∧ h = (104, sn_I I 23 13 p s, F)) := by
  refine Ct.ofW kX1_sayNo (ls := [some (ab_r 23), some (ab_r p), some (ab_r 13)]) (Nat.le_of_ble_eq_true rfl) rfl ?_
  refine aw_aload_n dX1_sayNo_0 rfl (by omega) ?_
  refine aw_dup dX1_sayNo_1 rfl ?_
  refine aw_geti dX1_sayNo_2 fX1_130 ⟨by omega, by omega⟩ (sh_p23 hp) rfl ?_
  refine aw_iconst dX1_sayNo_5 ?_
  refine aw_iadd dX1_sayNo_6 ?_
  refine aw_puti dX1_sayNo_7 fX1_130 ⟨by omega, by omega⟩ (sh_p23 hp) rfl ?_
  refine aw_aload_n dX1_sayNo_10 rfl (by omega) ?_
  refine aw_getiv (v := ((I p 3) + 1)) dX1_sayNo_11 fX1_130 ⟨by omega, by omega⟩ (sh_p23 hp) rfl ab_u_s ?_
  refine aw_aload_n dX1_sayNo_14 rfl (by decide) ?_
  refine aw_getiv (v := I 13 1) dX1_sayNo_15 fX1_133 ⟨Nat.le_of_ble_eq_true rfl, Nat.le_of_ble_eq_true rfl⟩ rfl rfl (ab_u_i (by omega)) ?_
  refine aw_icmp_gt (tgt := 23) dX1_sayNo_18 rfl (by first | assumption | (unfold ab_In at *; omega)) (by first | assumption | (unfold ab_In at *; omega)) (fun c_18 => ?_) (fun c_18 => ?_)
  · refine aw_aload_n dX1_sayNo_23 rfl (by decide) ?_
    refine aw_getiv (v := I 13 2) dX1_sayNo_24 fX1_134 ⟨Nat.le_of_ble_eq_true rfl, Nat.le_of_ble_eq_true rfl⟩ rfl rfl (ab_u_i (by omega)) ?_
    refine aw_if_ne (tgt := 47) dX1_sayNo_27 rfl (by first | assumption | (unfold ab_In at *; omega)) (fun c_27 => ?_) (fun c_27 => ?_)
    · refine aw_aload_n dX1_sayNo_47 rfl (by decide) ?_
      refine aw_getiv (v := I 13 2) dX1_sayNo_48 fX1_134 ⟨Nat.le_of_ble_eq_true rfl, Nat.le_of_ble_eq_true rfl⟩ rfl rfl (ab_u_i (by omega)) ?_
      refine aw_iconst dX1_sayNo_51 ?_
      refine aw_icmp_ne (tgt := 83) dX1_sayNo_52 rfl (by first | assumption | (unfold ab_In at *; omega)) (by first | assumption | (unfold ab_In at *; omega)) (fun c_52 => ?_) (fun c_52 => ?_)
      · refine aw_iconst dX1_sayNo_83 ?_
        refine aw_breturn dX1_sayNo_84 rfl (by omega) ?_
        refine ⟨?_, ?_⟩
        · unfold sn_r; (repeat' split) <;> first | rfl | (exfalso; omega)
        · unfold sn_I; (repeat' split) <;> first | rfl | (exfalso; omega)
      · refine aw_aload_n dX1_sayNo_55 rfl (by omega) ?_
        refine aw_aload_n dX1_sayNo_56 rfl (by decide) ?_
        refine aw_getiv (v := I 23 4) dX1_sayNo_57 fX1_24 ⟨Nat.le_of_ble_eq_true rfl, Nat.le_of_ble_eq_true rfl⟩ rfl rfl (ab_u_i (by omega)) ?_
        refine aw_puti dX1_sayNo_60 fX1_103 ⟨by omega, by omega⟩ (sh_p23 hp) rfl ?_
        refine aw_aload_n dX1_sayNo_63 rfl (by decide) ?_
        refine aw_dup dX1_sayNo_64 rfl ?_
        refine aw_getiv (v := I 23 4) dX1_sayNo_65 fX1_24 ⟨Nat.le_of_ble_eq_true rfl, Nat.le_of_ble_eq_true rfl⟩ rfl rfl ((ab_u_i (by omega)).trans (ab_u_i (by omega))) ?_
        refine aw_iconst dX1_sayNo_68 ?_
        refine aw_iadd dX1_sayNo_69 ?_
        refine aw_puti dX1_sayNo_70 fX1_24 ⟨Nat.le_of_ble_eq_true rfl, Nat.le_of_ble_eq_true rfl⟩ rfl rfl ?_
        refine aw_aload_n dX1_sayNo_73 rfl (by omega) ?_
        refine aw_iconst dX1_sayNo_74 ?_
        refine aw_puti dX1_sayNo_75 fX1_100 ⟨by omega, by omega⟩ (sh_p23 hp) rfl ?_
        refine aw_aload_n dX1_sayNo_78 rfl (by omega) ?_
        refine aw_iconst dX1_sayNo_79 ?_
        refine aw_puti dX1_sayNo_80 fX1_130 ⟨by omega, by omega⟩ (sh_p23 hp) rfl ?_
        refine aw_iconst dX1_sayNo_83 ?_
        refine aw_breturn dX1_sayNo_84 rfl (by omega) ?_
        refine ⟨?_, ?_⟩
        · unfold sn_r; (repeat' split) <;> first | rfl | (exfalso; omega)
        · unfold sn_I; (repeat' split) <;> first | rfl | (exfalso; omega)
    · refine aw_aload_n dX1_sayNo_30 rfl (by decide) ?_
      refine aw_getrv (r := 25) dX1_sayNo_31 fX1_32 ⟨Nat.le_of_ble_eq_true rfl, Nat.le_of_ble_eq_true rfl⟩ rfl rfl (hF.at 23 6 25 rfl rfl rfl) ?_
      refine aw_iconst dX1_sayNo_34 ?_
      refine aw_aaldv (r := 29) dX1_sayNo_35 ⟨Nat.le_of_ble_eq_true rfl, Nat.le_of_ble_eq_true rfl⟩ rfl (by decide) (by omega) (by omega) (by decide) (hF.at 25 3 29 rfl rfl rfl) ?_
      refine aw_aload_n dX1_sayNo_36 rfl (by omega) ?_
      refine aw_getiv (v := (s : Int)) dX1_sayNo_37 fX1_97 ⟨by omega, by omega⟩ (sh_p23 hp) rfl ((ab_u_j (by decide)).trans hs) ?_
      refine aw_dup2 dX1_sayNo_40 rfl rfl ?_
      refine aw_ialdq (q := s) (v := I 29 s) dX1_sayNo_41 ⟨Nat.le_of_ble_eq_true rfl, Nat.le_of_ble_eq_true rfl⟩ rfl (by omega) (by omega) (by decide) rfl (ab_u_i (by omega)) ?_
      refine aw_iconst dX1_sayNo_42 ?_
      refine aw_iadd dX1_sayNo_43 ?_
      refine aw_iastv (q := s) dX1_sayNo_44 ⟨Nat.le_of_ble_eq_true rfl, Nat.le_of_ble_eq_true rfl⟩ rfl (by omega) (by omega) (by decide) rfl ?_
      refine aw_iconst dX1_sayNo_45 ?_
      refine aw_breturn dX1_sayNo_46 rfl (by omega) ?_
      refine ⟨?_, ?_⟩
      · unfold sn_r; (repeat' split) <;> first | rfl | (exfalso; omega)
      · unfold sn_I; (repeat' split) <;> first | rfl | (exfalso; omega)
  · refine aw_iconst dX1_sayNo_21 ?_
    refine aw_breturn dX1_sayNo_22 rfl (by omega) ?_
    refine ⟨?_, ?_⟩
    · unfold sn_r; (repeat' split) <;> first | rfl | (exfalso; omega)
    · unfold sn_I; (repeat' split) <;> first | rfl | (exfalso; omega)
set_option maxHeartbeats 4000000 in
set_option maxRecDepth 100000 in
theorem ct_X4_begin_44 (G : ab_G) (I : Nat → Nat → Int) (F : Nat → Nat → Nat)(p : Nat) (hp : 53 ≤ p ∧ p ≤ 64) (a b : Int) : Ct G 0 0 0 YX4_begin [ab_r p, ab_i a, ab_i b] (104, I, F) (fun r h => r = none ∧ h = (104, pt I p (a, b, 0, 0, 0), F)) := by
  refine Ct.ofW kX4_begin (ls := [some (ab_r p), some (ab_i a), some (ab_i b)]) (Nat.le_of_ble_eq_true rfl) rfl ?_
  refine aw_aload_n dX4_begin_0 rfl (by omega) ?_
  refine aw_iload_n dX4_begin_1 rfl ?_
  refine aw_puti dX4_begin_2 fX4_7 ⟨by omega, by omega⟩ (sh_p44 hp) rfl ?_
  refine aw_aload_n dX4_begin_5 rfl (by omega) ?_
  refine aw_iload_n dX4_begin_6 rfl ?_
  refine aw_puti dX4_begin_7 fX4_13 ⟨by omega, by omega⟩ (sh_p44 hp) rfl ?_
  refine aw_aload_n dX4_begin_10 rfl (by omega) ?_
  refine aw_iconst dX4_begin_11 ?_
  refine aw_puti dX4_begin_12 fX4_16 ⟨by omega, by omega⟩ (sh_p44 hp) rfl ?_
  refine aw_aload_n dX4_begin_15 rfl (by omega) ?_
  refine aw_iconst dX4_begin_16 ?_
  refine aw_puti dX4_begin_17 fX4_19 ⟨by omega, by omega⟩ (sh_p44 hp) rfl ?_
  refine aw_aload_n dX4_begin_20 rfl (by omega) ?_
  refine aw_iconst dX4_begin_21 ?_
  refine aw_puti dX4_begin_22 fX4_22 ⟨by omega, by omega⟩ (sh_p44 hp) rfl ?_
  refine aw_return dX4_begin_25 rfl ?_
  exact ⟨rfl, by rw [pt_all]⟩
set_option maxHeartbeats 4000000 in
set_option maxRecDepth 100000 in
theorem ct_X1_isFull_44 (G : ab_G) (I : Nat → Nat → Int) (F : Nat → Nat → Nat) (hs : ab_In (I 44 2)) : Ct G 0 0 0 YX1_isFull [ab_r 44] (104, I, F) (fun r h => r = some (ab_i (if 12 ≤ I 44 2 then 1 else 0)) ∧ h = (104, I, F)) := by
  refine Ct.ofW kX1_isFull (ls := [some (ab_r 44)]) (Nat.le_of_ble_eq_true rfl) rfl ?_
  refine aw_aload_n dX1_isFull_0 rfl (by decide) ?_
  refine aw_geti dX1_isFull_1 fX1_17 ⟨Nat.le_of_ble_eq_true rfl, Nat.le_of_ble_eq_true rfl⟩ rfl rfl ?_
  refine aw_bipush dX1_isFull_4 rfl ?_
  refine aw_icmp_lt (tgt := 13) dX1_isFull_6 rfl (by first | assumption | (unfold ab_In at *; omega)) (by first | assumption | (unfold ab_In at *; omega)) (fun c_6 => ?_) (fun c_6 => ?_)
  · refine aw_iconst dX1_isFull_13 ?_
    refine aw_breturn dX1_isFull_14 rfl (by omega) ?_
    exact ⟨by first | rw [if_pos (by omega)] | rw [if_neg (by omega)], rfl⟩
  · refine aw_iconst dX1_isFull_9 ?_
    refine aw_goto (tgt := 14) dX1_isFull_10 rfl ?_
    refine aw_breturn dX1_isFull_14 rfl (by omega) ?_
    exact ⟨by first | rw [if_pos (by omega)] | rw [if_neg (by omega)], rfl⟩
set_option maxHeartbeats 4000000 in
set_option maxRecDepth 100000 in
theorem ct_X1_add_44 (G : ab_G) (I : Nat → Nat → Int) (F : Nat → Nat → Nat) (hF : ab_FB F) (v : Int) (N p : Nat) (hN : I 44 2 = N) (hN12 : N < 12) (hpF : F 45 N = p) (hp : 53 ≤ p ∧ p ≤ 64) : Ct G 1 0 0 YX1_add [ab_r 44, ab_i v] (104, I, F) (fun r h => r = none ∧ h = (104, ab_u (ab_u (pt I p (v, I 44 4, 0, 0, 0)) 44 4 (I 44 4 + 1)) 44 2 ((N : Int) + 1), F)) := by
  refine Ct.ofW kX1_add (ls := [some (ab_r 44), some (ab_i v)]) (Nat.le_of_ble_eq_true rfl) rfl ?_
  refine aw_aload_n dX1_add_0 rfl (by decide) ?_
  refine aw_callV (as := []) (rest := []) dX1_add_1 (ct_X1_isFull_44 G I F (by unfold ab_In; omega)) ⟨Nat.le_of_ble_eq_true rfl, Nat.le_of_ble_eq_true rfl⟩ rfl kc1 rfl kX1_isFull iX1_isFull eX1_isFull lX1_50 rfl (Nat.le_of_ble_eq_true rfl) (by decide) (by decide) (by decide) (by decide) ?_
  rintro _ _ ⟨rfl, rfl⟩
  refine aw_if_eq (tgt := 8) dX1_add_4 rfl (by split <;> (unfold ab_In; omega)) (fun c_4 => ?_) (fun c_4 => ?_)
  · refine aw_aload_n dX1_add_8 rfl (by decide) ?_
    refine aw_getrv (r := 45) dX1_add_9 fX1_11 ⟨Nat.le_of_ble_eq_true rfl, Nat.le_of_ble_eq_true rfl⟩ rfl rfl (hF.at 44 1 45 rfl rfl rfl) ?_
    refine aw_aload_n dX1_add_12 rfl (by decide) ?_
    refine aw_getiv (v := (N : Int)) dX1_add_13 fX1_17 ⟨Nat.le_of_ble_eq_true rfl, Nat.le_of_ble_eq_true rfl⟩ rfl rfl hN ?_
    refine aw_aaldv (r := p) dX1_add_16 ⟨Nat.le_of_ble_eq_true rfl, Nat.le_of_ble_eq_true rfl⟩ rfl (by decide) (by omega) (by omega) (by decide) hpF ?_
    refine aw_iload_n dX1_add_17 rfl ?_
    refine aw_aload_n dX1_add_18 rfl (by decide) ?_
    refine aw_geti dX1_add_19 fX1_24 ⟨Nat.le_of_ble_eq_true rfl, Nat.le_of_ble_eq_true rfl⟩ rfl rfl ?_
    refine aw_callV (as := [ab_i v, ab_i (I 44 4)]) (rest := []) dX1_add_22 (ct_X4_begin_44 G I F p hp v (I 44 4)) ⟨by omega, by omega⟩ (sh_p44 hp) kc4 rfl kX4_begin iX4_begin eX4_begin lX1_54 rfl (Nat.le_of_ble_eq_true rfl) (by decide) (by decide) (by decide) (by decide) ?_
    rintro _ _ ⟨rfl, rfl⟩
    refine aw_aload_n dX1_add_25 rfl (by decide) ?_
    refine aw_dup dX1_add_26 rfl ?_
    refine aw_getiv (v := I 44 4) dX1_add_27 fX1_24 ⟨Nat.le_of_ble_eq_true rfl, Nat.le_of_ble_eq_true rfl⟩ rfl rfl (pt_ne (by omega)) ?_
    refine aw_iconst dX1_add_30 ?_
    refine aw_iadd dX1_add_31 ?_
    refine aw_puti dX1_add_32 fX1_24 ⟨Nat.le_of_ble_eq_true rfl, Nat.le_of_ble_eq_true rfl⟩ rfl rfl ?_
    refine aw_aload_n dX1_add_35 rfl (by decide) ?_
    refine aw_dup dX1_add_36 rfl ?_
    refine aw_getiv (v := (N : Int)) dX1_add_37 fX1_17 ⟨Nat.le_of_ble_eq_true rfl, Nat.le_of_ble_eq_true rfl⟩ rfl rfl ((ab_u_j (by decide)).trans ((pt_ne (by omega)).trans hN)) ?_
    refine aw_iconst dX1_add_40 ?_
    refine aw_iadd dX1_add_41 ?_
    refine aw_puti dX1_add_42 fX1_17 ⟨Nat.le_of_ble_eq_true rfl, Nat.le_of_ble_eq_true rfl⟩ rfl rfl ?_
    refine aw_return dX1_add_45 rfl ?_
    exact ⟨rfl, rfl⟩
  · rw [if_neg (by omega)] at c_4; exact absurd rfl c_4
set_option maxHeartbeats 4000000 in
set_option maxRecDepth 100000 in
theorem ct_X1_total_44 (G : ab_G) (I : Nat → Nat → Int) (F : Nat → Nat → Nat) (hF : ab_FB F) (w : Nat) (hw : w < 6) : Ct G 0 0 0 YX1_total [ab_r 44, ab_i (w : Int)] (104, I, F) (fun r h => r = some (ab_i (0 + I (47 + w) 0 + I (47 + w) 1 + I (47 + w) 2 + I (47 + w) 3)) ∧ h = (104, I, F)) := by
  refine Ct.ofW kX1_total (ls := [some (ab_r 44), some (ab_i (w : Int)), none, none]) (Nat.le_of_ble_eq_true rfl) rfl ?_
  refine aw_iconst dX1_total_0 ?_
  refine aw_istore_n (ls' := [some (ab_r 44), some (ab_i (w : Int)), some (ab_i 0), none]) dX1_total_1 (by decide) rfl ?_
  refine aw_iconst dX1_total_2 ?_
  refine aw_istore_n (ls' := [some (ab_r 44), some (ab_i (w : Int)), some (ab_i 0), some (ab_i 0)]) dX1_total_3 (by decide) rfl ?_
  refine aw_iload_n dX1_total_4 rfl ?_
  refine aw_iconst dX1_total_5 ?_
  refine aw_icmp_ge (tgt := 26) dX1_total_6 rfl ⟨by decide, by decide⟩ ⟨by decide, by decide⟩ (fun c9 => absurd c9 (by decide)) (fun _ => ?_)
  refine aw_iload_n dX1_total_9 rfl ?_
  refine aw_aload_n dX1_total_10 rfl (by decide) ?_
  refine aw_getrv (r := 46) dX1_total_11 fX1_32 ⟨Nat.le_of_ble_eq_true rfl, Nat.le_of_ble_eq_true rfl⟩ rfl rfl (hF.at 44 6 46 rfl rfl rfl) ?_
  refine aw_iload_n dX1_total_14 rfl ?_
  refine aw_aaldv (r := 47 + w) dX1_total_15 ⟨Nat.le_of_ble_eq_true rfl, Nat.le_of_ble_eq_true rfl⟩ rfl (by decide) (by omega) (by omega) (by decide) (hF.t44 hw) ?_
  refine aw_iload_n dX1_total_16 rfl ?_
  refine aw_ialdq (q := 0) (v := I (47 + w) 0) dX1_total_17 ⟨by omega, by omega⟩ (sh_t44 hw) (by omega) (by omega) (by decide) rfl rfl ?_
  refine aw_iadd dX1_total_18 ?_
  refine aw_istore_n (ls' := [some (ab_r 44), some (ab_i (w : Int)), some (ab_i (0 + (I (47 + w) 0))), some (ab_i 0)]) dX1_total_19 (by decide) rfl ?_
  refine aw_iinc (ls' := [some (ab_r 44), some (ab_i (w : Int)), some (ab_i (0 + (I (47 + w) 0))), some (ab_i 1)]) dX1_total_20 (by decide) rfl rfl ?_
  refine aw_goto (tgt := 4) dX1_total_23 rfl ?_
  refine aw_iload_n dX1_total_4 rfl ?_
  refine aw_iconst dX1_total_5 ?_
  refine aw_icmp_ge (tgt := 26) dX1_total_6 rfl ⟨by decide, by decide⟩ ⟨by decide, by decide⟩ (fun c9 => absurd c9 (by decide)) (fun _ => ?_)
  refine aw_iload_n dX1_total_9 rfl ?_
  refine aw_aload_n dX1_total_10 rfl (by decide) ?_
  refine aw_getrv (r := 46) dX1_total_11 fX1_32 ⟨Nat.le_of_ble_eq_true rfl, Nat.le_of_ble_eq_true rfl⟩ rfl rfl (hF.at 44 6 46 rfl rfl rfl) ?_
  refine aw_iload_n dX1_total_14 rfl ?_
  refine aw_aaldv (r := 47 + w) dX1_total_15 ⟨Nat.le_of_ble_eq_true rfl, Nat.le_of_ble_eq_true rfl⟩ rfl (by decide) (by omega) (by omega) (by decide) (hF.t44 hw) ?_
  refine aw_iload_n dX1_total_16 rfl ?_
  refine aw_ialdq (q := 1) (v := I (47 + w) 1) dX1_total_17 ⟨by omega, by omega⟩ (sh_t44 hw) (by omega) (by omega) (by decide) rfl rfl ?_
  refine aw_iadd dX1_total_18 ?_
  refine aw_istore_n (ls' := [some (ab_r 44), some (ab_i (w : Int)), some (ab_i ((0 + (I (47 + w) 0)) + (I (47 + w) 1))), some (ab_i 1)]) dX1_total_19 (by decide) rfl ?_
  refine aw_iinc (ls' := [some (ab_r 44), some (ab_i (w : Int)), some (ab_i ((0 + (I (47 + w) 0)) + (I (47 + w) 1))), some (ab_i 2)]) dX1_total_20 (by decide) rfl rfl ?_
  refine aw_goto (tgt := 4) dX1_total_23 rfl ?_
  refine aw_iload_n dX1_total_4 rfl ?_
  refine aw_iconst dX1_total_5 ?_
  refine aw_icmp_ge (tgt := 26) dX1_total_6 rfl ⟨by decide, by decide⟩ ⟨by decide, by decide⟩ (fun c9 => absurd c9 (by decide)) (fun _ => ?_)
  refine aw_iload_n dX1_total_9 rfl ?_
  refine aw_aload_n dX1_total_10 rfl (by decide) ?_
  refine aw_getrv (r := 46) dX1_total_11 fX1_32 ⟨Nat.le_of_ble_eq_true rfl, Nat.le_of_ble_eq_true rfl⟩ rfl rfl (hF.at 44 6 46 rfl rfl rfl) ?_
  refine aw_iload_n dX1_total_14 rfl ?_
  refine aw_aaldv (r := 47 + w) dX1_total_15 ⟨Nat.le_of_ble_eq_true rfl, Nat.le_of_ble_eq_true rfl⟩ rfl (by decide) (by omega) (by omega) (by decide) (hF.t44 hw) ?_
  refine aw_iload_n dX1_total_16 rfl ?_
  refine aw_ialdq (q := 2) (v := I (47 + w) 2) dX1_total_17 ⟨by omega, by omega⟩ (sh_t44 hw) (by omega) (by omega) (by decide) rfl rfl ?_
  refine aw_iadd dX1_total_18 ?_
  refine aw_istore_n (ls' := [some (ab_r 44), some (ab_i (w : Int)), some (ab_i (((0 + (I (47 + w) 0)) + (I (47 + w) 1)) + (I (47 + w) 2))), some (ab_i 2)]) dX1_total_19 (by decide) rfl ?_
  refine aw_iinc (ls' := [some (ab_r 44), some (ab_i (w : Int)), some (ab_i (((0 + (I (47 + w) 0)) + (I (47 + w) 1)) + (I (47 + w) 2))), some (ab_i 3)]) dX1_total_20 (by decide) rfl rfl ?_
  refine aw_goto (tgt := 4) dX1_total_23 rfl ?_
  refine aw_iload_n dX1_total_4 rfl ?_
  refine aw_iconst dX1_total_5 ?_
  refine aw_icmp_ge (tgt := 26) dX1_total_6 rfl ⟨by decide, by decide⟩ ⟨by decide, by decide⟩ (fun c9 => absurd c9 (by decide)) (fun _ => ?_)
  refine aw_iload_n dX1_total_9 rfl ?_
  refine aw_aload_n dX1_total_10 rfl (by decide) ?_
  refine aw_getrv (r := 46) dX1_total_11 fX1_32 ⟨Nat.le_of_ble_eq_true rfl, Nat.le_of_ble_eq_true rfl⟩ rfl rfl (hF.at 44 6 46 rfl rfl rfl) ?_
  refine aw_iload_n dX1_total_14 rfl ?_
  refine aw_aaldv (r := 47 + w) dX1_total_15 ⟨Nat.le_of_ble_eq_true rfl, Nat.le_of_ble_eq_true rfl⟩ rfl (by decide) (by omega) (by omega) (by decide) (hF.t44 hw) ?_
  refine aw_iload_n dX1_total_16 rfl ?_
  refine aw_ialdq (q := 3) (v := I (47 + w) 3) dX1_total_17 ⟨by omega, by omega⟩ (sh_t44 hw) (by omega) (by omega) (by decide) rfl rfl ?_
  refine aw_iadd dX1_total_18 ?_
  refine aw_istore_n (ls' := [some (ab_r 44), some (ab_i (w : Int)), some (ab_i ((((0 + (I (47 + w) 0)) + (I (47 + w) 1)) + (I (47 + w) 2)) + (I (47 + w) 3))), some (ab_i 3)]) dX1_total_19 (by decide) rfl ?_
  refine aw_iinc (ls' := [some (ab_r 44), some (ab_i (w : Int)), some (ab_i ((((0 + (I (47 + w) 0)) + (I (47 + w) 1)) + (I (47 + w) 2)) + (I (47 + w) 3))), some (ab_i 4)]) dX1_total_20 (by decide) rfl rfl ?_
  refine aw_goto (tgt := 4) dX1_total_23 rfl ?_
  refine aw_iload_n dX1_total_4 rfl ?_
  refine aw_iconst dX1_total_5 ?_
  refine aw_icmp_ge (tgt := 26) dX1_total_6 rfl ⟨by decide, by decide⟩ ⟨by decide, by decide⟩ (fun _ => ?_) (fun c9 => absurd (by decide) c9)
  refine aw_iload_n dX1_total_26 rfl ?_
  refine aw_ireturn dX1_total_27 rfl ?_
  exact ⟨rfl, rfl⟩
set_option maxHeartbeats 4000000 in
set_option maxRecDepth 100000 in
theorem ct_X1_gained_44 (G : ab_G) (I : Nat → Nat → Int) (F : Nat → Nat → Nat) (hF : ab_FB F) (s : Nat) (hs4 : s < 4) : Ct G 0 0 0 YX1_gained [ab_r 44, ab_i (s : Int)] (104, I, F) (fun r h => r = some (ab_i (I 49 s - I 52 s)) ∧ h = (104, I, F)) := by
  refine Ct.ofW kX1_gained (ls := [some (ab_r 44), some (ab_i (s : Int))]) (Nat.le_of_ble_eq_true rfl) rfl ?_
  refine aw_aload_n dX1_gained_0 rfl (by decide) ?_
  refine aw_getrv (r := 46) dX1_gained_1 fX1_32 ⟨Nat.le_of_ble_eq_true rfl, Nat.le_of_ble_eq_true rfl⟩ rfl rfl (hF.at 44 6 46 rfl rfl rfl) ?_
  refine aw_iconst dX1_gained_4 ?_
  refine aw_aaldv (r := 49) dX1_gained_5 ⟨Nat.le_of_ble_eq_true rfl, Nat.le_of_ble_eq_true rfl⟩ rfl (by decide) (by omega) (by omega) (by decide) (hF.at 46 2 49 rfl rfl rfl) ?_
  refine aw_iload_n dX1_gained_6 rfl ?_
  refine aw_ialdq (q := s) (v := I 49 s) dX1_gained_7 ⟨Nat.le_of_ble_eq_true rfl, Nat.le_of_ble_eq_true rfl⟩ rfl (by omega) (by omega) (by decide) rfl rfl ?_
  refine aw_aload_n dX1_gained_8 rfl (by decide) ?_
  refine aw_getrv (r := 46) dX1_gained_9 fX1_32 ⟨Nat.le_of_ble_eq_true rfl, Nat.le_of_ble_eq_true rfl⟩ rfl rfl (hF.at 44 6 46 rfl rfl rfl) ?_
  refine aw_iconst dX1_gained_12 ?_
  refine aw_aaldv (r := 52) dX1_gained_13 ⟨Nat.le_of_ble_eq_true rfl, Nat.le_of_ble_eq_true rfl⟩ rfl (by decide) (by omega) (by omega) (by decide) (hF.at 46 5 52 rfl rfl rfl) ?_
  refine aw_iload_n dX1_gained_14 rfl ?_
  refine aw_ialdq (q := s) (v := I 52 s) dX1_gained_15 ⟨Nat.le_of_ble_eq_true rfl, Nat.le_of_ble_eq_true rfl⟩ rfl (by omega) (by omega) (by decide) rfl rfl ?_
  refine aw_isub dX1_gained_16 ?_
  refine aw_ireturn dX1_gained_17 rfl ?_
  exact ⟨rfl, rfl⟩
set_option maxHeartbeats 4000000 in
set_option maxRecDepth 100000 in
theorem ct_X1_house_44 (G : ab_G) (I : Nat → Nat → Int) (F : Nat → Nat → Nat) (hF : ab_FB F)(p : Nat) (hp : 53 ≤ p ∧ p ≤ 64) (s k : Nat) (hs : I p 0 = (s : Int)) (hs4 : s < 4) (hk4 : k < 4) : Ct G 0 0 0 YX1_house [ab_r 44, ab_r p, ab_i (k : Int)] (104, I, F) (fun r h => r = none ∧ h = (104, ab_u (ab_u (ab_u I 47 s (I 47 s + 1)) 48 s (I 48 s + I p 4)) 49 s (I 49 s + I (4 + s) k), F)) := by
  refine Ct.ofW kX1_house (ls := [some (ab_r 44), some (ab_r p), some (ab_i (k : Int))]) (Nat.le_of_ble_eq_true rfl) rfl ?_
  refine aw_aload_n dX1_house_0 rfl (by decide) ?_
  refine aw_getrv (r := 46) dX1_house_1 fX1_32 ⟨Nat.le_of_ble_eq_true rfl, Nat.le_of_ble_eq_true rfl⟩ rfl rfl (hF.at 44 6 46 rfl rfl rfl) ?_
  refine aw_iconst dX1_house_4 ?_
  refine aw_aaldv (r := 47) dX1_house_5 ⟨Nat.le_of_ble_eq_true rfl, Nat.le_of_ble_eq_true rfl⟩ rfl (by decide) (by omega) (by omega) (by decide) (hF.at 46 0 47 rfl rfl rfl) ?_
  refine aw_aload_n dX1_house_6 rfl (by omega) ?_
  refine aw_getiv (v := (s : Int)) dX1_house_7 fX1_97 ⟨by omega, by omega⟩ (sh_p44 hp) rfl hs ?_
  refine aw_dup2 dX1_house_10 rfl rfl ?_
  refine aw_ialdq (q := s) (v := I 47 s) dX1_house_11 ⟨Nat.le_of_ble_eq_true rfl, Nat.le_of_ble_eq_true rfl⟩ rfl (by omega) (by omega) (by decide) rfl rfl ?_
  refine aw_iconst dX1_house_12 ?_
  refine aw_iadd dX1_house_13 ?_
  refine aw_iastv (q := s) dX1_house_14 ⟨Nat.le_of_ble_eq_true rfl, Nat.le_of_ble_eq_true rfl⟩ rfl (by omega) (by omega) (by decide) rfl ?_
  refine aw_aload_n dX1_house_15 rfl (by decide) ?_
  refine aw_getrv (r := 46) dX1_house_16 fX1_32 ⟨Nat.le_of_ble_eq_true rfl, Nat.le_of_ble_eq_true rfl⟩ rfl rfl (hF.at 44 6 46 rfl rfl rfl) ?_
  refine aw_iconst dX1_house_19 ?_
  refine aw_aaldv (r := 48) dX1_house_20 ⟨Nat.le_of_ble_eq_true rfl, Nat.le_of_ble_eq_true rfl⟩ rfl (by decide) (by omega) (by omega) (by decide) (hF.at 46 1 48 rfl rfl rfl) ?_
  refine aw_aload_n dX1_house_21 rfl (by omega) ?_
  refine aw_getiv (v := (s : Int)) dX1_house_22 fX1_97 ⟨by omega, by omega⟩ (sh_p44 hp) rfl ((ab_u_i (by omega)).trans hs) ?_
  refine aw_dup2 dX1_house_25 rfl rfl ?_
  refine aw_ialdq (q := s) (v := I 48 s) dX1_house_26 ⟨Nat.le_of_ble_eq_true rfl, Nat.le_of_ble_eq_true rfl⟩ rfl (by omega) (by omega) (by decide) rfl (ab_u_i (by decide)) ?_
  refine aw_aload_n dX1_house_27 rfl (by omega) ?_
  refine aw_getiv (v := I p 4) dX1_house_28 fX1_115 ⟨by omega, by omega⟩ (sh_p44 hp) rfl (ab_u_i (by omega)) ?_
  refine aw_iadd dX1_house_31 ?_
  refine aw_iastv (q := s) dX1_house_32 ⟨Nat.le_of_ble_eq_true rfl, Nat.le_of_ble_eq_true rfl⟩ rfl (by omega) (by omega) (by decide) rfl ?_
  refine aw_aload_n dX1_house_33 rfl (by decide) ?_
  refine aw_getrv (r := 46) dX1_house_34 fX1_32 ⟨Nat.le_of_ble_eq_true rfl, Nat.le_of_ble_eq_true rfl⟩ rfl rfl (hF.at 44 6 46 rfl rfl rfl) ?_
  refine aw_iconst dX1_house_37 ?_
  refine aw_aaldv (r := 49) dX1_house_38 ⟨Nat.le_of_ble_eq_true rfl, Nat.le_of_ble_eq_true rfl⟩ rfl (by decide) (by omega) (by omega) (by decide) (hF.at 46 2 49 rfl rfl rfl) ?_
  refine aw_aload_n dX1_house_39 rfl (by omega) ?_
  refine aw_getiv (v := (s : Int)) dX1_house_40 fX1_97 ⟨by omega, by omega⟩ (sh_p44 hp) rfl (((ab_u_i (by omega)).trans (ab_u_i (by omega))).trans hs) ?_
  refine aw_dup2 dX1_house_43 rfl rfl ?_
  refine aw_ialdq (q := s) (v := I 49 s) dX1_house_44 ⟨Nat.le_of_ble_eq_true rfl, Nat.le_of_ble_eq_true rfl⟩ rfl (by omega) (by omega) (by decide) rfl ((ab_u_i (by decide)).trans (ab_u_i (by decide))) ?_
  refine aw_aload_n dX1_house_45 rfl (by decide) ?_
  refine aw_getrv (r := 2) dX1_house_46 fX1_35 ⟨Nat.le_of_ble_eq_true rfl, Nat.le_of_ble_eq_true rfl⟩ rfl rfl (hF.at 44 0 2 rfl rfl rfl) ?_
  refine aw_getrv (r := 3) dX1_house_49 fX1_112 ⟨Nat.le_of_ble_eq_true rfl, Nat.le_of_ble_eq_true rfl⟩ rfl rfl (hF.at 2 0 3 rfl rfl rfl) ?_
  refine aw_aload_n dX1_house_52 rfl (by omega) ?_
  refine aw_getiv (v := (s : Int)) dX1_house_53 fX1_97 ⟨by omega, by omega⟩ (sh_p44 hp) rfl (((ab_u_i (by omega)).trans (ab_u_i (by omega))).trans hs) ?_
  refine aw_aaldv (r := 4 + s) dX1_house_56 ⟨Nat.le_of_ble_eq_true rfl, Nat.le_of_ble_eq_true rfl⟩ rfl (by decide) (by omega) (by omega) (by decide) (hF.w hs4) ?_
  refine aw_iload_n dX1_house_57 rfl ?_
  refine aw_ialdq (q := k) (v := I (4 + s) k) dX1_house_58 ⟨by omega, by omega⟩ (sh_w hs4) (by omega) (by omega) (by decide) rfl ((ab_u_i (by omega)).trans (ab_u_i (by omega))) ?_
  refine aw_iadd dX1_house_59 ?_
  refine aw_iastv (q := s) dX1_house_60 ⟨Nat.le_of_ble_eq_true rfl, Nat.le_of_ble_eq_true rfl⟩ rfl (by omega) (by omega) (by decide) rfl ?_
  refine aw_return dX1_house_61 rfl ?_
  exact ⟨rfl, rfl⟩
set_option maxHeartbeats 4000000 in
set_option maxRecDepth 100000 in
theorem ct_X1_sayNo_44_13 (G : ab_G) (I : Nat → Nat → Int) (F : Nat → Nat → Nat) (hF : ab_FB F)(p : Nat) (hp : 53 ≤ p ∧ p ≤ 64) (s : Nat) (hs : I p 0 = (s : Int)) (hs4 : s < 4) (h1 : 0 ≤ I p 3 ∧ I p 3 ≤ 6000) (h2 : 0 ≤ I 13 1 ∧ I 13 1 ≤ 9) (h3 : 0 ≤ I 13 2 ∧ I 13 2 ≤ 2) : Ct G 0 0 0 YX1_sayNo [ab_r 44, ab_r p, ab_r 13] (104, I, F) (fun q h => q = some (ab_i (sn_r I 13 p)) ∧ h = (104, sn_I I 44 13 p s, F)) := by
  refine Ct.ofW kX1_sayNo (ls := [some (ab_r 44), some (ab_r p), some (ab_r 13)]) (Nat.le_of_ble_eq_true rfl) rfl ?_
  refine aw_aload_n dX1_sayNo_0 rfl (by omega) ?_
  refine aw_dup dX1_sayNo_1 rfl ?_
  refine aw_geti dX1_sayNo_2 fX1_130 ⟨by omega, by omega⟩ (sh_p44 hp) rfl ?_
  refine aw_iconst dX1_sayNo_5 ?_
  refine aw_iadd dX1_sayNo_6 ?_
  refine aw_puti dX1_sayNo_7 fX1_130 ⟨by omega, by omega⟩ (sh_p44 hp) rfl ?_
  refine aw_aload_n dX1_sayNo_10 rfl (by omega) ?_
  refine aw_getiv (v := ((I p 3) + 1)) dX1_sayNo_11 fX1_130 ⟨by omega, by omega⟩ (sh_p44 hp) rfl ab_u_s ?_
  refine aw_aload_n dX1_sayNo_14 rfl (by decide) ?_
  refine aw_getiv (v := I 13 1) dX1_sayNo_15 fX1_133 ⟨Nat.le_of_ble_eq_true rfl, Nat.le_of_ble_eq_true rfl⟩ rfl rfl (ab_u_i (by omega)) ?_
  refine aw_icmp_gt (tgt := 23) dX1_sayNo_18 rfl (by first | assumption | (unfold ab_In at *; omega)) (by first | assumption | (unfold ab_In at *; omega)) (fun c_18 => ?_) (fun c_18 => ?_)
  · refine aw_aload_n dX1_sayNo_23 rfl (by decide) ?_
    refine aw_getiv (v := I 13 2) dX1_sayNo_24 fX1_134 ⟨Nat.le_of_ble_eq_true rfl, Nat.le_of_ble_eq_true rfl⟩ rfl rfl (ab_u_i (by omega)) ?_
    refine aw_if_ne (tgt := 47) dX1_sayNo_27 rfl (by first | assumption | (unfold ab_In at *; omega)) (fun c_27 => ?_) (fun c_27 => ?_)
    · refine aw_aload_n dX1_sayNo_47 rfl (by decide) ?_
      refine aw_getiv (v := I 13 2) dX1_sayNo_48 fX1_134 ⟨Nat.le_of_ble_eq_true rfl, Nat.le_of_ble_eq_true rfl⟩ rfl rfl (ab_u_i (by omega)) ?_
      refine aw_iconst dX1_sayNo_51 ?_
      refine aw_icmp_ne (tgt := 83) dX1_sayNo_52 rfl (by first | assumption | (unfold ab_In at *; omega)) (by first | assumption | (unfold ab_In at *; omega)) (fun c_52 => ?_) (fun c_52 => ?_)
      · refine aw_iconst dX1_sayNo_83 ?_
        refine aw_breturn dX1_sayNo_84 rfl (by omega) ?_
        refine ⟨?_, ?_⟩
        · unfold sn_r; (repeat' split) <;> first | rfl | (exfalso; omega)
        · unfold sn_I; (repeat' split) <;> first | rfl | (exfalso; omega)
      · refine aw_aload_n dX1_sayNo_55 rfl (by omega) ?_
        refine aw_aload_n dX1_sayNo_56 rfl (by decide) ?_
        refine aw_getiv (v := I 44 4) dX1_sayNo_57 fX1_24 ⟨Nat.le_of_ble_eq_true rfl, Nat.le_of_ble_eq_true rfl⟩ rfl rfl (ab_u_i (by omega)) ?_
        refine aw_puti dX1_sayNo_60 fX1_103 ⟨by omega, by omega⟩ (sh_p44 hp) rfl ?_
        refine aw_aload_n dX1_sayNo_63 rfl (by decide) ?_
        refine aw_dup dX1_sayNo_64 rfl ?_
        refine aw_getiv (v := I 44 4) dX1_sayNo_65 fX1_24 ⟨Nat.le_of_ble_eq_true rfl, Nat.le_of_ble_eq_true rfl⟩ rfl rfl ((ab_u_i (by omega)).trans (ab_u_i (by omega))) ?_
        refine aw_iconst dX1_sayNo_68 ?_
        refine aw_iadd dX1_sayNo_69 ?_
        refine aw_puti dX1_sayNo_70 fX1_24 ⟨Nat.le_of_ble_eq_true rfl, Nat.le_of_ble_eq_true rfl⟩ rfl rfl ?_
        refine aw_aload_n dX1_sayNo_73 rfl (by omega) ?_
        refine aw_iconst dX1_sayNo_74 ?_
        refine aw_puti dX1_sayNo_75 fX1_100 ⟨by omega, by omega⟩ (sh_p44 hp) rfl ?_
        refine aw_aload_n dX1_sayNo_78 rfl (by omega) ?_
        refine aw_iconst dX1_sayNo_79 ?_
        refine aw_puti dX1_sayNo_80 fX1_130 ⟨by omega, by omega⟩ (sh_p44 hp) rfl ?_
        refine aw_iconst dX1_sayNo_83 ?_
        refine aw_breturn dX1_sayNo_84 rfl (by omega) ?_
        refine ⟨?_, ?_⟩
        · unfold sn_r; (repeat' split) <;> first | rfl | (exfalso; omega)
        · unfold sn_I; (repeat' split) <;> first | rfl | (exfalso; omega)
    · refine aw_aload_n dX1_sayNo_30 rfl (by decide) ?_
      refine aw_getrv (r := 46) dX1_sayNo_31 fX1_32 ⟨Nat.le_of_ble_eq_true rfl, Nat.le_of_ble_eq_true rfl⟩ rfl rfl (hF.at 44 6 46 rfl rfl rfl) ?_
      refine aw_iconst dX1_sayNo_34 ?_
      refine aw_aaldv (r := 50) dX1_sayNo_35 ⟨Nat.le_of_ble_eq_true rfl, Nat.le_of_ble_eq_true rfl⟩ rfl (by decide) (by omega) (by omega) (by decide) (hF.at 46 3 50 rfl rfl rfl) ?_
      refine aw_aload_n dX1_sayNo_36 rfl (by omega) ?_
      refine aw_getiv (v := (s : Int)) dX1_sayNo_37 fX1_97 ⟨by omega, by omega⟩ (sh_p44 hp) rfl ((ab_u_j (by decide)).trans hs) ?_
      refine aw_dup2 dX1_sayNo_40 rfl rfl ?_
      refine aw_ialdq (q := s) (v := I 50 s) dX1_sayNo_41 ⟨Nat.le_of_ble_eq_true rfl, Nat.le_of_ble_eq_true rfl⟩ rfl (by omega) (by omega) (by decide) rfl (ab_u_i (by omega)) ?_
      refine aw_iconst dX1_sayNo_42 ?_
      refine aw_iadd dX1_sayNo_43 ?_
      refine aw_iastv (q := s) dX1_sayNo_44 ⟨Nat.le_of_ble_eq_true rfl, Nat.le_of_ble_eq_true rfl⟩ rfl (by omega) (by omega) (by decide) rfl ?_
      refine aw_iconst dX1_sayNo_45 ?_
      refine aw_breturn dX1_sayNo_46 rfl (by omega) ?_
      refine ⟨?_, ?_⟩
      · unfold sn_r; (repeat' split) <;> first | rfl | (exfalso; omega)
      · unfold sn_I; (repeat' split) <;> first | rfl | (exfalso; omega)
  · refine aw_iconst dX1_sayNo_21 ?_
    refine aw_breturn dX1_sayNo_22 rfl (by omega) ?_
    refine ⟨?_, ?_⟩
    · unfold sn_r; (repeat' split) <;> first | rfl | (exfalso; omega)
    · unfold sn_I; (repeat' split) <;> first | rfl | (exfalso; omega)
set_option maxHeartbeats 4000000 in
set_option maxRecDepth 100000 in
theorem ct_X1_sayNo_44_17 (G : ab_G) (I : Nat → Nat → Int) (F : Nat → Nat → Nat) (hF : ab_FB F)(p : Nat) (hp : 53 ≤ p ∧ p ≤ 64) (s : Nat) (hs : I p 0 = (s : Int)) (hs4 : s < 4) (h1 : 0 ≤ I p 3 ∧ I p 3 ≤ 6000) (h2 : 0 ≤ I 17 1 ∧ I 17 1 ≤ 9) (h3 : 0 ≤ I 17 2 ∧ I 17 2 ≤ 2) : Ct G 0 0 0 YX1_sayNo [ab_r 44, ab_r p, ab_r 17] (104, I, F) (fun q h => q = some (ab_i (sn_r I 17 p)) ∧ h = (104, sn_I I 44 17 p s, F)) := by
  refine Ct.ofW kX1_sayNo (ls := [some (ab_r 44), some (ab_r p), some (ab_r 17)]) (Nat.le_of_ble_eq_true rfl) rfl ?_
  refine aw_aload_n dX1_sayNo_0 rfl (by omega) ?_
  refine aw_dup dX1_sayNo_1 rfl ?_
  refine aw_geti dX1_sayNo_2 fX1_130 ⟨by omega, by omega⟩ (sh_p44 hp) rfl ?_
  refine aw_iconst dX1_sayNo_5 ?_
  refine aw_iadd dX1_sayNo_6 ?_
  refine aw_puti dX1_sayNo_7 fX1_130 ⟨by omega, by omega⟩ (sh_p44 hp) rfl ?_
  refine aw_aload_n dX1_sayNo_10 rfl (by omega) ?_
  refine aw_getiv (v := ((I p 3) + 1)) dX1_sayNo_11 fX1_130 ⟨by omega, by omega⟩ (sh_p44 hp) rfl ab_u_s ?_
  refine aw_aload_n dX1_sayNo_14 rfl (by decide) ?_
  refine aw_getiv (v := I 17 1) dX1_sayNo_15 fX1_133 ⟨Nat.le_of_ble_eq_true rfl, Nat.le_of_ble_eq_true rfl⟩ rfl rfl (ab_u_i (by omega)) ?_
  refine aw_icmp_gt (tgt := 23) dX1_sayNo_18 rfl (by first | assumption | (unfold ab_In at *; omega)) (by first | assumption | (unfold ab_In at *; omega)) (fun c_18 => ?_) (fun c_18 => ?_)
  · refine aw_aload_n dX1_sayNo_23 rfl (by decide) ?_
    refine aw_getiv (v := I 17 2) dX1_sayNo_24 fX1_134 ⟨Nat.le_of_ble_eq_true rfl, Nat.le_of_ble_eq_true rfl⟩ rfl rfl (ab_u_i (by omega)) ?_
    refine aw_if_ne (tgt := 47) dX1_sayNo_27 rfl (by first | assumption | (unfold ab_In at *; omega)) (fun c_27 => ?_) (fun c_27 => ?_)
    · refine aw_aload_n dX1_sayNo_47 rfl (by decide) ?_
      refine aw_getiv (v := I 17 2) dX1_sayNo_48 fX1_134 ⟨Nat.le_of_ble_eq_true rfl, Nat.le_of_ble_eq_true rfl⟩ rfl rfl (ab_u_i (by omega)) ?_
      refine aw_iconst dX1_sayNo_51 ?_
      refine aw_icmp_ne (tgt := 83) dX1_sayNo_52 rfl (by first | assumption | (unfold ab_In at *; omega)) (by first | assumption | (unfold ab_In at *; omega)) (fun c_52 => ?_) (fun c_52 => ?_)
      · refine aw_iconst dX1_sayNo_83 ?_
        refine aw_breturn dX1_sayNo_84 rfl (by omega) ?_
        refine ⟨?_, ?_⟩
        · unfold sn_r; (repeat' split) <;> first | rfl | (exfalso; omega)
        · unfold sn_I; (repeat' split) <;> first | rfl | (exfalso; omega)
      · refine aw_aload_n dX1_sayNo_55 rfl (by omega) ?_
        refine aw_aload_n dX1_sayNo_56 rfl (by decide) ?_
        refine aw_getiv (v := I 44 4) dX1_sayNo_57 fX1_24 ⟨Nat.le_of_ble_eq_true rfl, Nat.le_of_ble_eq_true rfl⟩ rfl rfl (ab_u_i (by omega)) ?_
        refine aw_puti dX1_sayNo_60 fX1_103 ⟨by omega, by omega⟩ (sh_p44 hp) rfl ?_
        refine aw_aload_n dX1_sayNo_63 rfl (by decide) ?_
        refine aw_dup dX1_sayNo_64 rfl ?_
        refine aw_getiv (v := I 44 4) dX1_sayNo_65 fX1_24 ⟨Nat.le_of_ble_eq_true rfl, Nat.le_of_ble_eq_true rfl⟩ rfl rfl ((ab_u_i (by omega)).trans (ab_u_i (by omega))) ?_
        refine aw_iconst dX1_sayNo_68 ?_
        refine aw_iadd dX1_sayNo_69 ?_
        refine aw_puti dX1_sayNo_70 fX1_24 ⟨Nat.le_of_ble_eq_true rfl, Nat.le_of_ble_eq_true rfl⟩ rfl rfl ?_
        refine aw_aload_n dX1_sayNo_73 rfl (by omega) ?_
        refine aw_iconst dX1_sayNo_74 ?_
        refine aw_puti dX1_sayNo_75 fX1_100 ⟨by omega, by omega⟩ (sh_p44 hp) rfl ?_
        refine aw_aload_n dX1_sayNo_78 rfl (by omega) ?_
        refine aw_iconst dX1_sayNo_79 ?_
        refine aw_puti dX1_sayNo_80 fX1_130 ⟨by omega, by omega⟩ (sh_p44 hp) rfl ?_
        refine aw_iconst dX1_sayNo_83 ?_
        refine aw_breturn dX1_sayNo_84 rfl (by omega) ?_
        refine ⟨?_, ?_⟩
        · unfold sn_r; (repeat' split) <;> first | rfl | (exfalso; omega)
        · unfold sn_I; (repeat' split) <;> first | rfl | (exfalso; omega)
    · refine aw_aload_n dX1_sayNo_30 rfl (by decide) ?_
      refine aw_getrv (r := 46) dX1_sayNo_31 fX1_32 ⟨Nat.le_of_ble_eq_true rfl, Nat.le_of_ble_eq_true rfl⟩ rfl rfl (hF.at 44 6 46 rfl rfl rfl) ?_
      refine aw_iconst dX1_sayNo_34 ?_
      refine aw_aaldv (r := 50) dX1_sayNo_35 ⟨Nat.le_of_ble_eq_true rfl, Nat.le_of_ble_eq_true rfl⟩ rfl (by decide) (by omega) (by omega) (by decide) (hF.at 46 3 50 rfl rfl rfl) ?_
      refine aw_aload_n dX1_sayNo_36 rfl (by omega) ?_
      refine aw_getiv (v := (s : Int)) dX1_sayNo_37 fX1_97 ⟨by omega, by omega⟩ (sh_p44 hp) rfl ((ab_u_j (by decide)).trans hs) ?_
      refine aw_dup2 dX1_sayNo_40 rfl rfl ?_
      refine aw_ialdq (q := s) (v := I 50 s) dX1_sayNo_41 ⟨Nat.le_of_ble_eq_true rfl, Nat.le_of_ble_eq_true rfl⟩ rfl (by omega) (by omega) (by decide) rfl (ab_u_i (by omega)) ?_
      refine aw_iconst dX1_sayNo_42 ?_
      refine aw_iadd dX1_sayNo_43 ?_
      refine aw_iastv (q := s) dX1_sayNo_44 ⟨Nat.le_of_ble_eq_true rfl, Nat.le_of_ble_eq_true rfl⟩ rfl (by omega) (by omega) (by decide) rfl ?_
      refine aw_iconst dX1_sayNo_45 ?_
      refine aw_breturn dX1_sayNo_46 rfl (by omega) ?_
      refine ⟨?_, ?_⟩
      · unfold sn_r; (repeat' split) <;> first | rfl | (exfalso; omega)
      · unfold sn_I; (repeat' split) <;> first | rfl | (exfalso; omega)
  · refine aw_iconst dX1_sayNo_21 ?_
    refine aw_breturn dX1_sayNo_22 rfl (by omega) ?_
    refine ⟨?_, ?_⟩
    · unfold sn_r; (repeat' split) <;> first | rfl | (exfalso; omega)
    · unfold sn_I; (repeat' split) <;> first | rfl | (exfalso; omega)
set_option maxHeartbeats 4000000 in
set_option maxRecDepth 100000 in
theorem ct_X4_copy (G : ab_G) (I : Nat → Nat → Int) (F : Nat → Nat → Nat) (p q : Nat) (hp : 53 ≤ p ∧ p ≤ 64) (hq : 32 ≤ q ∧ q ≤ 43) : Ct G 0 0 0 YX4_copy [ab_r p, ab_r q] (104, I, F) (fun r h => r = none ∧ h = (104, pt I p (tup I q), F)) := by
  refine Ct.ofW kX4_copy (ls := [some (ab_r p), some (ab_r q)]) (Nat.le_of_ble_eq_true rfl) rfl ?_
  refine aw_aload_n dX4_copy_0 rfl (by omega) ?_
  refine aw_aload_n dX4_copy_1 rfl (by omega) ?_
  refine aw_geti dX4_copy_2 fX4_7 ⟨by omega, by omega⟩ (sh_p23 hq) rfl ?_
  refine aw_puti dX4_copy_5 fX4_7 ⟨by omega, by omega⟩ (sh_p44 hp) rfl ?_
  refine aw_aload_n dX4_copy_8 rfl (by omega) ?_
  refine aw_aload_n dX4_copy_9 rfl (by omega) ?_
  refine aw_getiv (v := I q 1) dX4_copy_10 fX4_13 ⟨by omega, by omega⟩ (sh_p23 hq) rfl (ab_u_i (by omega)) ?_
  refine aw_puti dX4_copy_13 fX4_13 ⟨by omega, by omega⟩ (sh_p44 hp) rfl ?_
  refine aw_aload_n dX4_copy_16 rfl (by omega) ?_
  refine aw_aload_n dX4_copy_17 rfl (by omega) ?_
  refine aw_getiv (v := I q 2) dX4_copy_18 fX4_16 ⟨by omega, by omega⟩ (sh_p23 hq) rfl ((ab_u_i (by omega)).trans (ab_u_i (by omega))) ?_
  refine aw_puti dX4_copy_21 fX4_16 ⟨by omega, by omega⟩ (sh_p44 hp) rfl ?_
  refine aw_aload_n dX4_copy_24 rfl (by omega) ?_
  refine aw_aload_n dX4_copy_25 rfl (by omega) ?_
  refine aw_getiv (v := I q 3) dX4_copy_26 fX4_19 ⟨by omega, by omega⟩ (sh_p23 hq) rfl (((ab_u_i (by omega)).trans (ab_u_i (by omega))).trans (ab_u_i (by omega))) ?_
  refine aw_puti dX4_copy_29 fX4_19 ⟨by omega, by omega⟩ (sh_p44 hp) rfl ?_
  refine aw_aload_n dX4_copy_32 rfl (by omega) ?_
  refine aw_aload_n dX4_copy_33 rfl (by omega) ?_
  refine aw_getiv (v := I q 4) dX4_copy_34 fX4_22 ⟨by omega, by omega⟩ (sh_p23 hq) rfl ((((ab_u_i (by omega)).trans (ab_u_i (by omega))).trans (ab_u_i (by omega))).trans (ab_u_i (by omega))) ?_
  refine aw_puti dX4_copy_37 fX4_22 ⟨by omega, by omega⟩ (sh_p44 hp) rfl ?_
  refine aw_return dX4_copy_40 rfl ?_
  exact ⟨rfl, by rw [pt_all]; rfl⟩
