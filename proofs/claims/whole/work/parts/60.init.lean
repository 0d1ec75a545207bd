theorem clL_7 : Cond.classLink RL 7 RX11 ∈ lw_all := lw_in1 (k := 22) rfl rfl
theorem inX11 : Cond.instantiable RX11 11 ∈ lw_all := lw_in1 (k := 23) rfl rfl
theorem iiX11 : Cond.initialized RX11 ∈ lw_all := lw_in1 (k := 1) rfl rfl
theorem hyX11 : ∀ j, j < 11 → ab_ty 11 j = .int ∨ ab_ty 11 j = .long ∨ ab_tag (ab_ty 11 j) = 1 := by decide +kernel
theorem clX11_7 : Cond.classLink RX11 7 RX10 ∈ lw_all := lw_in1 (k := 30) rfl rfl
theorem inX10 : Cond.instantiable RX10 4 ∈ lw_all := lw_in1 (k := 31) rfl rfl
theorem iiX10 : Cond.initialized RX10 ∈ lw_all := lw_in1 (k := 2) rfl rfl
theorem hyX10 : ∀ j, j < 4 → ab_ty 10 j = .int ∨ ab_ty 10 j = .long ∨ ab_tag (ab_ty 10 j) = 1 := by decide +kernel
theorem clX10_9 : Cond.classLink RX10 9 "[[I" ∈ lw_all := lw_in1 (k := 36) rfl rfl
theorem clX10_20 : Cond.classLink RX10 20 RX6 ∈ lw_all := lw_in1 (k := 38) rfl rfl
theorem inX6 : Cond.instantiable RX6 2 ∈ lw_all := lw_in1 (k := 39) rfl rfl
theorem iiX6 : Cond.initialized RX6 ∈ lw_all := lw_in1 (k := 3) rfl rfl
theorem hyX6 : ∀ j, j < 2 → ab_ty 6 j = .int ∨ ab_ty 6 j = .long ∨ ab_tag (ab_ty 6 j) = 1 := by decide +kernel
theorem ac_int : Cond.arrayClass .int ∈ lw_all := lw_in1 (k := 52) rfl rfl
theorem clX11_16 : Cond.classLink RX11 16 RX7 ∈ lw_all := lw_in1 (k := 80) rfl rfl
theorem inX7 : Cond.instantiable RX7 7 ∈ lw_all := lw_in1 (k := 81) rfl rfl
theorem iiX7 : Cond.initialized RX7 ∈ lw_all := lw_in1 (k := 5) rfl rfl
theorem hyX7 : ∀ j, j < 7 → ab_ty 7 j = .int ∨ ab_ty 7 j = .long ∨ ab_tag (ab_ty 7 j) = 1 := by decide +kernel
theorem clX11_26 : Cond.classLink RX11 26 RX9 ∈ lw_all := lw_in1 (k := 131) rfl rfl
theorem inX9 : Cond.instantiable RX9 6 ∈ lw_all := lw_in1 (k := 132) rfl rfl
theorem iiX9 : Cond.initialized RX9 ∈ lw_all := lw_in1 (k := 6) rfl rfl
theorem hyX9 : ∀ j, j < 6 → ab_ty 9 j = .int ∨ ab_ty 9 j = .long ∨ ab_tag (ab_ty 9 j) = 1 := by decide +kernel
theorem ac_char : Cond.arrayClass .char ∈ lw_all := lw_in1 (k := 158) rfl rfl
theorem clX11_33 : Cond.classLink RX11 33 RX1 ∈ lw_all := lw_in1 (k := 159) rfl rfl
theorem inX1 : Cond.instantiable RX1 7 ∈ lw_all := lw_in1 (k := 160) rfl rfl
theorem iiX1 : Cond.initialized RX1 ∈ lw_all := lw_in1 (k := 7) rfl rfl
theorem hyX1 : ∀ j, j < 7 → ab_ty 1 j = .int ∨ ab_ty 1 j = .long ∨ ab_tag (ab_ty 1 j) = 1 := by decide +kernel
theorem clX1_9 : Cond.classLink RX1 9 "ThreeOffers$Person" ∈ lw_all := lw_in1 (k := 165) rfl rfl
theorem clX1_30 : Cond.classLink RX1 30 "[[I" ∈ lw_all := lw_in1 (k := 167) rfl rfl
theorem inX4 : Cond.instantiable RX4 5 ∈ lw_all := lw_in1 (k := 168) rfl rfl
theorem iiX4 : Cond.initialized RX4 ∈ lw_all := lw_in1 (k := 8) rfl rfl
theorem hyX4 : ∀ j, j < 5 → ab_ty 4 j = .int ∨ ab_ty 4 j = .long ∨ ab_tag (ab_ty 4 j) = 1 := by decide +kernel
theorem clX11_45 : Cond.classLink RX11 45 RX5 ∈ lw_all := lw_in1 (k := 230) rfl rfl
theorem inX5 : Cond.instantiable RX5 6 ∈ lw_all := lw_in1 (k := 231) rfl rfl
theorem iiX5 : Cond.initialized RX5 ∈ lw_all := lw_in1 (k := 9) rfl rfl
theorem hyX5 : ∀ j, j < 6 → ab_ty 5 j = .int ∨ ab_ty 5 j = .long ∨ ab_tag (ab_ty 5 j) = 1 := by decide +kernel
theorem clX5_15 : Cond.classLink RX5 15 "[[I" ∈ lw_all := lw_in1 (k := 236) rfl rfl
theorem clX11_52 : Cond.classLink RX11 52 RX3 ∈ lw_all := lw_in2 (k := 18) rfl rfl
theorem inX3 : Cond.instantiable RX3 4 ∈ lw_all := lw_in2 (k := 19) rfl rfl
theorem iiX3 : Cond.initialized RX3 ∈ lw_all := lw_in1 (k := 10) rfl rfl
theorem hyX3 : ∀ j, j < 4 → ab_ty 3 j = .int ∨ ab_ty 3 j = .long ∨ ab_tag (ab_ty 3 j) = 1 := by decide +kernel
theorem clX11_59 : Cond.classLink RX11 59 RX2 ∈ lw_all := lw_in2 (k := 37) rfl rfl
theorem inX2 : Cond.instantiable RX2 4 ∈ lw_all := lw_in2 (k := 38) rfl rfl
theorem iiX2 : Cond.initialized RX2 ∈ lw_all := lw_in1 (k := 11) rfl rfl
theorem hyX2 : ∀ j, j < 4 → ab_ty 2 j = .int ∨ ab_ty 2 j = .long ∨ ab_tag (ab_ty 2 j) = 1 := by decide +kernel
theorem clX11_66 : Cond.classLink RX11 66 RX8 ∈ lw_all := lw_in2 (k := 61) rfl rfl
theorem inX8 : Cond.instantiable RX8 3 ∈ lw_all := lw_in2 (k := 62) rfl rfl
theorem iiX8 : Cond.initialized RX8 ∈ lw_all := lw_in1 (k := 12) rfl rfl
theorem hyX8 : ∀ j, j < 3 → ab_ty 8 j = .int ∨ ab_ty 8 j = .long ∨ ab_tag (ab_ty 8 j) = 1 := by decide +kernel
theorem clX11_75 : Cond.classLink RX11 75 RX0 ∈ lw_all := lw_in2 (k := 79) rfl rfl
theorem inX0 : Cond.instantiable RX0 4 ∈ lw_all := lw_in2 (k := 80) rfl rfl
theorem iiX0 : Cond.initialized RX0 ∈ lw_all := lw_in1 (k := 13) rfl rfl
theorem hyX0 : ∀ j, j < 4 → ab_ty 0 j = .int ∨ ab_ty 0 j = .long ∨ ab_tag (ab_ty 0 j) = 1 := by decide +kernel
theorem ac_byte : Cond.arrayClass .byte ∈ lw_all := lw_in3 (k := 123) rfl rfl
theorem clL_10 : Cond.classLink RL 10 RX12 ∈ lw_all := lw_in4 (k := 75) rfl rfl
theorem inX12 : Cond.instantiable RX12 32 ∈ lw_all := lw_in4 (k := 76) rfl rfl
theorem iiX12 : Cond.initialized RX12 ∈ lw_all := lw_in1 (k := 14) rfl rfl
theorem hyX12 : ∀ j, j < 32 → ab_ty 12 j = .int ∨ ab_ty 12 j = .long ∨ ab_tag (ab_ty 12 j) = 1 := by decide +kernel
theorem ac_boolean : Cond.arrayClass .boolean ∈ lw_all := lw_in4 (k := 181) rfl rfl
theorem oi_in : Cond.instanceMethod objectInit ∈ lw_all := lw_in1 (k := 28) rfl rfl
theorem oi_co : Cond.code objectInit ⟨#[0xb1]⟩ 1 none ∈ lw_all := lw_in1 (k := 29) rfl rfl
theorem rw_wx (F : Nat → Nat → Nat) (a b i : Nat) : ab_w (rw_ F a (fun j => if j < i then b + j else 0)) a i (b + i) = rw_ F a (fun j => if j < i + 1 then b + j else 0) := by
  funext x y
  unfold ab_w rw_
  by_cases e : x = a
  · by_cases e2 : y = i
    · rw [if_pos ⟨e, e2⟩, if_pos e]; show b + i = if y < i + 1 then b + y else 0; rw [if_pos (by omega), e2]
    · rw [if_neg (fun q => e2 q.2), if_pos e, if_pos e]
      show (if y < i then b + y else 0) = if y < i + 1 then b + y else 0
      by_cases e3 : y < i
      · rw [if_pos e3, if_pos (by omega)]
      · rw [if_neg e3, if_neg (by omega)]
  · rw [if_neg (fun q => e q.1), if_neg e, if_neg e]
theorem rw_0 {F : Nat → Nat → Nat} {a b : Nat} (h : ∀ j, F a j = 0) : rw_ F a (fun j => if j < 0 then b + j else 0) = F := by
  funext x y
  unfold rw_
  by_cases e : x = a
  · rw [if_pos e, e, h]; exact if_neg (by omega)
  · rw [if_neg e]
def zA (r : Nat) (I : Nat → Nat → Int) (F : Nat → Nat → Nat) : Prop := (∀ i j, r ≤ i → I i j = 0) ∧ ∀ i j, r ≤ i → F i j = 0
set_option maxHeartbeats 4000000 in
set_option maxRecDepth 100000 in
theorem ct_X4_init (G : ab_G) (h0 : ab_H) (b : Nat) (hb : ¬ b = 0) : Ct G 1 0 0 YX4_init [ab_r b] h0 (fun r h => r = none ∧ h = h0) := by
  refine Ct.ofW kX4_init (ls := [some (ab_r b)]) (Nat.le_of_ble_eq_true rfl) rfl ?_
  refine aw_aload_n dX4_init_0 rfl (by omega) ?_
  refine aw_objInit dX4_init_1 lX4_1 oi_in oi_co (by omega) (Nat.le_of_ble_eq_true rfl) (by decide) (by decide) ?_
  refine aw_return dX4_init_4 rfl ?_
  exact ⟨rfl, rfl⟩
set_option maxHeartbeats 4000000 in
set_option maxRecDepth 100000 in
theorem ct_X6_init_9 (G : ab_G) (I : Nat → Nat → Int) (F : Nat → Nat → Nat) (hz : zA 9 I F)  : Ct G 1 1 24 YX6_init [ab_r 9] (9, I, F) (fun q h => q = none ∧ h = (10, I, ab_w (F) 9 0 10)) := by
  refine Ct.ofW kX6_init (ls := [some (ab_r 9)]) (Nat.le_of_ble_eq_true rfl) rfl ?_
  refine aw_aload_n dX6_init_0 rfl (by decide) ?_
  refine aw_objInit dX6_init_1 lX6_3 oi_in oi_co (by omega) (Nat.le_of_ble_eq_true rfl) (by decide) (by decide) ?_
  refine aw_aload_n dX6_init_4 rfl (by decide) ?_
  refine aw_bipush dX6_init_5 rfl ?_
  refine aw_newarr (q := 0) (k := 20) dX6_init_7 rfl ac_int rfl (fun _ _ h9 => h9) rfl (by decide) rfl rfl (by decide) (fun j => by exact hz.1 _ j (by omega)) (fun j => by exact hz.2 _ j (by omega)) (by decide) rfl (by decide) (by decide) (by decide) ?_
  refine aw_putF dX6_init_9 fX6_9 ⟨Nat.le_of_ble_eq_true rfl, Nat.le_of_ble_eq_true rfl⟩ rfl rfl rfl ⟨_, _, rfl⟩ ?_
  refine aw_aload_n dX6_init_12 rfl (by decide) ?_
  refine aw_iconst dX6_init_13 ?_
  refine aw_puti dX6_init_14 fX6_15 ⟨Nat.le_of_ble_eq_true rfl, Nat.le_of_ble_eq_true rfl⟩ rfl rfl ?_
  refine aw_return dX6_init_17 rfl ?_
  refine ⟨rfl, ?_⟩
  (try simp only [ab_u_id I 9 1 (hz.1 9 1 (by omega)).symm])
  all_goals rfl
set_option maxHeartbeats 4000000 in
set_option maxRecDepth 100000 in
theorem ct_X6_init_11 (G : ab_G) (I : Nat → Nat → Int) (F : Nat → Nat → Nat) (hz : zA 11 I F)  : Ct G 1 1 24 YX6_init [ab_r 11] (11, I, F) (fun q h => q = none ∧ h = (12, I, ab_w (F) 11 0 12)) := by
  refine Ct.ofW kX6_init (ls := [some (ab_r 11)]) (Nat.le_of_ble_eq_true rfl) rfl ?_
  refine aw_aload_n dX6_init_0 rfl (by decide) ?_
  refine aw_objInit dX6_init_1 lX6_3 oi_in oi_co (by omega) (Nat.le_of_ble_eq_true rfl) (by decide) (by decide) ?_
  refine aw_aload_n dX6_init_4 rfl (by decide) ?_
  refine aw_bipush dX6_init_5 rfl ?_
  refine aw_newarr (q := 0) (k := 20) dX6_init_7 rfl ac_int rfl (fun _ _ h9 => h9) rfl (by decide) rfl rfl (by decide) (fun j => by exact hz.1 _ j (by omega)) (fun j => by exact hz.2 _ j (by omega)) (by decide) rfl (by decide) (by decide) (by decide) ?_
  refine aw_putF dX6_init_9 fX6_9 ⟨Nat.le_of_ble_eq_true rfl, Nat.le_of_ble_eq_true rfl⟩ rfl rfl rfl ⟨_, _, rfl⟩ ?_
  refine aw_aload_n dX6_init_12 rfl (by decide) ?_
  refine aw_iconst dX6_init_13 ?_
  refine aw_puti dX6_init_14 fX6_15 ⟨Nat.le_of_ble_eq_true rfl, Nat.le_of_ble_eq_true rfl⟩ rfl rfl ?_
  refine aw_return dX6_init_17 rfl ?_
  refine ⟨rfl, ?_⟩
  (try simp only [ab_u_id I 11 1 (hz.1 11 1 (by omega)).symm])
  all_goals rfl
set_option maxHeartbeats 4000000 in
set_option maxRecDepth 100000 in
theorem ct_X9_init (G : ab_G) (I : Nat → Nat → Int) (F : Nat → Nat → Nat) (hz : zA 21 I F)  : Ct G 1 1 160 YX9_init [ab_r 21] (21, I, F) (fun q h => q = none ∧ h = (22, I, ab_w (F) 21 0 22)) := by
  refine Ct.ofW kX9_init (ls := [some (ab_r 21)]) (Nat.le_of_ble_eq_true rfl) rfl ?_
  refine aw_aload_n dX9_init_0 rfl (by decide) ?_
  refine aw_objInit dX9_init_1 lX9_3 oi_in oi_co (by omega) (Nat.le_of_ble_eq_true rfl) (by decide) (by decide) ?_
  refine aw_aload_n dX9_init_4 rfl (by decide) ?_
  refine aw_sipush dX9_init_5 rfl ?_
  refine aw_newarr (q := 1) (k := 21) dX9_init_8 rfl ac_char rfl (fun _ _ h9 => h9) rfl (by decide) rfl rfl (by decide) (fun j => by exact hz.1 _ j (by omega)) (fun j => by exact hz.2 _ j (by omega)) (by decide) rfl (by decide) (by decide) (by decide) ?_
  refine aw_putF dX9_init_10 fX9_9 ⟨Nat.le_of_ble_eq_true rfl, Nat.le_of_ble_eq_true rfl⟩ rfl rfl rfl ⟨_, _, rfl⟩ ?_
  refine aw_aload_n dX9_init_13 rfl (by decide) ?_
  refine aw_iconst dX9_init_14 ?_
  refine aw_puti dX9_init_15 fX9_15 ⟨Nat.le_of_ble_eq_true rfl, Nat.le_of_ble_eq_true rfl⟩ rfl rfl ?_
  refine aw_aload_n dX9_init_18 rfl (by decide) ?_
  refine aw_iconst dX9_init_19 ?_
  refine aw_puti dX9_init_20 fX9_19 ⟨Nat.le_of_ble_eq_true rfl, Nat.le_of_ble_eq_true rfl⟩ rfl rfl ?_
  refine aw_return dX9_init_23 rfl ?_
  refine ⟨rfl, ?_⟩
  (try simp only [ab_u_id I 21 1 (hz.1 21 1 (by omega)).symm, ab_u_id I 21 2 (hz.1 21 2 (by omega)).symm])
  all_goals rfl
set_option maxHeartbeats 4000000 in
set_option maxRecDepth 100000 in
theorem ct_X3_init (G : ab_G) (I : Nat → Nat → Int) (F : Nat → Nat → Nat) (hz : zA 73 I F)  : Ct G 1 2 10 YX3_init [ab_r 73, ab_r 2] (73, I, F) (fun q h => q = none ∧ h = (75, I, ab_w (ab_w (ab_w (F) 73 1 74) 73 3 75) 73 0 2)) := by
  refine Ct.ofW kX3_init (ls := [some (ab_r 73), some (ab_r 2)]) (Nat.le_of_ble_eq_true rfl) rfl ?_
  refine aw_aload_n dX3_init_0 rfl (by decide) ?_
  refine aw_objInit dX3_init_1 lX3_3 oi_in oi_co (by omega) (Nat.le_of_ble_eq_true rfl) (by decide) (by decide) ?_
  refine aw_aload_n dX3_init_4 rfl (by decide) ?_
  refine aw_bipush dX3_init_5 rfl ?_
  refine aw_newarr (q := 0) (k := 20) dX3_init_7 rfl ac_int rfl (fun _ _ h9 => h9) rfl (by decide) rfl rfl (by decide) (fun j => by exact hz.1 _ j (by omega)) (fun j => by exact hz.2 _ j (by omega)) (by decide) rfl (by decide) (by decide) (by decide) ?_
  refine aw_putF dX3_init_9 fX3_9 ⟨Nat.le_of_ble_eq_true rfl, Nat.le_of_ble_eq_true rfl⟩ rfl rfl rfl ⟨_, _, rfl⟩ ?_
  refine aw_aload_n dX3_init_12 rfl (by decide) ?_
  refine aw_iconst dX3_init_13 ?_
  refine aw_puti dX3_init_14 fX3_15 ⟨Nat.le_of_ble_eq_true rfl, Nat.le_of_ble_eq_true rfl⟩ rfl rfl ?_
  refine aw_aload_n dX3_init_17 rfl (by decide) ?_
  refine aw_iconst dX3_init_18 ?_
  refine aw_newarr (q := 0) (k := 20) dX3_init_19 rfl ac_int rfl (fun _ _ h9 => h9) rfl (by decide) rfl rfl (by decide) (fun j => by rw [ab_u_i (by omega)]; exact hz.1 _ j (by omega)) (fun j => by rw [ab_w_i (by omega)]; exact hz.2 _ j (by omega)) (by decide) rfl (by decide) (by decide) (by decide) ?_
  refine aw_putF dX3_init_21 fX3_19 ⟨Nat.le_of_ble_eq_true rfl, Nat.le_of_ble_eq_true rfl⟩ rfl rfl rfl ⟨_, _, rfl⟩ ?_
  refine aw_aload_n dX3_init_24 rfl (by decide) ?_
  refine aw_aload_n dX3_init_25 rfl (by decide) ?_
  refine aw_putF dX3_init_26 fX3_22 ⟨Nat.le_of_ble_eq_true rfl, Nat.le_of_ble_eq_true rfl⟩ rfl rfl rfl ⟨_, _, rfl⟩ ?_
  refine aw_return dX3_init_29 rfl ?_
  refine ⟨rfl, ?_⟩
  (try simp only [ab_u_id I 73 2 (hz.1 73 2 (by omega)).symm])
  all_goals rfl
set_option maxHeartbeats 4000000 in
set_option maxRecDepth 100000 in
theorem ct_X2_init (G : ab_G) (I : Nat → Nat → Int) (F : Nat → Nat → Nat) (hz : zA 76 I F)  : Ct G 1 2 16 YX2_init [ab_r 76, ab_r 2] (76, I, F) (fun q h => q = none ∧ h = (78, I, ab_w (ab_w (ab_w (F) 76 1 77) 76 2 78) 76 0 2)) := by
  refine Ct.ofW kX2_init (ls := [some (ab_r 76), some (ab_r 2)]) (Nat.le_of_ble_eq_true rfl) rfl ?_
  refine aw_aload_n dX2_init_0 rfl (by decide) ?_
  refine aw_objInit dX2_init_1 lX2_3 oi_in oi_co (by omega) (Nat.le_of_ble_eq_true rfl) (by decide) (by decide) ?_
  refine aw_aload_n dX2_init_4 rfl (by decide) ?_
  refine aw_bipush dX2_init_5 rfl ?_
  refine aw_newarr (q := 0) (k := 20) dX2_init_7 rfl ac_int rfl (fun _ _ h9 => h9) rfl (by decide) rfl rfl (by decide) (fun j => by exact hz.1 _ j (by omega)) (fun j => by exact hz.2 _ j (by omega)) (by decide) rfl (by decide) (by decide) (by decide) ?_
  refine aw_putF dX2_init_9 fX2_9 ⟨Nat.le_of_ble_eq_true rfl, Nat.le_of_ble_eq_true rfl⟩ rfl rfl rfl ⟨_, _, rfl⟩ ?_
  refine aw_aload_n dX2_init_12 rfl (by decide) ?_
  refine aw_bipush dX2_init_13 rfl ?_
  refine aw_newarr (q := 0) (k := 20) dX2_init_15 rfl ac_int rfl (fun _ _ h9 => h9) rfl (by decide) rfl rfl (by decide) (fun j => by exact hz.1 _ j (by omega)) (fun j => by rw [ab_w_i (by omega)]; exact hz.2 _ j (by omega)) (by decide) rfl (by decide) (by decide) (by decide) ?_
  refine aw_putF dX2_init_17 fX2_15 ⟨Nat.le_of_ble_eq_true rfl, Nat.le_of_ble_eq_true rfl⟩ rfl rfl rfl ⟨_, _, rfl⟩ ?_
  refine aw_aload_n dX2_init_20 rfl (by decide) ?_
  refine aw_iconst dX2_init_21 ?_
  refine aw_puti dX2_init_22 fX2_18 ⟨Nat.le_of_ble_eq_true rfl, Nat.le_of_ble_eq_true rfl⟩ rfl rfl ?_
  refine aw_aload_n dX2_init_25 rfl (by decide) ?_
  refine aw_aload_n dX2_init_26 rfl (by decide) ?_
  refine aw_putF dX2_init_27 fX2_22 ⟨Nat.le_of_ble_eq_true rfl, Nat.le_of_ble_eq_true rfl⟩ rfl rfl rfl ⟨_, _, rfl⟩ ?_
  refine aw_return dX2_init_30 rfl ?_
  refine ⟨rfl, ?_⟩
  (try simp only [ab_u_id I 76 3 (hz.1 76 3 (by omega)).symm])
  all_goals rfl
set_option maxHeartbeats 4000000 in
set_option maxRecDepth 100000 in
theorem ct_X8_init (G : ab_G) (I : Nat → Nat → Int) (F : Nat → Nat → Nat) (hz : zA 79 I F)  : Ct G 1 1 8 YX8_init [ab_r 79, ab_r 76] (79, I, F) (fun q h => q = none ∧ h = (80, I, ab_w (ab_w (F) 79 1 80) 79 0 76)) := by
  refine Ct.ofW kX8_init (ls := [some (ab_r 79), some (ab_r 76)]) (Nat.le_of_ble_eq_true rfl) rfl ?_
  refine aw_aload_n dX8_init_0 rfl (by decide) ?_
  refine aw_objInit dX8_init_1 lX8_3 oi_in oi_co (by omega) (Nat.le_of_ble_eq_true rfl) (by decide) (by decide) ?_
  refine aw_aload_n dX8_init_4 rfl (by decide) ?_
  refine aw_bipush dX8_init_5 rfl ?_
  refine aw_newarr (q := 0) (k := 20) dX8_init_7 rfl ac_int rfl (fun _ _ h9 => h9) rfl (by decide) rfl rfl (by decide) (fun j => by exact hz.1 _ j (by omega)) (fun j => by exact hz.2 _ j (by omega)) (by decide) rfl (by decide) (by decide) (by decide) ?_
  refine aw_putF dX8_init_9 fX8_9 ⟨Nat.le_of_ble_eq_true rfl, Nat.le_of_ble_eq_true rfl⟩ rfl rfl rfl ⟨_, _, rfl⟩ ?_
  refine aw_aload_n dX8_init_12 rfl (by decide) ?_
  refine aw_iconst dX8_init_13 ?_
  refine aw_puti dX8_init_14 fX8_15 ⟨Nat.le_of_ble_eq_true rfl, Nat.le_of_ble_eq_true rfl⟩ rfl rfl ?_
  refine aw_aload_n dX8_init_17 rfl (by decide) ?_
  refine aw_aload_n dX8_init_18 rfl (by decide) ?_
  refine aw_putF dX8_init_19 fX8_19 ⟨Nat.le_of_ble_eq_true rfl, Nat.le_of_ble_eq_true rfl⟩ rfl rfl rfl ⟨_, _, rfl⟩ ?_
  refine aw_return dX8_init_22 rfl ?_
  refine ⟨rfl, ?_⟩
  (try simp only [ab_u_id I 79 2 (hz.1 79 2 (by omega)).symm])
  all_goals rfl
set_option maxHeartbeats 4000000 in
set_option maxRecDepth 100000 in
theorem ct_X0_init (G : ab_G) (I : Nat → Nat → Int) (F : Nat → Nat → Nat) (hz : zA 81 I F)  : Ct G 1 2 16 YX0_init [ab_r 81, ab_r 76] (81, I, F) (fun q h => q = none ∧ h = (83, I, ab_w (ab_w (ab_w (F) 81 1 82) 81 2 83) 81 0 76)) := by
  refine Ct.ofW kX0_init (ls := [some (ab_r 81), some (ab_r 76)]) (Nat.le_of_ble_eq_true rfl) rfl ?_
  refine aw_aload_n dX0_init_0 rfl (by decide) ?_
  refine aw_objInit dX0_init_1 lX0_3 oi_in oi_co (by omega) (Nat.le_of_ble_eq_true rfl) (by decide) (by decide) ?_
  refine aw_aload_n dX0_init_4 rfl (by decide) ?_
  refine aw_bipush dX0_init_5 rfl ?_
  refine aw_newarr (q := 0) (k := 20) dX0_init_7 rfl ac_int rfl (fun _ _ h9 => h9) rfl (by decide) rfl rfl (by decide) (fun j => by exact hz.1 _ j (by omega)) (fun j => by exact hz.2 _ j (by omega)) (by decide) rfl (by decide) (by decide) (by decide) ?_
  refine aw_putF dX0_init_9 fX0_9 ⟨Nat.le_of_ble_eq_true rfl, Nat.le_of_ble_eq_true rfl⟩ rfl rfl rfl ⟨_, _, rfl⟩ ?_
  refine aw_aload_n dX0_init_12 rfl (by decide) ?_
  refine aw_bipush dX0_init_13 rfl ?_
  refine aw_newarr (q := 0) (k := 20) dX0_init_15 rfl ac_int rfl (fun _ _ h9 => h9) rfl (by decide) rfl rfl (by decide) (fun j => by exact hz.1 _ j (by omega)) (fun j => by rw [ab_w_i (by omega)]; exact hz.2 _ j (by omega)) (by decide) rfl (by decide) (by decide) (by decide) ?_
  refine aw_putF dX0_init_17 fX0_15 ⟨Nat.le_of_ble_eq_true rfl, Nat.le_of_ble_eq_true rfl⟩ rfl rfl rfl ⟨_, _, rfl⟩ ?_
  refine aw_aload_n dX0_init_20 rfl (by decide) ?_
  refine aw_iconst dX0_init_21 ?_
  refine aw_puti dX0_init_22 fX0_18 ⟨Nat.le_of_ble_eq_true rfl, Nat.le_of_ble_eq_true rfl⟩ rfl rfl ?_
  refine aw_aload_n dX0_init_25 rfl (by decide) ?_
  refine aw_aload_n dX0_init_26 rfl (by decide) ?_
  refine aw_putF dX0_init_27 fX0_22 ⟨Nat.le_of_ble_eq_true rfl, Nat.le_of_ble_eq_true rfl⟩ rfl rfl rfl ⟨_, _, rfl⟩ ?_
  refine aw_return dX0_init_30 rfl ?_
  refine ⟨rfl, ?_⟩
  (try simp only [ab_u_id I 81 3 (hz.1 81 3 (by omega)).symm])
  all_goals rfl
set_option maxHeartbeats 4000000 in
set_option maxRecDepth 100000 in
theorem ct_X5_init (G : ab_G) (I : Nat → Nat → Int) (F : Nat → Nat → Nat) (hz : zA 65 I F)  : Ct G 1 7 3149 YX5_init [ab_r 65, ab_r 2] (65, I, F) (fun q h => q = none ∧ h = (72, I, ab_w (ab_w (ab_w (rw_ (ab_w (F) 65 1 66) 67 (fun j => if j < 4 then 66 + 2 + j else 0)) 65 2 67) 65 3 72) 65 0 2)) := by
  refine Ct.ofW kX5_init (ls := [some (ab_r 65), some (ab_r 2)]) (Nat.le_of_ble_eq_true rfl) rfl ?_
  refine aw_aload_n dX5_init_0 rfl (by decide) ?_
  refine aw_objInit dX5_init_1 lX5_3 oi_in oi_co (by omega) (Nat.le_of_ble_eq_true rfl) (by decide) (by decide) ?_
  refine aw_aload_n dX5_init_4 rfl (by decide) ?_
  refine aw_sipush dX5_init_5 rfl ?_
  refine aw_newarr (q := 0) (k := 20) dX5_init_8 rfl ac_int rfl (fun _ _ h9 => h9) rfl (by decide) rfl rfl (by decide) (fun j => by exact hz.1 _ j (by omega)) (fun j => by exact hz.2 _ j (by omega)) (by decide) rfl (by decide) (by decide) (by decide) ?_
  refine aw_putF dX5_init_10 fX5_9 ⟨Nat.le_of_ble_eq_true rfl, Nat.le_of_ble_eq_true rfl⟩ rfl rfl rfl ⟨_, _, rfl⟩ ?_
  refine aw_aload_n dX5_init_13 rfl (by decide) ?_
  refine aw_iconst dX5_init_14 ?_
  refine aw_iconst dX5_init_15 ?_
  refine aw_multi (N := 4) (M := 5) dX5_init_16 clX5_15 rfl (by decide) (by decide) (fun i j hi => by exact hz.1 i j (by omega)) (by decide) (by decide) rfl rfl (by decide) (by decide) (by decide) (by decide) ?_
  refine aw_putF dX5_init_20 fX5_17 ⟨Nat.le_of_ble_eq_true rfl, Nat.le_of_ble_eq_true rfl⟩ rfl rfl rfl ⟨_, _, rfl⟩ ?_
  refine aw_aload_n dX5_init_23 rfl (by decide) ?_
  refine aw_sipush dX5_init_24 rfl ?_
  refine aw_newarr (q := 0) (k := 20) dX5_init_27 rfl ac_int rfl (fun _ _ h9 => h9) rfl (by decide) rfl rfl (by decide) (fun j => by exact hz.1 _ j (by omega)) (fun j => by rw [ab_w_i (by omega), rw_n (by omega), ab_w_i (by omega)]; exact hz.2 _ j (by omega)) (by decide) rfl (by decide) (by decide) (by decide) ?_
  refine aw_putF dX5_init_29 fX5_20 ⟨Nat.le_of_ble_eq_true rfl, Nat.le_of_ble_eq_true rfl⟩ rfl rfl rfl ⟨_, _, rfl⟩ ?_
  refine aw_aload_n dX5_init_32 rfl (by decide) ?_
  refine aw_iconst dX5_init_33 ?_
  refine aw_puti dX5_init_34 fX5_23 ⟨Nat.le_of_ble_eq_true rfl, Nat.le_of_ble_eq_true rfl⟩ rfl rfl ?_
  refine aw_aload_n dX5_init_37 rfl (by decide) ?_
  refine aw_iconst dX5_init_38 ?_
  refine aw_puti dX5_init_39 fX5_27 ⟨Nat.le_of_ble_eq_true rfl, Nat.le_of_ble_eq_true rfl⟩ rfl rfl ?_
  refine aw_aload_n dX5_init_42 rfl (by decide) ?_
  refine aw_aload_n dX5_init_43 rfl (by decide) ?_
  refine aw_putF dX5_init_44 fX5_30 ⟨Nat.le_of_ble_eq_true rfl, Nat.le_of_ble_eq_true rfl⟩ rfl rfl rfl ⟨_, _, rfl⟩ ?_
  refine aw_return dX5_init_47 rfl ?_
  refine ⟨rfl, ?_⟩
  (try simp only [ab_u_id I 65 4 (hz.1 65 4 (by omega)).symm, ab_u_id I 65 5 (hz.1 65 5 (by omega)).symm])
  all_goals rfl
set_option maxHeartbeats 4000000 in
set_option maxRecDepth 100000 in
theorem ct_X7_sw_13 (G : ab_G) (I : Nat → Nat → Int) (F : Nat → Nat → Nat) (hf4 : F 13 4 = 14) (hf5 : F 13 5 = 15) (hf6 : F 13 6 = 16) (s : Nat) (a b c : Int) (hs : s < 4) : Ct G 0 0 0 YX7_setWay [ab_r 13, ab_i (s : Int), ab_i a, ab_i b, ab_i c] (16, I, F) (fun r h => r = none ∧ h = (16, ab_u (ab_u (ab_u I 14 s a) 15 s b) 16 s c, F)) := by
  refine Ct.ofW kX7_setWay (ls := [some (ab_r 13), some (ab_i (s : Int)), some (ab_i a), some (ab_i b), some (ab_i c)]) (Nat.le_of_ble_eq_true rfl) rfl ?_
  refine aw_aload_n dX7_setWay_0 rfl (by decide) ?_
  refine aw_getrv (r := 14) dX7_setWay_1 fX7_9 ⟨Nat.le_of_ble_eq_true rfl, Nat.le_of_ble_eq_true rfl⟩ rfl rfl hf4 ?_
  refine aw_iload_n dX7_setWay_4 rfl ?_
  refine aw_iload_n dX7_setWay_5 rfl ?_
  refine aw_iastv (q := s) dX7_setWay_6 ⟨Nat.le_of_ble_eq_true rfl, Nat.le_of_ble_eq_true rfl⟩ rfl (by omega) (by omega) (by decide) rfl ?_
  refine aw_aload_n dX7_setWay_7 rfl (by decide) ?_
  refine aw_getrv (r := 15) dX7_setWay_8 fX7_15 ⟨Nat.le_of_ble_eq_true rfl, Nat.le_of_ble_eq_true rfl⟩ rfl rfl hf5 ?_
  refine aw_iload_n dX7_setWay_11 rfl ?_
  refine aw_iload_n dX7_setWay_12 rfl ?_
  refine aw_iastv (q := s) dX7_setWay_13 ⟨Nat.le_of_ble_eq_true rfl, Nat.le_of_ble_eq_true rfl⟩ rfl (by omega) (by omega) (by decide) rfl ?_
  refine aw_aload_n dX7_setWay_14 rfl (by decide) ?_
  refine aw_getrv (r := 16) dX7_setWay_15 fX7_18 ⟨Nat.le_of_ble_eq_true rfl, Nat.le_of_ble_eq_true rfl⟩ rfl rfl hf6 ?_
  refine aw_iload_n dX7_setWay_18 rfl ?_
  refine aw_iload dX7_setWay_19 rfl ?_
  refine aw_iastv (q := s) dX7_setWay_21 ⟨Nat.le_of_ble_eq_true rfl, Nat.le_of_ble_eq_true rfl⟩ rfl (by omega) (by omega) (by decide) rfl ?_
  refine aw_return dX7_setWay_22 rfl ?_
  exact ⟨rfl, rfl⟩
set_option maxHeartbeats 4000000 in
set_option maxRecDepth 100000 in
theorem ct_X7_saf_13 (G : ab_G) (I : Nat → Nat → Int) (F : Nat → Nat → Nat) (hf4 : F 13 4 = 14) (hf5 : F 13 5 = 15) (hf6 : F 13 6 = 16) : Ct G 1 0 0 YX7_setAsAtFirst [ab_r 13] (16, I, F) (fun q h => q = none ∧ ∃ J : Nat → Nat → Int, h = (16, J, F) ∧ (J 13 0 = 0 ∧ J 13 1 = 2 ∧ J 13 2 = 0 ∧ J 13 3 = 1) ∧ (∀ s, s < 4 → J 14 s = 0 ∧ J 15 s = 0 ∧ J 16 s = 0) ∧ (∀ i b, ¬ (13 ≤ i ∧ i ≤ 16) → J i b = I i b)) := by
  refine Ct.ofW kX7_setAsAtFirst (ls := [some (ab_r 13), none]) (Nat.le_of_ble_eq_true rfl) rfl ?_
  generalize hZ : ab_Z G (fun q h => q = none ∧ ∃ J : Nat → Nat → Int, h = (16, J, F) ∧ (J 13 0 = 0 ∧ J 13 1 = 2 ∧ J 13 2 = 0 ∧ J 13 3 = 1) ∧ (∀ s, s < 4 → J 14 s = 0 ∧ J 15 s = 0 ∧ J 16 s = 0) ∧ (∀ i b, ¬ (13 ≤ i ∧ i ≤ 16) → J i b = I i b)) 0 0 = Z
  have lp : ∀ (d s : Nat) (J : Nat → Nat → Int), s + d = 4 → (J 13 0 = 0 ∧ J 13 1 = 2 ∧ J 13 2 = 0 ∧ J 13 3 = 1) → (∀ q, q < s → J 14 q = 0 ∧ J 15 q = 0 ∧ J 16 q = 0) → (∀ i b, ¬ (13 ≤ i ∧ i ≤ 16) → J i b = I i b) → aW G YX7_setAsAtFirst (ab_rm 1 0 0) Z 0 0 (16, J, F) 22 [some (ab_r 13), some (ab_i (s : Int))] [] := by
    intro d
    induction d with
    | zero =>
      intro s J hs h1 h2 h3
      refine aw_iload_n dX7_setAsAtFirst_22 rfl ?_
      refine aw_iconst dX7_setAsAtFirst_23 ?_
      refine aw_icmp_ge (tgt := 41) dX7_setAsAtFirst_24 rfl (by first | assumption | (unfold ab_In at *; omega)) (by first | assumption | (unfold ab_In at *; omega)) (fun c_24 => ?_) (fun c_24 => ?_)
      · rw [← hZ]
        refine aw_return dX7_setAsAtFirst_41 rfl ?_
        exact ⟨rfl, J, rfl, h1, fun q hq => h2 q (by omega), h3⟩
      · exfalso; omega
    | succ d ih =>
      intro s J hs h1 h2 h3
      refine aw_iload_n dX7_setAsAtFirst_22 rfl ?_
      refine aw_iconst dX7_setAsAtFirst_23 ?_
      refine aw_icmp_ge (tgt := 41) dX7_setAsAtFirst_24 rfl (by first | assumption | (unfold ab_In at *; omega)) (by first | assumption | (unfold ab_In at *; omega)) (fun c_24 => ?_) (fun c_24 => ?_)
      · exfalso; omega
      · refine aw_aload_n dX7_setAsAtFirst_27 rfl (by decide) ?_
        refine aw_iload_n dX7_setAsAtFirst_28 rfl ?_
        refine aw_iconst dX7_setAsAtFirst_29 ?_
        refine aw_iconst dX7_setAsAtFirst_30 ?_
        refine aw_iconst dX7_setAsAtFirst_31 ?_
        refine aw_callV (as := [ab_i (s : Int), ab_i 0, ab_i 0, ab_i 0]) (rest := []) dX7_setAsAtFirst_32 (ct_X7_sw_13 G J F hf4 hf5 hf6 s 0 0 0 (by omega)) ⟨Nat.le_of_ble_eq_true rfl, Nat.le_of_ble_eq_true rfl⟩ rfl kc7 rfl kX7_setWay iX7_setWay eX7_setWay lX7_37 rfl (Nat.le_of_ble_eq_true rfl) (by decide) (by decide) (by decide) (by decide) ?_
        rintro _ _ ⟨rfl, rfl⟩
        refine aw_iinc (ls' := [some (ab_r 13), some (ab_i ((s : Int) + 1))]) dX7_setAsAtFirst_35 (by decide) rfl rfl ?_
        refine aw_goto (tgt := 22) dX7_setAsAtFirst_38 rfl ?_
        refine ih (s + 1) _ (by omega) (by simp [ab_u, h1]) (fun q hq => ?_) (fun i b hi => ?_)
        · by_cases e : q = s
          · subst e; simp [ab_u]
          · have := h2 q (by omega)
            simp [ab_u, e, this]
        · rw [ab_u_i (by omega), ab_u_i (by omega), ab_u_i (by omega)]; exact h3 i b hi
  refine aw_aload_n dX7_setAsAtFirst_0 rfl (by decide) ?_
  refine aw_iconst dX7_setAsAtFirst_1 ?_
  refine aw_puti dX7_setAsAtFirst_2 fX7_24 ⟨Nat.le_of_ble_eq_true rfl, Nat.le_of_ble_eq_true rfl⟩ rfl rfl ?_
  refine aw_aload_n dX7_setAsAtFirst_5 rfl (by decide) ?_
  refine aw_iconst dX7_setAsAtFirst_6 ?_
  refine aw_puti dX7_setAsAtFirst_7 fX7_28 ⟨Nat.le_of_ble_eq_true rfl, Nat.le_of_ble_eq_true rfl⟩ rfl rfl ?_
  refine aw_aload_n dX7_setAsAtFirst_10 rfl (by decide) ?_
  refine aw_iconst dX7_setAsAtFirst_11 ?_
  refine aw_puti dX7_setAsAtFirst_12 fX7_31 ⟨Nat.le_of_ble_eq_true rfl, Nat.le_of_ble_eq_true rfl⟩ rfl rfl ?_
  refine aw_aload_n dX7_setAsAtFirst_15 rfl (by decide) ?_
  refine aw_iconst dX7_setAsAtFirst_16 ?_
  refine aw_puti dX7_setAsAtFirst_17 fX7_34 ⟨Nat.le_of_ble_eq_true rfl, Nat.le_of_ble_eq_true rfl⟩ rfl rfl ?_
  refine aw_iconst dX7_setAsAtFirst_20 ?_
  refine aw_istore_n (ls' := [some (ab_r 13), some (ab_i 0)]) dX7_setAsAtFirst_21 (by decide) rfl ?_
  exact lp 4 0 _ (by omega) (by simp [ab_u]) (fun q hq => by omega) (fun i b hi => by rw [ab_u_i (by omega), ab_u_i (by omega), ab_u_i (by omega), ab_u_i (by omega)])
set_option maxHeartbeats 4000000 in
set_option maxRecDepth 100000 in
theorem ct_X7_init_13 (G : ab_G) (I : Nat → Nat → Int) (F : Nat → Nat → Nat) (hz : zA 13 I F) : Ct G 2 3 12 YX7_init [ab_r 13] (13, I, F) (fun q h => q = none ∧ ∃ J : Nat → Nat → Int, h = (16, J, ab_w (ab_w (ab_w (F) 13 4 14) 13 5 15) 13 6 16) ∧ (J 13 0 = 0 ∧ J 13 1 = 2 ∧ J 13 2 = 0 ∧ J 13 3 = 1) ∧ (∀ s, s < 4 → J 14 s = 0 ∧ J 15 s = 0 ∧ J 16 s = 0) ∧ (∀ i b, ¬ (13 ≤ i ∧ i ≤ 16) → J i b = I i b)) := by
  refine Ct.ofW kX7_init (ls := [some (ab_r 13)]) (Nat.le_of_ble_eq_true rfl) rfl ?_
  refine aw_aload_n dX7_init_0 rfl (by decide) ?_
  refine aw_objInit dX7_init_1 lX7_3 oi_in oi_co (by omega) (Nat.le_of_ble_eq_true rfl) (by decide) (by decide) ?_
  refine aw_aload_n dX7_init_4 rfl (by decide) ?_
  refine aw_iconst dX7_init_5 ?_
  refine aw_newarr (q := 0) (k := 20) dX7_init_6 rfl ac_int rfl (fun _ _ h9 => h9) rfl (by decide) rfl rfl (by decide) (fun j => by exact hz.1 _ j (by omega)) (fun j => by exact hz.2 _ j (by omega)) (by decide) rfl (by decide) (by decide) (by decide) ?_
  refine aw_putF dX7_init_8 fX7_9 ⟨Nat.le_of_ble_eq_true rfl, Nat.le_of_ble_eq_true rfl⟩ rfl rfl rfl ⟨_, _, rfl⟩ ?_
  refine aw_aload_n dX7_init_11 rfl (by decide) ?_
  refine aw_iconst dX7_init_12 ?_
  refine aw_newarr (q := 0) (k := 20) dX7_init_13 rfl ac_int rfl (fun _ _ h9 => h9) rfl (by decide) rfl rfl (by decide) (fun j => by exact hz.1 _ j (by omega)) (fun j => by rw [ab_w_i (by omega)]; exact hz.2 _ j (by omega)) (by decide) rfl (by decide) (by decide) (by decide) ?_
  refine aw_putF dX7_init_15 fX7_15 ⟨Nat.le_of_ble_eq_true rfl, Nat.le_of_ble_eq_true rfl⟩ rfl rfl rfl ⟨_, _, rfl⟩ ?_
  refine aw_aload_n dX7_init_18 rfl (by decide) ?_
  refine aw_iconst dX7_init_19 ?_
  refine aw_newarr (q := 0) (k := 20) dX7_init_20 rfl ac_int rfl (fun _ _ h9 => h9) rfl (by decide) rfl rfl (by decide) (fun j => by exact hz.1 _ j (by omega)) (fun j => by rw [ab_w_i (by omega), ab_w_i (by omega)]; exact hz.2 _ j (by omega)) (by decide) rfl (by decide) (by decide) (by decide) ?_
  refine aw_putF dX7_init_22 fX7_18 ⟨Nat.le_of_ble_eq_true rfl, Nat.le_of_ble_eq_true rfl⟩ rfl rfl rfl ⟨_, _, rfl⟩ ?_
  refine aw_aload_n dX7_init_25 rfl (by decide) ?_
  refine aw_callV (as := []) (rest := []) dX7_init_26 (ct_X7_saf_13 G _ _ (by simp [ab_w, rw_]) (by simp [ab_w, rw_]) (by simp [ab_w, rw_])) ⟨Nat.le_of_ble_eq_true rfl, Nat.le_of_ble_eq_true rfl⟩ rfl kc7 rfl kX7_setAsAtFirst iX7_setAsAtFirst eX7_setAsAtFirst lX7_21 rfl (Nat.le_of_ble_eq_true rfl) (by decide) (by decide) (by decide) (by decide) ?_
  rintro _ _ ⟨rfl, J, rfl, j1, j2, j3⟩
  refine aw_return dX7_init_29 rfl ?_
  exact ⟨rfl, J, rfl, j1, j2, j3⟩
set_option maxHeartbeats 4000000 in
set_option maxRecDepth 100000 in
theorem ct_X7_sw_17 (G : ab_G) (I : Nat → Nat → Int) (F : Nat → Nat → Nat) (hf4 : F 17 4 = 18) (hf5 : F 17 5 = 19) (hf6 : F 17 6 = 20) (s : Nat) (a b c : Int) (hs : s < 4) : Ct G 0 0 0 YX7_setWay [ab_r 17, ab_i (s : Int), ab_i a, ab_i b, ab_i c] (20, I, F) (fun r h => r = none ∧ h = (20, ab_u (ab_u (ab_u I 18 s a) 19 s b) 20 s c, F)) := by
  refine Ct.ofW kX7_setWay (ls := [some (ab_r 17), some (ab_i (s : Int)), some (ab_i a), some (ab_i b), some (ab_i c)]) (Nat.le_of_ble_eq_true rfl) rfl ?_
  refine aw_aload_n dX7_setWay_0 rfl (by decide) ?_
  refine aw_getrv (r := 18) dX7_setWay_1 fX7_9 ⟨Nat.le_of_ble_eq_true rfl, Nat.le_of_ble_eq_true rfl⟩ rfl rfl hf4 ?_
  refine aw_iload_n dX7_setWay_4 rfl ?_
  refine aw_iload_n dX7_setWay_5 rfl ?_
  refine aw_iastv (q := s) dX7_setWay_6 ⟨Nat.le_of_ble_eq_true rfl, Nat.le_of_ble_eq_true rfl⟩ rfl (by omega) (by omega) (by decide) rfl ?_
  refine aw_aload_n dX7_setWay_7 rfl (by decide) ?_
  refine aw_getrv (r := 19) dX7_setWay_8 fX7_15 ⟨Nat.le_of_ble_eq_true rfl, Nat.le_of_ble_eq_true rfl⟩ rfl rfl hf5 ?_
  refine aw_iload_n dX7_setWay_11 rfl ?_
  refine aw_iload_n dX7_setWay_12 rfl ?_
  refine aw_iastv (q := s) dX7_setWay_13 ⟨Nat.le_of_ble_eq_true rfl, Nat.le_of_ble_eq_true rfl⟩ rfl (by omega) (by omega) (by decide) rfl ?_
  refine aw_aload_n dX7_setWay_14 rfl (by decide) ?_
  refine aw_getrv (r := 20) dX7_setWay_15 fX7_18 ⟨Nat.le_of_ble_eq_true rfl, Nat.le_of_ble_eq_true rfl⟩ rfl rfl hf6 ?_
  refine aw_iload_n dX7_setWay_18 rfl ?_
  refine aw_iload dX7_setWay_19 rfl ?_
  refine aw_iastv (q := s) dX7_setWay_21 ⟨Nat.le_of_ble_eq_true rfl, Nat.le_of_ble_eq_true rfl⟩ rfl (by omega) (by omega) (by decide) rfl ?_
  refine aw_return dX7_setWay_22 rfl ?_
  exact ⟨rfl, rfl⟩
set_option maxHeartbeats 4000000 in
set_option maxRecDepth 100000 in
theorem ct_X7_saf_17 (G : ab_G) (I : Nat → Nat → Int) (F : Nat → Nat → Nat) (hf4 : F 17 4 = 18) (hf5 : F 17 5 = 19) (hf6 : F 17 6 = 20) : Ct G 1 0 0 YX7_setAsAtFirst [ab_r 17] (20, I, F) (fun q h => q = none ∧ ∃ J : Nat → Nat → Int, h = (20, J, F) ∧ (J 17 0 = 0 ∧ J 17 1 = 2 ∧ J 17 2 = 0 ∧ J 17 3 = 1) ∧ (∀ s, s < 4 → J 18 s = 0 ∧ J 19 s = 0 ∧ J 20 s = 0) ∧ (∀ i b, ¬ (17 ≤ i ∧ i ≤ 20) → J i b = I i b)) := by
  refine Ct.ofW kX7_setAsAtFirst (ls := [some (ab_r 17), none]) (Nat.le_of_ble_eq_true rfl) rfl ?_
  generalize hZ : ab_Z G (fun q h => q = none ∧ ∃ J : Nat → Nat → Int, h = (20, J, F) ∧ (J 17 0 = 0 ∧ J 17 1 = 2 ∧ J 17 2 = 0 ∧ J 17 3 = 1) ∧ (∀ s, s < 4 → J 18 s = 0 ∧ J 19 s = 0 ∧ J 20 s = 0) ∧ (∀ i b, ¬ (17 ≤ i ∧ i ≤ 20) → J i b = I i b)) 0 0 = Z
  have lp : ∀ (d s : Nat) (J : Nat → Nat → Int), s + d = 4 → (J 17 0 = 0 ∧ J 17 1 = 2 ∧ J 17 2 = 0 ∧ J 17 3 = 1) → (∀ q, q < s → J 18 q = 0 ∧ J 19 q = 0 ∧ J 20 q = 0) → (∀ i b, ¬ (17 ≤ i ∧ i ≤ 20) → J i b = I i b) → aW G YX7_setAsAtFirst (ab_rm 1 0 0) Z 0 0 (20, J, F) 22 [some (ab_r 17), some (ab_i (s : Int))] [] := by
    intro d
    induction d with
    | zero =>
      intro s J hs h1 h2 h3
      refine aw_iload_n dX7_setAsAtFirst_22 rfl ?_
      refine aw_iconst dX7_setAsAtFirst_23 ?_
      refine aw_icmp_ge (tgt := 41) dX7_setAsAtFirst_24 rfl (by first | assumption | (unfold ab_In at *; omega)) (by first | assumption | (unfold ab_In at *; omega)) (fun c_24 => ?_) (fun c_24 => ?_)
      · rw [← hZ]
        refine aw_return dX7_setAsAtFirst_41 rfl ?_
        exact ⟨rfl, J, rfl, h1, fun q hq => h2 q (by omega), h3⟩
      · exfalso; omega
    | succ d ih =>
      intro s J hs h1 h2 h3
      refine aw_iload_n dX7_setAsAtFirst_22 rfl ?_
      refine aw_iconst dX7_setAsAtFirst_23 ?_
      refine aw_icmp_ge (tgt := 41) dX7_setAsAtFirst_24 rfl (by first | assumption | (unfold ab_In at *; omega)) (by first | assumption | (unfold ab_In at *; omega)) (fun c_24 => ?_) (fun c_24 => ?_)
      · exfalso; omega
      · refine aw_aload_n dX7_setAsAtFirst_27 rfl (by decide) ?_
        refine aw_iload_n dX7_setAsAtFirst_28 rfl ?_
        refine aw_iconst dX7_setAsAtFirst_29 ?_
        refine aw_iconst dX7_setAsAtFirst_30 ?_
        refine aw_iconst dX7_setAsAtFirst_31 ?_
        refine aw_callV (as := [ab_i (s : Int), ab_i 0, ab_i 0, ab_i 0]) (rest := []) dX7_setAsAtFirst_32 (ct_X7_sw_17 G J F hf4 hf5 hf6 s 0 0 0 (by omega)) ⟨Nat.le_of_ble_eq_true rfl, Nat.le_of_ble_eq_true rfl⟩ rfl kc7 rfl kX7_setWay iX7_setWay eX7_setWay lX7_37 rfl (Nat.le_of_ble_eq_true rfl) (by decide) (by decide) (by decide) (by decide) ?_
        rintro _ _ ⟨rfl, rfl⟩
        refine aw_iinc (ls' := [some (ab_r 17), some (ab_i ((s : Int) + 1))]) dX7_setAsAtFirst_35 (by decide) rfl rfl ?_
        refine aw_goto (tgt := 22) dX7_setAsAtFirst_38 rfl ?_
        refine ih (s + 1) _ (by omega) (by simp [ab_u, h1]) (fun q hq => ?_) (fun i b hi => ?_)
        · by_cases e : q = s
          · subst e; simp [ab_u]
          · have := h2 q (by omega)
            simp [ab_u, e, this]
        · rw [ab_u_i (by omega), ab_u_i (by omega), ab_u_i (by omega)]; exact h3 i b hi
  refine aw_aload_n dX7_setAsAtFirst_0 rfl (by decide) ?_
  refine aw_iconst dX7_setAsAtFirst_1 ?_
  refine aw_puti dX7_setAsAtFirst_2 fX7_24 ⟨Nat.le_of_ble_eq_true rfl, Nat.le_of_ble_eq_true rfl⟩ rfl rfl ?_
  refine aw_aload_n dX7_setAsAtFirst_5 rfl (by decide) ?_
  refine aw_iconst dX7_setAsAtFirst_6 ?_
  refine aw_puti dX7_setAsAtFirst_7 fX7_28 ⟨Nat.le_of_ble_eq_true rfl, Nat.le_of_ble_eq_true rfl⟩ rfl rfl ?_
  refine aw_aload_n dX7_setAsAtFirst_10 rfl (by decide) ?_
  refine aw_iconst dX7_setAsAtFirst_11 ?_
  refine aw_puti dX7_setAsAtFirst_12 fX7_31 ⟨Nat.le_of_ble_eq_true rfl, Nat.le_of_ble_eq_true rfl⟩ rfl rfl ?_
  refine aw_aload_n dX7_setAsAtFirst_15 rfl (by decide) ?_
  refine aw_iconst dX7_setAsAtFirst_16 ?_
  refine aw_puti dX7_setAsAtFirst_17 fX7_34 ⟨Nat.le_of_ble_eq_true rfl, Nat.le_of_ble_eq_true rfl⟩ rfl rfl ?_
  refine aw_iconst dX7_setAsAtFirst_20 ?_
  refine aw_istore_n (ls' := [some (ab_r 17), some (ab_i 0)]) dX7_setAsAtFirst_21 (by decide) rfl ?_
  exact lp 4 0 _ (by omega) (by simp [ab_u]) (fun q hq => by omega) (fun i b hi => by rw [ab_u_i (by omega), ab_u_i (by omega), ab_u_i (by omega), ab_u_i (by omega)])
set_option maxHeartbeats 4000000 in
set_option maxRecDepth 100000 in
theorem ct_X7_init_17 (G : ab_G) (I : Nat → Nat → Int) (F : Nat → Nat → Nat) (hz : zA 17 I F) : Ct G 2 3 12 YX7_init [ab_r 17] (17, I, F) (fun q h => q = none ∧ ∃ J : Nat → Nat → Int, h = (20, J, ab_w (ab_w (ab_w (F) 17 4 18) 17 5 19) 17 6 20) ∧ (J 17 0 = 0 ∧ J 17 1 = 2 ∧ J 17 2 = 0 ∧ J 17 3 = 1) ∧ (∀ s, s < 4 → J 18 s = 0 ∧ J 19 s = 0 ∧ J 20 s = 0) ∧ (∀ i b, ¬ (17 ≤ i ∧ i ≤ 20) → J i b = I i b)) := by
  refine Ct.ofW kX7_init (ls := [some (ab_r 17)]) (Nat.le_of_ble_eq_true rfl) rfl ?_
  refine aw_aload_n dX7_init_0 rfl (by decide) ?_
  refine aw_objInit dX7_init_1 lX7_3 oi_in oi_co (by omega) (Nat.le_of_ble_eq_true rfl) (by decide) (by decide) ?_
  refine aw_aload_n dX7_init_4 rfl (by decide) ?_
  refine aw_iconst dX7_init_5 ?_
  refine aw_newarr (q := 0) (k := 20) dX7_init_6 rfl ac_int rfl (fun _ _ h9 => h9) rfl (by decide) rfl rfl (by decide) (fun j => by exact hz.1 _ j (by omega)) (fun j => by exact hz.2 _ j (by omega)) (by decide) rfl (by decide) (by decide) (by decide) ?_
  refine aw_putF dX7_init_8 fX7_9 ⟨Nat.le_of_ble_eq_true rfl, Nat.le_of_ble_eq_true rfl⟩ rfl rfl rfl ⟨_, _, rfl⟩ ?_
  refine aw_aload_n dX7_init_11 rfl (by decide) ?_
  refine aw_iconst dX7_init_12 ?_
  refine aw_newarr (q := 0) (k := 20) dX7_init_13 rfl ac_int rfl (fun _ _ h9 => h9) rfl (by decide) rfl rfl (by decide) (fun j => by exact hz.1 _ j (by omega)) (fun j => by rw [ab_w_i (by omega)]; exact hz.2 _ j (by omega)) (by decide) rfl (by decide) (by decide) (by decide) ?_
  refine aw_putF dX7_init_15 fX7_15 ⟨Nat.le_of_ble_eq_true rfl, Nat.le_of_ble_eq_true rfl⟩ rfl rfl rfl ⟨_, _, rfl⟩ ?_
  refine aw_aload_n dX7_init_18 rfl (by decide) ?_
  refine aw_iconst dX7_init_19 ?_
  refine aw_newarr (q := 0) (k := 20) dX7_init_20 rfl ac_int rfl (fun _ _ h9 => h9) rfl (by decide) rfl rfl (by decide) (fun j => by exact hz.1 _ j (by omega)) (fun j => by rw [ab_w_i (by omega), ab_w_i (by omega)]; exact hz.2 _ j (by omega)) (by decide) rfl (by decide) (by decide) (by decide) ?_
  refine aw_putF dX7_init_22 fX7_18 ⟨Nat.le_of_ble_eq_true rfl, Nat.le_of_ble_eq_true rfl⟩ rfl rfl rfl ⟨_, _, rfl⟩ ?_
  refine aw_aload_n dX7_init_25 rfl (by decide) ?_
  refine aw_callV (as := []) (rest := []) dX7_init_26 (ct_X7_saf_17 G _ _ (by simp [ab_w, rw_]) (by simp [ab_w, rw_]) (by simp [ab_w, rw_])) ⟨Nat.le_of_ble_eq_true rfl, Nat.le_of_ble_eq_true rfl⟩ rfl kc7 rfl kX7_setAsAtFirst iX7_setAsAtFirst eX7_setAsAtFirst lX7_21 rfl (Nat.le_of_ble_eq_true rfl) (by decide) (by decide) (by decide) (by decide) ?_
  rintro _ _ ⟨rfl, J, rfl, j1, j2, j3⟩
  refine aw_return dX7_init_29 rfl ?_
  exact ⟨rfl, J, rfl, j1, j2, j3⟩
set_option maxHeartbeats 4000000 in
set_option maxRecDepth 100000 in
theorem ct_X10_init (G : ab_G) (I : Nat → Nat → Int) (F : Nat → Nat → Nat) (hz : zA 2 I F) : Ct G 2 10 76 YX10_init [ab_r 2] (2, I, F) (fun q h => q = none ∧ ∃ J : Nat → Nat → Int, h = (12, J, ab_w (ab_w (ab_w (ab_w (ab_w (ab_w (rw_ (F) 3 (fun j => if j < 4 then 2 + 2 + j else 0)) 2 0 3) 2 1 8) 9 0 10) 2 2 9) 11 0 12) 2 3 11) ∧ (∀ s, s < 4 → J 8 s = 1) ∧ ∀ i b, i ≠ 8 → J i b = I i b) := by
  refine Ct.ofW kX10_init (ls := [some (ab_r 2)]) (Nat.le_of_ble_eq_true rfl) rfl ?_
  refine aw_aload_n dX10_init_0 rfl (by decide) ?_
  refine aw_objInit dX10_init_1 lX10_3 oi_in oi_co (by omega) (Nat.le_of_ble_eq_true rfl) (by decide) (by decide) ?_
  refine aw_aload_n dX10_init_4 rfl (by decide) ?_
  refine aw_iconst dX10_init_5 ?_
  refine aw_iconst dX10_init_6 ?_
  refine aw_multi (N := 4) (M := 4) dX10_init_7 clX10_9 rfl (by decide) (by decide) (fun i j hi => by exact hz.1 i j (by omega)) (by decide) (by decide) rfl rfl (by decide) (by decide) (by decide) (by decide) ?_
  refine aw_putF dX10_init_11 fX10_11 ⟨Nat.le_of_ble_eq_true rfl, Nat.le_of_ble_eq_true rfl⟩ rfl rfl rfl ⟨_, _, rfl⟩ ?_
  refine aw_aload_n dX10_init_14 rfl (by decide) ?_
  refine aw_iconst dX10_init_15 ?_
  refine aw_newarr (q := 0) (k := 20) dX10_init_16 rfl ac_int rfl (fun _ _ h9 => h9) rfl (by decide) rfl rfl (by decide) (fun j => by exact hz.1 _ j (by omega)) (fun j => by rw [ab_w_i (by omega), rw_n (by omega)]; exact hz.2 _ j (by omega)) (by decide) rfl (by decide) (by decide) (by decide) ?_
  refine aw_putF dX10_init_18 fX10_16 ⟨Nat.le_of_ble_eq_true rfl, Nat.le_of_ble_eq_true rfl⟩ rfl rfl rfl ⟨_, _, rfl⟩ ?_
  refine aw_aload_n dX10_init_21 rfl (by decide) ?_
  refine aw_new (k := 6) dX10_init_22 kc6 clX10_20 inX6 iiX6 rfl (by decide) (fun j => by exact hz.1 _ j (by omega)) (fun j => by rw [ab_w_i (by omega), ab_w_i (by omega), rw_n (by omega)]; exact hz.2 _ j (by omega)) hyX6 (by decide) (by decide) ?_
  refine aw_dup dX10_init_25 rfl ?_
  refine aw_callIN (host := "ThreeOffers") (as := []) (rest := [ab_r 9, ab_r 2]) dX10_init_26 (ct_X6_init_9 G _ _ ⟨fun i j hi => by exact hz.1 i j (by omega), fun i j hi => by rw [ab_w_i (by omega), ab_w_i (by omega), rw_n (by omega)]; exact hz.2 i j (by omega)⟩) (by decide) rfl rfl kX6_init iX6_init (lw_nest_in (k := 2) rfl) rfl (Nat.le_of_ble_eq_true rfl) (by decide) (by decide) (by decide) (by decide) ?_
  rintro _ _ ⟨rfl, rfl⟩
  refine aw_putF dX10_init_29 fX10_23 ⟨Nat.le_of_ble_eq_true rfl, Nat.le_of_ble_eq_true rfl⟩ rfl rfl rfl ⟨_, _, rfl⟩ ?_
  refine aw_aload_n dX10_init_32 rfl (by decide) ?_
  refine aw_new (k := 6) dX10_init_33 kc6 clX10_20 inX6 iiX6 rfl (by decide) (fun j => by exact hz.1 _ j (by omega)) (fun j => by rw [ab_w_i (by omega), ab_w_i (by omega), ab_w_i (by omega), ab_w_i (by omega), rw_n (by omega)]; exact hz.2 _ j (by omega)) hyX6 (by decide) (by decide) ?_
  refine aw_dup dX10_init_36 rfl ?_
  refine aw_callIN (host := "ThreeOffers") (as := []) (rest := [ab_r 11, ab_r 2]) dX10_init_37 (ct_X6_init_11 G _ _ ⟨fun i j hi => by exact hz.1 i j (by omega), fun i j hi => by rw [ab_w_i (by omega), ab_w_i (by omega), ab_w_i (by omega), ab_w_i (by omega), rw_n (by omega)]; exact hz.2 i j (by omega)⟩) (by decide) rfl rfl kX6_init iX6_init (lw_nest_in (k := 2) rfl) rfl (Nat.le_of_ble_eq_true rfl) (by decide) (by decide) (by decide) (by decide) ?_
  rintro _ _ ⟨rfl, rfl⟩
  refine aw_putF dX10_init_40 fX10_27 ⟨Nat.le_of_ble_eq_true rfl, Nat.le_of_ble_eq_true rfl⟩ rfl rfl rfl ⟨_, _, rfl⟩ ?_
  refine aw_aload_n dX10_init_43 rfl (by decide) ?_
  refine aw_getrv (r := 8) dX10_init_44 fX10_16 ⟨Nat.le_of_ble_eq_true rfl, Nat.le_of_ble_eq_true rfl⟩ rfl rfl (by simp [ab_w, rw_]) ?_
  refine aw_iconst dX10_init_47 ?_
  refine aw_callS (as := [ab_r 8, ab_i 1]) (rest := []) dX10_init_48 (ct_fill G 12 8 I _ 1 ⟨by decide, by decide⟩ rfl) kJ7_fill_53178 sJ7_fill_53178 lX10_30 rfl (Nat.le_of_ble_eq_true rfl) (by decide) (by decide) (by decide) (by decide) ?_
  rintro _ _ ⟨rfl, J, rfl, j1, j2⟩
  refine aw_return dX10_init_51 rfl ?_
  exact ⟨rfl, J, rfl, j2, j1⟩
theorem sh_p1 : ∀ i : Fin 12, ab_sh (32 + i.val) = (4, 5) := by decide +kernel
theorem sh_p2 : ∀ i : Fin 12, ab_sh (53 + i.val) = (4, 5) := by decide +kernel
set_option maxHeartbeats 4000000 in
set_option maxRecDepth 100000 in
theorem ct_X1_init_23 (G : ab_G) (I : Nat → Nat → Int) (F : Nat → Nat → Nat) (hz : zA 23 I F) : Ct G 2 20 102 YX1_init [ab_r 23, ab_r 2] (23, I, F) (fun q h => q = none ∧ h = (43, I, rw_ (ab_w (ab_w (rw_ (ab_w (F) 23 1 24) 25 (fun j => if j < 6 then 24 + 2 + j else 0)) 23 6 25) 23 0 2) 24 (fun j => if j < 12 then 32 + j else 0))) := by
  refine Ct.ofW kX1_init (ls := [some (ab_r 23), some (ab_r 2), none]) (Nat.le_of_ble_eq_true rfl) rfl ?_
  generalize hF1 : ab_w (ab_w (rw_ (ab_w (F) 23 1 24) 25 (fun j => if j < 6 then 24 + 2 + j else 0)) 23 6 25) 23 0 2 = F1
  have f24 : F1 23 1 = 24 := by rw [← hF1]; simp [ab_w, rw_]
  have fz : ∀ i j, 32 ≤ i → F1 i j = 0 := fun i j hi => by rw [← hF1, ab_w_i (by omega), ab_w_i (by omega), rw_n (by omega), ab_w_i (by omega)]; exact hz.2 i j (by omega)
  have fl : ∀ j, F1 24 j = 0 := fun j => by rw [← hF1, ab_w_i (by omega), ab_w_i (by omega), rw_n (by omega), ab_w_i (by omega)]; exact hz.2 _ j (by omega)
  generalize hZ : ab_Z G (fun q h => q = none ∧ h = (43, I, rw_ F1 24 (fun j => if j < 12 then 32 + j else 0))) 20 102 = Z
  have lp : ∀ (d i : Nat), i + d = 12 → aW G YX1_init (ab_rm 2 20 102) Z (8 + i) (42 + 5 * i) (31 + i, I, (rw_ F1 24 (fun j => if j < i then 32 + j else 0))) 51 [some (ab_r 23), some (ab_r 2), some (ab_i (i : Int))] [] := by
    intro d
    induction d with
    | zero =>
      intro i hi
      have hi12 : i = 12 := by omega
      subst hi12
      refine aw_iload_n dX1_init_51 rfl ?_
      refine aw_bipush dX1_init_52 rfl ?_
      refine aw_icmp_ge (tgt := 76) dX1_init_54 rfl ⟨by decide, by decide⟩ ⟨by decide, by decide⟩ (fun _ => ?_) (fun c9 => absurd (by decide) c9)
      rw [← hZ]
      refine aw_return dX1_init_76 rfl ?_
      exact ⟨rfl, rfl⟩
    | succ d ih =>
      intro i hi
      have hsh := sh_p1 ⟨i, by omega⟩
      simp only [] at hsh
      refine aw_iload_n dX1_init_51 rfl ?_
      refine aw_bipush dX1_init_52 rfl ?_
      refine aw_icmp_ge (tgt := 76) dX1_init_54 rfl (by first | assumption | (unfold ab_In at *; omega)) (by first | assumption | (unfold ab_In at *; omega)) (fun c_54 => ?_) (fun c_54 => ?_)
      · exfalso; omega
      · refine aw_aload_n dX1_init_57 rfl (by decide) ?_
        refine aw_getrv (r := 24) dX1_init_58 fX1_11 ⟨by omega, by omega⟩ rfl rfl ((rw_n (by decide)).trans f24) ?_
        refine aw_iload_n dX1_init_61 rfl ?_
        refine aw_new (k := 4) dX1_init_62 kc4 clX1_9 inX4 iiX4 (by rw [show 31 + i + 1 = 32 + i by omega]; exact hsh) (by omega) (fun j => hz.1 _ j (by omega)) (fun j => by rw [rw_n (by omega)]; exact fz _ j (by omega)) hyX4 (show 8 + i + 1 ≤ 20 by omega) (show 42 + 5 * i + 5 ≤ 102 by omega) ?_
        refine aw_dup dX1_init_65 rfl ?_
        refine aw_callIN (host := "ThreeOffers") (as := []) (rest := [ab_r (31 + i + 1), ab_i (i : Int), ab_r 24]) dX1_init_66 (ct_X4_init G _ _ (by omega)) (by omega) rfl rfl kX4_init iX4_init (lw_nest_in (k := 4) rfl) rfl (Nat.le_of_ble_eq_true rfl) (by decide) (by decide) (show 8 + i + 1 + 0 ≤ 20 by omega) (show 42 + 5 * i + 5 + 0 ≤ 102 by omega) ?_
        rintro _ _ ⟨rfl, rfl⟩
        refine aw_aastv (q := i) kc4 dX1_init_69 ⟨by omega, by omega⟩ rfl (by omega) (by omega) (by decide) ⟨by omega, by omega⟩ (by rw [show 31 + i + 1 = 32 + i by omega, hsh]) rfl ?_
        refine aw_iinc (ls' := [some (ab_r 23), some (ab_r 2), some (ab_i ((i : Int) + 1))]) dX1_init_70 (by decide) rfl rfl ?_
        refine aw_goto (tgt := 51) dX1_init_73 rfl ?_
        have h9 := ih (i + 1) (by omega)
        rw [← rw_wx, show 31 + (i + 1) = 31 + i + 1 by omega, show 42 + 5 * (i + 1) = 42 + 5 * i + 5 by omega] at h9
        rw [show 31 + i + 1 = 32 + i by omega] at h9 ⊢
        exact h9
  refine aw_aload_n dX1_init_0 rfl (by decide) ?_
  refine aw_objInit dX1_init_1 lX1_3 oi_in oi_co (by omega) (Nat.le_of_ble_eq_true rfl) (by decide) (by decide) ?_
  refine aw_aload_n dX1_init_4 rfl (by decide) ?_
  refine aw_bipush dX1_init_5 rfl ?_
  refine aw_anew dX1_init_7 clX1_9 rfl (by decide) (fun j => by exact hz.2 _ j (by omega)) (by decide) rfl (by decide) (by decide) (by decide) ?_
  refine aw_putF dX1_init_10 fX1_11 ⟨Nat.le_of_ble_eq_true rfl, Nat.le_of_ble_eq_true rfl⟩ rfl rfl rfl ⟨_, _, rfl⟩ ?_
  refine aw_aload_n dX1_init_13 rfl (by decide) ?_
  refine aw_iconst dX1_init_14 ?_
  refine aw_puti dX1_init_15 fX1_17 ⟨Nat.le_of_ble_eq_true rfl, Nat.le_of_ble_eq_true rfl⟩ rfl rfl ?_
  refine aw_aload_n dX1_init_18 rfl (by decide) ?_
  refine aw_iconst dX1_init_19 ?_
  refine aw_puti dX1_init_20 fX1_21 ⟨Nat.le_of_ble_eq_true rfl, Nat.le_of_ble_eq_true rfl⟩ rfl rfl ?_
  refine aw_aload_n dX1_init_23 rfl (by decide) ?_
  refine aw_iconst dX1_init_24 ?_
  refine aw_puti dX1_init_25 fX1_24 ⟨Nat.le_of_ble_eq_true rfl, Nat.le_of_ble_eq_true rfl⟩ rfl rfl ?_
  refine aw_aload_n dX1_init_28 rfl (by decide) ?_
  refine aw_iconst dX1_init_29 ?_
  refine aw_puti dX1_init_30 fX1_27 ⟨Nat.le_of_ble_eq_true rfl, Nat.le_of_ble_eq_true rfl⟩ rfl rfl ?_
  refine aw_aload_n dX1_init_33 rfl (by decide) ?_
  refine aw_bipush dX1_init_34 rfl ?_
  refine aw_iconst dX1_init_36 ?_
  refine aw_multi (N := 6) (M := 4) dX1_init_37 clX1_30 rfl (by decide) (by decide) (fun i j hi => by rw [ab_u_i (by omega), ab_u_i (by omega), ab_u_i (by omega), ab_u_i (by omega)]; exact hz.1 i j (by omega)) (by decide) (by decide) rfl rfl (by decide) (by decide) (by decide) (by decide) ?_
  refine aw_putF dX1_init_41 fX1_32 ⟨Nat.le_of_ble_eq_true rfl, Nat.le_of_ble_eq_true rfl⟩ rfl rfl rfl ⟨_, _, rfl⟩ ?_
  refine aw_aload_n dX1_init_44 rfl (by decide) ?_
  refine aw_aload_n dX1_init_45 rfl (by decide) ?_
  refine aw_putF dX1_init_46 fX1_35 ⟨Nat.le_of_ble_eq_true rfl, Nat.le_of_ble_eq_true rfl⟩ rfl rfl rfl ⟨_, _, rfl⟩ ?_
  refine aw_iconst dX1_init_49 ?_
  refine aw_istore_n (ls' := [some (ab_r 23), some (ab_r 2), some (ab_i 0)]) dX1_init_50 (by decide) rfl ?_
  have h9 := lp 12 0 (by omega)
  rw [rw_0 fl] at h9
  (try simp only [ab_u_id I 23 2 (hz.1 23 2 (by omega)).symm, ab_u_id I 23 3 (hz.1 23 3 (by omega)).symm, ab_u_id I 23 4 (hz.1 23 4 (by omega)).symm, ab_u_id I 23 5 (hz.1 23 5 (by omega)).symm])
  rw [hF1]
  exact h9
set_option maxHeartbeats 4000000 in
set_option maxRecDepth 100000 in
theorem ct_X1_init_44 (G : ab_G) (I : Nat → Nat → Int) (F : Nat → Nat → Nat) (hz : zA 44 I F) : Ct G 2 20 102 YX1_init [ab_r 44, ab_r 2] (44, I, F) (fun q h => q = none ∧ h = (64, I, rw_ (ab_w (ab_w (rw_ (ab_w (F) 44 1 45) 46 (fun j => if j < 6 then 45 + 2 + j else 0)) 44 6 46) 44 0 2) 45 (fun j => if j < 12 then 53 + j else 0))) := by
  refine Ct.ofW kX1_init (ls := [some (ab_r 44), some (ab_r 2), none]) (Nat.le_of_ble_eq_true rfl) rfl ?_
  generalize hF1 : ab_w (ab_w (rw_ (ab_w (F) 44 1 45) 46 (fun j => if j < 6 then 45 + 2 + j else 0)) 44 6 46) 44 0 2 = F1
  have f24 : F1 44 1 = 45 := by rw [← hF1]; simp [ab_w, rw_]
  have fz : ∀ i j, 53 ≤ i → F1 i j = 0 := fun i j hi => by rw [← hF1, ab_w_i (by omega), ab_w_i (by omega), rw_n (by omega), ab_w_i (by omega)]; exact hz.2 i j (by omega)
  have fl : ∀ j, F1 45 j = 0 := fun j => by rw [← hF1, ab_w_i (by omega), ab_w_i (by omega), rw_n (by omega), ab_w_i (by omega)]; exact hz.2 _ j (by omega)
  generalize hZ : ab_Z G (fun q h => q = none ∧ h = (64, I, rw_ F1 45 (fun j => if j < 12 then 53 + j else 0))) 20 102 = Z
  have lp : ∀ (d i : Nat), i + d = 12 → aW G YX1_init (ab_rm 2 20 102) Z (8 + i) (42 + 5 * i) (52 + i, I, (rw_ F1 45 (fun j => if j < i then 53 + j else 0))) 51 [some (ab_r 44), some (ab_r 2), some (ab_i (i : Int))] [] := by
    intro d
    induction d with
    | zero =>
      intro i hi
      have hi12 : i = 12 := by omega
      subst hi12
      refine aw_iload_n dX1_init_51 rfl ?_
      refine aw_bipush dX1_init_52 rfl ?_
      refine aw_icmp_ge (tgt := 76) dX1_init_54 rfl ⟨by decide, by decide⟩ ⟨by decide, by decide⟩ (fun _ => ?_) (fun c9 => absurd (by decide) c9)
      rw [← hZ]
      refine aw_return dX1_init_76 rfl ?_
      exact ⟨rfl, rfl⟩
    | succ d ih =>
      intro i hi
      have hsh := sh_p2 ⟨i, by omega⟩
      simp only [] at hsh
      refine aw_iload_n dX1_init_51 rfl ?_
      refine aw_bipush dX1_init_52 rfl ?_
      refine aw_icmp_ge (tgt := 76) dX1_init_54 rfl (by first | assumption | (unfold ab_In at *; omega)) (by first | assumption | (unfold ab_In at *; omega)) (fun c_54 => ?_) (fun c_54 => ?_)
      · exfalso; omega
      · refine aw_aload_n dX1_init_57 rfl (by decide) ?_
        refine aw_getrv (r := 45) dX1_init_58 fX1_11 ⟨by omega, by omega⟩ rfl rfl ((rw_n (by decide)).trans f24) ?_
        refine aw_iload_n dX1_init_61 rfl ?_
        refine aw_new (k := 4) dX1_init_62 kc4 clX1_9 inX4 iiX4 (by rw [show 52 + i + 1 = 53 + i by omega]; exact hsh) (by omega) (fun j => hz.1 _ j (by omega)) (fun j => by rw [rw_n (by omega)]; exact fz _ j (by omega)) hyX4 (show 8 + i + 1 ≤ 20 by omega) (show 42 + 5 * i + 5 ≤ 102 by omega) ?_
        refine aw_dup dX1_init_65 rfl ?_
        refine aw_callIN (host := "ThreeOffers") (as := []) (rest := [ab_r (52 + i + 1), ab_i (i : Int), ab_r 45]) dX1_init_66 (ct_X4_init G _ _ (by omega)) (by omega) rfl rfl kX4_init iX4_init (lw_nest_in (k := 4) rfl) rfl (Nat.le_of_ble_eq_true rfl) (by decide) (by decide) (show 8 + i + 1 + 0 ≤ 20 by omega) (show 42 + 5 * i + 5 + 0 ≤ 102 by omega) ?_
        rintro _ _ ⟨rfl, rfl⟩
        refine aw_aastv (q := i) kc4 dX1_init_69 ⟨by omega, by omega⟩ rfl (by omega) (by omega) (by decide) ⟨by omega, by omega⟩ (by rw [show 52 + i + 1 = 53 + i by omega, hsh]) rfl ?_
        refine aw_iinc (ls' := [some (ab_r 44), some (ab_r 2), some (ab_i ((i : Int) + 1))]) dX1_init_70 (by decide) rfl rfl ?_
        refine aw_goto (tgt := 51) dX1_init_73 rfl ?_
        have h9 := ih (i + 1) (by omega)
        rw [← rw_wx, show 52 + (i + 1) = 52 + i + 1 by omega, show 42 + 5 * (i + 1) = 42 + 5 * i + 5 by omega] at h9
        rw [show 52 + i + 1 = 53 + i by omega] at h9 ⊢
        exact h9
  refine aw_aload_n dX1_init_0 rfl (by decide) ?_
  refine aw_objInit dX1_init_1 lX1_3 oi_in oi_co (by omega) (Nat.le_of_ble_eq_true rfl) (by decide) (by decide) ?_
  refine aw_aload_n dX1_init_4 rfl (by decide) ?_
  refine aw_bipush dX1_init_5 rfl ?_
  refine aw_anew dX1_init_7 clX1_9 rfl (by decide) (fun j => by exact hz.2 _ j (by omega)) (by decide) rfl (by decide) (by decide) (by decide) ?_
  refine aw_putF dX1_init_10 fX1_11 ⟨Nat.le_of_ble_eq_true rfl, Nat.le_of_ble_eq_true rfl⟩ rfl rfl rfl ⟨_, _, rfl⟩ ?_
  refine aw_aload_n dX1_init_13 rfl (by decide) ?_
  refine aw_iconst dX1_init_14 ?_
  refine aw_puti dX1_init_15 fX1_17 ⟨Nat.le_of_ble_eq_true rfl, Nat.le_of_ble_eq_true rfl⟩ rfl rfl ?_
  refine aw_aload_n dX1_init_18 rfl (by decide) ?_
  refine aw_iconst dX1_init_19 ?_
  refine aw_puti dX1_init_20 fX1_21 ⟨Nat.le_of_ble_eq_true rfl, Nat.le_of_ble_eq_true rfl⟩ rfl rfl ?_
  refine aw_aload_n dX1_init_23 rfl (by decide) ?_
  refine aw_iconst dX1_init_24 ?_
  refine aw_puti dX1_init_25 fX1_24 ⟨Nat.le_of_ble_eq_true rfl, Nat.le_of_ble_eq_true rfl⟩ rfl rfl ?_
  refine aw_aload_n dX1_init_28 rfl (by decide) ?_
  refine aw_iconst dX1_init_29 ?_
  refine aw_puti dX1_init_30 fX1_27 ⟨Nat.le_of_ble_eq_true rfl, Nat.le_of_ble_eq_true rfl⟩ rfl rfl ?_
  refine aw_aload_n dX1_init_33 rfl (by decide) ?_
  refine aw_bipush dX1_init_34 rfl ?_
  refine aw_iconst dX1_init_36 ?_
  refine aw_multi (N := 6) (M := 4) dX1_init_37 clX1_30 rfl (by decide) (by decide) (fun i j hi => by rw [ab_u_i (by omega), ab_u_i (by omega), ab_u_i (by omega), ab_u_i (by omega)]; exact hz.1 i j (by omega)) (by decide) (by decide) rfl rfl (by decide) (by decide) (by decide) (by decide) ?_
  refine aw_putF dX1_init_41 fX1_32 ⟨Nat.le_of_ble_eq_true rfl, Nat.le_of_ble_eq_true rfl⟩ rfl rfl rfl ⟨_, _, rfl⟩ ?_
  refine aw_aload_n dX1_init_44 rfl (by decide) ?_
  refine aw_aload_n dX1_init_45 rfl (by decide) ?_
  refine aw_putF dX1_init_46 fX1_35 ⟨Nat.le_of_ble_eq_true rfl, Nat.le_of_ble_eq_true rfl⟩ rfl rfl rfl ⟨_, _, rfl⟩ ?_
  refine aw_iconst dX1_init_49 ?_
  refine aw_istore_n (ls' := [some (ab_r 44), some (ab_r 2), some (ab_i 0)]) dX1_init_50 (by decide) rfl ?_
  have h9 := lp 12 0 (by omega)
  rw [rw_0 fl] at h9
  (try simp only [ab_u_id I 44 2 (hz.1 44 2 (by omega)).symm, ab_u_id I 44 3 (hz.1 44 3 (by omega)).symm, ab_u_id I 44 4 (hz.1 44 4 (by omega)).symm, ab_u_id I 44 5 (hz.1 44 5 (by omega)).symm])
  rw [hF1]
  exact h9
