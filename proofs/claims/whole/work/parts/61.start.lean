set_option maxHeartbeats 4000000 in
set_option maxRecDepth 100000 in
theorem ct_X11_init (G : ab_G) (I : Nat → Nat → Int) (F : Nat → Nat → Nat) (hz : zA 1 I F) : Ct G 3 82 3722 YX11_init [ab_r 1] (1, I, F) (fun q h => q = none ∧ ∃ J : Nat → Nat → Int, h = (83, J, ab_w (ab_w (ab_w (ab_w (ab_w (ab_w (ab_w (ab_w (ab_w (ab_w (ab_w (ab_w (ab_w (ab_w (ab_w (ab_w (ab_w (ab_w (ab_w (rw_ (ab_w (ab_w (rw_ (ab_w (ab_w (rw_ (ab_w (ab_w (rw_ (ab_w (ab_w (rw_ (ab_w (ab_w (ab_w (ab_w (ab_w (ab_w (ab_w (ab_w (ab_w (ab_w (ab_w (ab_w (ab_w (ab_w (ab_w (ab_w (ab_w (ab_w (rw_ (F) 3 (fun j => if j < 4 then 2 + 2 + j else 0)) 2 0 3) 2 1 8) 9 0 10) 2 2 9) 11 0 12) 2 3 11) 1 0 2) 13 4 14) 13 5 15) 13 6 16) 1 1 13) 17 4 18) 17 5 19) 17 6 20) 1 2 17) 21 0 22) 1 3 21) 23 1 24) 25 (fun j => if j < 6 then 24 + 2 + j else 0)) 23 6 25) 23 0 2) 24 (fun j => if j < 12 then 32 + j else 0)) 1 4 23) 44 1 45) 46 (fun j => if j < 6 then 45 + 2 + j else 0)) 44 6 46) 44 0 2) 45 (fun j => if j < 12 then 53 + j else 0)) 1 5 44) 65 1 66) 67 (fun j => if j < 4 then 66 + 2 + j else 0)) 65 2 67) 65 3 72) 65 0 2) 1 6 65) 73 1 74) 73 3 75) 73 0 2) 1 7 73) 76 1 77) 76 2 78) 76 0 2) 1 8 76) 79 1 80) 79 0 76) 1 9 79) 81 1 82) 81 2 83) 81 0 76) 1 10 81) ∧ (∀ s, s < 4 → J 8 s = 1) ∧ (J 13 0 = 0 ∧ J 13 1 = 2 ∧ J 13 2 = 0 ∧ J 13 3 = 1) ∧ (∀ s, s < 4 → J 14 s = 0 ∧ J 15 s = 0 ∧ J 16 s = 0) ∧ ∀ i b, i ≠ 8 → ¬ (13 ≤ i ∧ i ≤ 20) → J i b = I i b) := by
  refine Ct.ofW kX11_init (ls := [some (ab_r 1)]) (Nat.le_of_ble_eq_true rfl) rfl ?_
  refine aw_aload_n dX11_init_0 rfl (by decide) ?_
  refine aw_objInit dX11_init_1 lX11_1 oi_in oi_co (by omega) (Nat.le_of_ble_eq_true rfl) (by decide) (by decide) ?_
  refine aw_aload_n dX11_init_4 rfl (by decide) ?_
  refine aw_new (k := 10) dX11_init_5 kc10 clX11_7 inX10 iiX10 rfl (by decide) (fun j => by exact hz.1 _ j (by omega)) (fun j => by exact hz.2 _ j (by omega)) hyX10 (by decide) (by decide) ?_
  refine aw_dup dX11_init_8 rfl ?_
  refine aw_callI (as := []) (rest := [ab_r 2, ab_r 1]) dX11_init_9 (ct_X10_init G _ _ ⟨fun i j hi => by exact hz.1 i j (by omega), fun i j hi => by exact hz.2 i j (by omega)⟩) (by decide) rfl rfl kX10_init iX10_init lX11_9 rfl (Nat.le_of_ble_eq_true rfl) (by decide) (by decide) (by decide) (by decide) ?_
  rintro _ _ ⟨rfl, J1, rfl, a1, a2⟩
  have z1 : ∀ i j, 13 ≤ i → J1 i j = 0 := fun i j hi => by rw [a2 i j (by omega)]; exact hz.1 i j (by omega)
  refine aw_putF dX11_init_12 fX11_10 ⟨Nat.le_of_ble_eq_true rfl, Nat.le_of_ble_eq_true rfl⟩ rfl rfl rfl ⟨_, _, rfl⟩ ?_
  refine aw_aload_n dX11_init_15 rfl (by decide) ?_
  refine aw_new (k := 7) dX11_init_16 kc7 clX11_16 inX7 iiX7 rfl (by decide) (fun j => by exact z1 _ j (by omega)) (fun j => by rw [ab_w_i (by omega), ab_w_i (by omega), ab_w_i (by omega), ab_w_i (by omega), ab_w_i (by omega), ab_w_i (by omega), ab_w_i (by omega), rw_n (by omega)]; exact hz.2 _ j (by omega)) hyX7 (by decide) (by decide) ?_
  refine aw_dup dX11_init_19 rfl ?_
  refine aw_callI (as := []) (rest := [ab_r 13, ab_r 1]) dX11_init_20 (ct_X7_init_13 G _ _ ⟨fun i j hi => by exact z1 i j (by omega), fun i j hi => by rw [ab_w_i (by omega), ab_w_i (by omega), ab_w_i (by omega), ab_w_i (by omega), ab_w_i (by omega), ab_w_i (by omega), ab_w_i (by omega), rw_n (by omega)]; exact hz.2 i j (by omega)⟩) (by decide) rfl rfl kX7_init iX7_init lX11_18 rfl (Nat.le_of_ble_eq_true rfl) (by decide) (by decide) (by decide) (by decide) ?_
  rintro _ _ ⟨rfl, J2, rfl, b21, b22, b23⟩
  have z2 : ∀ i j, 17 ≤ i → J2 i j = 0 := fun i j hi => by rw [b23 i j (by omega)]; exact z1 i j (by omega)
  refine aw_putF dX11_init_23 fX11_19 ⟨Nat.le_of_ble_eq_true rfl, Nat.le_of_ble_eq_true rfl⟩ rfl rfl rfl ⟨_, _, rfl⟩ ?_
  refine aw_aload_n dX11_init_26 rfl (by decide) ?_
  refine aw_new (k := 7) dX11_init_27 kc7 clX11_16 inX7 iiX7 rfl (by decide) (fun j => by exact z2 _ j (by omega)) (fun j => by rw [ab_w_i (by omega), ab_w_i (by omega), ab_w_i (by omega), ab_w_i (by omega), ab_w_i (by omega), ab_w_i (by omega), ab_w_i (by omega), ab_w_i (by omega), ab_w_i (by omega), ab_w_i (by omega), ab_w_i (by omega), rw_n (by omega)]; exact hz.2 _ j (by omega)) hyX7 (by decide) (by decide) ?_
  refine aw_dup dX11_init_30 rfl ?_
  refine aw_callI (as := []) (rest := [ab_r 17, ab_r 1]) dX11_init_31 (ct_X7_init_17 G _ _ ⟨fun i j hi => by exact z2 i j (by omega), fun i j hi => by rw [ab_w_i (by omega), ab_w_i (by omega), ab_w_i (by omega), ab_w_i (by omega), ab_w_i (by omega), ab_w_i (by omega), ab_w_i (by omega), ab_w_i (by omega), ab_w_i (by omega), ab_w_i (by omega), ab_w_i (by omega), rw_n (by omega)]; exact hz.2 i j (by omega)⟩) (by decide) rfl rfl kX7_init iX7_init lX11_18 rfl (Nat.le_of_ble_eq_true rfl) (by decide) (by decide) (by decide) (by decide) ?_
  rintro _ _ ⟨rfl, J3, rfl, b31, b32, b33⟩
  have z3 : ∀ i j, 21 ≤ i → J3 i j = 0 := fun i j hi => by rw [b33 i j (by omega)]; exact z2 i j (by omega)
  refine aw_putF dX11_init_34 fX11_23 ⟨Nat.le_of_ble_eq_true rfl, Nat.le_of_ble_eq_true rfl⟩ rfl rfl rfl ⟨_, _, rfl⟩ ?_
  refine aw_aload_n dX11_init_37 rfl (by decide) ?_
  refine aw_new (k := 9) dX11_init_38 kc9 clX11_26 inX9 iiX9 rfl (by decide) (fun j => by exact z3 _ j (by omega)) (fun j => by rw [ab_w_i (by omega), ab_w_i (by omega), ab_w_i (by omega), ab_w_i (by omega), ab_w_i (by omega), ab_w_i (by omega), ab_w_i (by omega), ab_w_i (by omega), ab_w_i (by omega), ab_w_i (by omega), ab_w_i (by omega), ab_w_i (by omega), ab_w_i (by omega), ab_w_i (by omega), ab_w_i (by omega), rw_n (by omega)]; exact hz.2 _ j (by omega)) hyX9 (by decide) (by decide) ?_
  refine aw_dup dX11_init_41 rfl ?_
  refine aw_callIN (host := "ThreeOffers") (as := []) (rest := [ab_r 21, ab_r 1]) dX11_init_42 (ct_X9_init G _ _ ⟨fun i j hi => by exact z3 i j (by omega), fun i j hi => by rw [ab_w_i (by omega), ab_w_i (by omega), ab_w_i (by omega), ab_w_i (by omega), ab_w_i (by omega), ab_w_i (by omega), ab_w_i (by omega), ab_w_i (by omega), ab_w_i (by omega), ab_w_i (by omega), ab_w_i (by omega), ab_w_i (by omega), ab_w_i (by omega), ab_w_i (by omega), ab_w_i (by omega), rw_n (by omega)]; exact hz.2 i j (by omega)⟩) (by decide) rfl rfl kX9_init iX9_init (lw_nest_in (k := 3) rfl) rfl (Nat.le_of_ble_eq_true rfl) (by decide) (by decide) (by decide) (by decide) ?_
  rintro _ _ ⟨rfl, rfl⟩
  refine aw_putF dX11_init_45 fX11_29 ⟨Nat.le_of_ble_eq_true rfl, Nat.le_of_ble_eq_true rfl⟩ rfl rfl rfl ⟨_, _, rfl⟩ ?_
  refine aw_aload_n dX11_init_48 rfl (by decide) ?_
  refine aw_new (k := 1) dX11_init_49 kc1 clX11_33 inX1 iiX1 rfl (by decide) (fun j => by exact z3 _ j (by omega)) (fun j => by rw [ab_w_i (by omega), ab_w_i (by omega), ab_w_i (by omega), ab_w_i (by omega), ab_w_i (by omega), ab_w_i (by omega), ab_w_i (by omega), ab_w_i (by omega), ab_w_i (by omega), ab_w_i (by omega), ab_w_i (by omega), ab_w_i (by omega), ab_w_i (by omega), ab_w_i (by omega), ab_w_i (by omega), ab_w_i (by omega), ab_w_i (by omega), rw_n (by omega)]; exact hz.2 _ j (by omega)) hyX1 (by decide) (by decide) ?_
  refine aw_dup dX11_init_52 rfl ?_
  refine aw_aload_n dX11_init_53 rfl (by decide) ?_
  refine aw_getrv (r := 2) dX11_init_54 fX11_10 ⟨Nat.le_of_ble_eq_true rfl, Nat.le_of_ble_eq_true rfl⟩ rfl rfl (by simp [ab_w, rw_]) ?_
  refine aw_callI (as := [ab_r 2]) (rest := [ab_r 23, ab_r 1]) dX11_init_57 (ct_X1_init_23 G _ _ ⟨fun i j hi => by exact z3 i j (by omega), fun i j hi => by rw [ab_w_i (by omega), ab_w_i (by omega), ab_w_i (by omega), ab_w_i (by omega), ab_w_i (by omega), ab_w_i (by omega), ab_w_i (by omega), ab_w_i (by omega), ab_w_i (by omega), ab_w_i (by omega), ab_w_i (by omega), ab_w_i (by omega), ab_w_i (by omega), ab_w_i (by omega), ab_w_i (by omega), ab_w_i (by omega), ab_w_i (by omega), rw_n (by omega)]; exact hz.2 i j (by omega)⟩) (by decide) rfl rfl kX1_init iX1_init lX11_35 rfl (Nat.le_of_ble_eq_true rfl) (by decide) (by decide) (by decide) (by decide) ?_
  rintro _ _ ⟨rfl, rfl⟩
  refine aw_putF dX11_init_60 fX11_38 ⟨Nat.le_of_ble_eq_true rfl, Nat.le_of_ble_eq_true rfl⟩ rfl rfl rfl ⟨_, _, rfl⟩ ?_
  refine aw_aload_n dX11_init_63 rfl (by decide) ?_
  refine aw_new (k := 1) dX11_init_64 kc1 clX11_33 inX1 iiX1 rfl (by decide) (fun j => by exact z3 _ j (by omega)) (fun j => by rw [ab_w_i (by omega), rw_n (by omega), ab_w_i (by omega), ab_w_i (by omega), rw_n (by omega), ab_w_i (by omega), ab_w_i (by omega), ab_w_i (by omega), ab_w_i (by omega), ab_w_i (by omega), ab_w_i (by omega), ab_w_i (by omega), ab_w_i (by omega), ab_w_i (by omega), ab_w_i (by omega), ab_w_i (by omega), ab_w_i (by omega), ab_w_i (by omega), ab_w_i (by omega), ab_w_i (by omega), ab_w_i (by omega), ab_w_i (by omega), ab_w_i (by omega), rw_n (by omega)]; exact hz.2 _ j (by omega)) hyX1 (by decide) (by decide) ?_
  refine aw_dup dX11_init_67 rfl ?_
  refine aw_aload_n dX11_init_68 rfl (by decide) ?_
  refine aw_getrv (r := 2) dX11_init_69 fX11_10 ⟨Nat.le_of_ble_eq_true rfl, Nat.le_of_ble_eq_true rfl⟩ rfl rfl (by simp [ab_w, rw_]) ?_
  refine aw_callI (as := [ab_r 2]) (rest := [ab_r 44, ab_r 1]) dX11_init_72 (ct_X1_init_44 G _ _ ⟨fun i j hi => by exact z3 i j (by omega), fun i j hi => by rw [ab_w_i (by omega), rw_n (by omega), ab_w_i (by omega), ab_w_i (by omega), rw_n (by omega), ab_w_i (by omega), ab_w_i (by omega), ab_w_i (by omega), ab_w_i (by omega), ab_w_i (by omega), ab_w_i (by omega), ab_w_i (by omega), ab_w_i (by omega), ab_w_i (by omega), ab_w_i (by omega), ab_w_i (by omega), ab_w_i (by omega), ab_w_i (by omega), ab_w_i (by omega), ab_w_i (by omega), ab_w_i (by omega), ab_w_i (by omega), ab_w_i (by omega), rw_n (by omega)]; exact hz.2 i j (by omega)⟩) (by decide) rfl rfl kX1_init iX1_init lX11_35 rfl (Nat.le_of_ble_eq_true rfl) (by decide) (by decide) (by decide) (by decide) ?_
  rintro _ _ ⟨rfl, rfl⟩
  refine aw_putF dX11_init_75 fX11_42 ⟨Nat.le_of_ble_eq_true rfl, Nat.le_of_ble_eq_true rfl⟩ rfl rfl rfl ⟨_, _, rfl⟩ ?_
  refine aw_aload_n dX11_init_78 rfl (by decide) ?_
  refine aw_new (k := 5) dX11_init_79 kc5 clX11_45 inX5 iiX5 rfl (by decide) (fun j => by exact z3 _ j (by omega)) (fun j => by rw [ab_w_i (by omega), rw_n (by omega), ab_w_i (by omega), ab_w_i (by omega), rw_n (by omega), ab_w_i (by omega), ab_w_i (by omega), rw_n (by omega), ab_w_i (by omega), ab_w_i (by omega), rw_n (by omega), ab_w_i (by omega), ab_w_i (by omega), ab_w_i (by omega), ab_w_i (by omega), ab_w_i (by omega), ab_w_i (by omega), ab_w_i (by omega), ab_w_i (by omega), ab_w_i (by omega), ab_w_i (by omega), ab_w_i (by omega), ab_w_i (by omega), ab_w_i (by omega), ab_w_i (by omega), ab_w_i (by omega), ab_w_i (by omega), ab_w_i (by omega), ab_w_i (by omega), rw_n (by omega)]; exact hz.2 _ j (by omega)) hyX5 (by decide) (by decide) ?_
  refine aw_dup dX11_init_82 rfl ?_
  refine aw_aload_n dX11_init_83 rfl (by decide) ?_
  refine aw_getrv (r := 2) dX11_init_84 fX11_10 ⟨Nat.le_of_ble_eq_true rfl, Nat.le_of_ble_eq_true rfl⟩ rfl rfl (by simp [ab_w, rw_]) ?_
  refine aw_callI (as := [ab_r 2]) (rest := [ab_r 65, ab_r 1]) dX11_init_87 (ct_X5_init G _ _ ⟨fun i j hi => by exact z3 i j (by omega), fun i j hi => by rw [ab_w_i (by omega), rw_n (by omega), ab_w_i (by omega), ab_w_i (by omega), rw_n (by omega), ab_w_i (by omega), ab_w_i (by omega), rw_n (by omega), ab_w_i (by omega), ab_w_i (by omega), rw_n (by omega), ab_w_i (by omega), ab_w_i (by omega), ab_w_i (by omega), ab_w_i (by omega), ab_w_i (by omega), ab_w_i (by omega), ab_w_i (by omega), ab_w_i (by omega), ab_w_i (by omega), ab_w_i (by omega), ab_w_i (by omega), ab_w_i (by omega), ab_w_i (by omega), ab_w_i (by omega), ab_w_i (by omega), ab_w_i (by omega), ab_w_i (by omega), ab_w_i (by omega), rw_n (by omega)]; exact hz.2 i j (by omega)⟩) (by decide) rfl rfl kX5_init iX5_init lX11_47 rfl (Nat.le_of_ble_eq_true rfl) (by decide) (by decide) (by decide) (by decide) ?_
  rintro _ _ ⟨rfl, rfl⟩
  refine aw_putF dX11_init_90 fX11_48 ⟨Nat.le_of_ble_eq_true rfl, Nat.le_of_ble_eq_true rfl⟩ rfl rfl rfl ⟨_, _, rfl⟩ ?_
  refine aw_aload_n dX11_init_93 rfl (by decide) ?_
  refine aw_new (k := 3) dX11_init_94 kc3 clX11_52 inX3 iiX3 rfl (by decide) (fun j => by exact z3 _ j (by omega)) (fun j => by rw [ab_w_i (by omega), ab_w_i (by omega), ab_w_i (by omega), ab_w_i (by omega), rw_n (by omega), ab_w_i (by omega), ab_w_i (by omega), rw_n (by omega), ab_w_i (by omega), ab_w_i (by omega), rw_n (by omega), ab_w_i (by omega), ab_w_i (by omega), rw_n (by omega), ab_w_i (by omega), ab_w_i (by omega), rw_n (by omega), ab_w_i (by omega), ab_w_i (by omega), ab_w_i (by omega), ab_w_i (by omega), ab_w_i (by omega), ab_w_i (by omega), ab_w_i (by omega), ab_w_i (by omega), ab_w_i (by omega), ab_w_i (by omega), ab_w_i (by omega), ab_w_i (by omega), ab_w_i (by omega), ab_w_i (by omega), ab_w_i (by omega), ab_w_i (by omega), ab_w_i (by omega), ab_w_i (by omega), rw_n (by omega)]; exact hz.2 _ j (by omega)) hyX3 (by decide) (by decide) ?_
  refine aw_dup dX11_init_97 rfl ?_
  refine aw_aload_n dX11_init_98 rfl (by decide) ?_
  refine aw_getrv (r := 2) dX11_init_99 fX11_10 ⟨Nat.le_of_ble_eq_true rfl, Nat.le_of_ble_eq_true rfl⟩ rfl rfl (by simp [ab_w, rw_]) ?_
  refine aw_callI (as := [ab_r 2]) (rest := [ab_r 73, ab_r 1]) dX11_init_102 (ct_X3_init G _ _ ⟨fun i j hi => by exact z3 i j (by omega), fun i j hi => by rw [ab_w_i (by omega), ab_w_i (by omega), ab_w_i (by omega), ab_w_i (by omega), rw_n (by omega), ab_w_i (by omega), ab_w_i (by omega), rw_n (by omega), ab_w_i (by omega), ab_w_i (by omega), rw_n (by omega), ab_w_i (by omega), ab_w_i (by omega), rw_n (by omega), ab_w_i (by omega), ab_w_i (by omega), rw_n (by omega), ab_w_i (by omega), ab_w_i (by omega), ab_w_i (by omega), ab_w_i (by omega), ab_w_i (by omega), ab_w_i (by omega), ab_w_i (by omega), ab_w_i (by omega), ab_w_i (by omega), ab_w_i (by omega), ab_w_i (by omega), ab_w_i (by omega), ab_w_i (by omega), ab_w_i (by omega), ab_w_i (by omega), ab_w_i (by omega), ab_w_i (by omega), ab_w_i (by omega), rw_n (by omega)]; exact hz.2 i j (by omega)⟩) (by decide) rfl rfl kX3_init iX3_init lX11_54 rfl (Nat.le_of_ble_eq_true rfl) (by decide) (by decide) (by decide) (by decide) ?_
  rintro _ _ ⟨rfl, rfl⟩
  refine aw_putF dX11_init_105 fX11_55 ⟨Nat.le_of_ble_eq_true rfl, Nat.le_of_ble_eq_true rfl⟩ rfl rfl rfl ⟨_, _, rfl⟩ ?_
  refine aw_aload_n dX11_init_108 rfl (by decide) ?_
  refine aw_new (k := 2) dX11_init_109 kc2 clX11_59 inX2 iiX2 rfl (by decide) (fun j => by exact z3 _ j (by omega)) (fun j => by rw [ab_w_i (by omega), ab_w_i (by omega), ab_w_i (by omega), ab_w_i (by omega), ab_w_i (by omega), ab_w_i (by omega), ab_w_i (by omega), ab_w_i (by omega), rw_n (by omega), ab_w_i (by omega), ab_w_i (by omega), rw_n (by omega), ab_w_i (by omega), ab_w_i (by omega), rw_n (by omega), ab_w_i (by omega), ab_w_i (by omega), rw_n (by omega), ab_w_i (by omega), ab_w_i (by omega), rw_n (by omega), ab_w_i (by omega), ab_w_i (by omega), ab_w_i (by omega), ab_w_i (by omega), ab_w_i (by omega), ab_w_i (by omega), ab_w_i (by omega), ab_w_i (by omega), ab_w_i (by omega), ab_w_i (by omega), ab_w_i (by omega), ab_w_i (by omega), ab_w_i (by omega), ab_w_i (by omega), ab_w_i (by omega), ab_w_i (by omega), ab_w_i (by omega), ab_w_i (by omega), rw_n (by omega)]; exact hz.2 _ j (by omega)) hyX2 (by decide) (by decide) ?_
  refine aw_dup dX11_init_112 rfl ?_
  refine aw_aload_n dX11_init_113 rfl (by decide) ?_
  refine aw_getrv (r := 2) dX11_init_114 fX11_10 ⟨Nat.le_of_ble_eq_true rfl, Nat.le_of_ble_eq_true rfl⟩ rfl rfl (by simp [ab_w, rw_]) ?_
  refine aw_callI (as := [ab_r 2]) (rest := [ab_r 76, ab_r 1]) dX11_init_117 (ct_X2_init G _ _ ⟨fun i j hi => by exact z3 i j (by omega), fun i j hi => by rw [ab_w_i (by omega), ab_w_i (by omega), ab_w_i (by omega), ab_w_i (by omega), ab_w_i (by omega), ab_w_i (by omega), ab_w_i (by omega), ab_w_i (by omega), rw_n (by omega), ab_w_i (by omega), ab_w_i (by omega), rw_n (by omega), ab_w_i (by omega), ab_w_i (by omega), rw_n (by omega), ab_w_i (by omega), ab_w_i (by omega), rw_n (by omega), ab_w_i (by omega), ab_w_i (by omega), rw_n (by omega), ab_w_i (by omega), ab_w_i (by omega), ab_w_i (by omega), ab_w_i (by omega), ab_w_i (by omega), ab_w_i (by omega), ab_w_i (by omega), ab_w_i (by omega), ab_w_i (by omega), ab_w_i (by omega), ab_w_i (by omega), ab_w_i (by omega), ab_w_i (by omega), ab_w_i (by omega), ab_w_i (by omega), ab_w_i (by omega), ab_w_i (by omega), ab_w_i (by omega), rw_n (by omega)]; exact hz.2 i j (by omega)⟩) (by decide) rfl rfl kX2_init iX2_init lX11_61 rfl (Nat.le_of_ble_eq_true rfl) (by decide) (by decide) (by decide) (by decide) ?_
  rintro _ _ ⟨rfl, rfl⟩
  refine aw_putF dX11_init_120 fX11_62 ⟨Nat.le_of_ble_eq_true rfl, Nat.le_of_ble_eq_true rfl⟩ rfl rfl rfl ⟨_, _, rfl⟩ ?_
  refine aw_aload_n dX11_init_123 rfl (by decide) ?_
  refine aw_new (k := 8) dX11_init_124 kc8 clX11_66 inX8 iiX8 rfl (by decide) (fun j => by exact z3 _ j (by omega)) (fun j => by rw [ab_w_i (by omega), ab_w_i (by omega), ab_w_i (by omega), ab_w_i (by omega), ab_w_i (by omega), ab_w_i (by omega), ab_w_i (by omega), ab_w_i (by omega), ab_w_i (by omega), ab_w_i (by omega), ab_w_i (by omega), ab_w_i (by omega), rw_n (by omega), ab_w_i (by omega), ab_w_i (by omega), rw_n (by omega), ab_w_i (by omega), ab_w_i (by omega), rw_n (by omega), ab_w_i (by omega), ab_w_i (by omega), rw_n (by omega), ab_w_i (by omega), ab_w_i (by omega), rw_n (by omega), ab_w_i (by omega), ab_w_i (by omega), ab_w_i (by omega), ab_w_i (by omega), ab_w_i (by omega), ab_w_i (by omega), ab_w_i (by omega), ab_w_i (by omega), ab_w_i (by omega), ab_w_i (by omega), ab_w_i (by omega), ab_w_i (by omega), ab_w_i (by omega), ab_w_i (by omega), ab_w_i (by omega), ab_w_i (by omega), ab_w_i (by omega), ab_w_i (by omega), rw_n (by omega)]; exact hz.2 _ j (by omega)) hyX8 (by decide) (by decide) ?_
  refine aw_dup dX11_init_127 rfl ?_
  refine aw_aload_n dX11_init_128 rfl (by decide) ?_
  refine aw_getrv (r := 76) dX11_init_129 fX11_62 ⟨Nat.le_of_ble_eq_true rfl, Nat.le_of_ble_eq_true rfl⟩ rfl rfl (by simp [ab_w, rw_]) ?_
  refine aw_callI (as := [ab_r 76]) (rest := [ab_r 79, ab_r 1]) dX11_init_132 (ct_X8_init G _ _ ⟨fun i j hi => by exact z3 i j (by omega), fun i j hi => by rw [ab_w_i (by omega), ab_w_i (by omega), ab_w_i (by omega), ab_w_i (by omega), ab_w_i (by omega), ab_w_i (by omega), ab_w_i (by omega), ab_w_i (by omega), ab_w_i (by omega), ab_w_i (by omega), ab_w_i (by omega), ab_w_i (by omega), rw_n (by omega), ab_w_i (by omega), ab_w_i (by omega), rw_n (by omega), ab_w_i (by omega), ab_w_i (by omega), rw_n (by omega), ab_w_i (by omega), ab_w_i (by omega), rw_n (by omega), ab_w_i (by omega), ab_w_i (by omega), rw_n (by omega), ab_w_i (by omega), ab_w_i (by omega), ab_w_i (by omega), ab_w_i (by omega), ab_w_i (by omega), ab_w_i (by omega), ab_w_i (by omega), ab_w_i (by omega), ab_w_i (by omega), ab_w_i (by omega), ab_w_i (by omega), ab_w_i (by omega), ab_w_i (by omega), ab_w_i (by omega), ab_w_i (by omega), ab_w_i (by omega), ab_w_i (by omega), ab_w_i (by omega), rw_n (by omega)]; exact hz.2 i j (by omega)⟩) (by decide) rfl rfl kX8_init iX8_init lX11_68 rfl (Nat.le_of_ble_eq_true rfl) (by decide) (by decide) (by decide) (by decide) ?_
  rintro _ _ ⟨rfl, rfl⟩
  refine aw_putF dX11_init_135 fX11_71 ⟨Nat.le_of_ble_eq_true rfl, Nat.le_of_ble_eq_true rfl⟩ rfl rfl rfl ⟨_, _, rfl⟩ ?_
  refine aw_aload_n dX11_init_138 rfl (by decide) ?_
  refine aw_new (k := 0) dX11_init_139 kc0 clX11_75 inX0 iiX0 rfl (by decide) (fun j => by exact z3 _ j (by omega)) (fun j => by rw [ab_w_i (by omega), ab_w_i (by omega), ab_w_i (by omega), ab_w_i (by omega), ab_w_i (by omega), ab_w_i (by omega), ab_w_i (by omega), ab_w_i (by omega), ab_w_i (by omega), ab_w_i (by omega), ab_w_i (by omega), ab_w_i (by omega), ab_w_i (by omega), ab_w_i (by omega), ab_w_i (by omega), rw_n (by omega), ab_w_i (by omega), ab_w_i (by omega), rw_n (by omega), ab_w_i (by omega), ab_w_i (by omega), rw_n (by omega), ab_w_i (by omega), ab_w_i (by omega), rw_n (by omega), ab_w_i (by omega), ab_w_i (by omega), rw_n (by omega), ab_w_i (by omega), ab_w_i (by omega), ab_w_i (by omega), ab_w_i (by omega), ab_w_i (by omega), ab_w_i (by omega), ab_w_i (by omega), ab_w_i (by omega), ab_w_i (by omega), ab_w_i (by omega), ab_w_i (by omega), ab_w_i (by omega), ab_w_i (by omega), ab_w_i (by omega), ab_w_i (by omega), ab_w_i (by omega), ab_w_i (by omega), ab_w_i (by omega), rw_n (by omega)]; exact hz.2 _ j (by omega)) hyX0 (by decide) (by decide) ?_
  refine aw_dup dX11_init_142 rfl ?_
  refine aw_aload_n dX11_init_143 rfl (by decide) ?_
  refine aw_getrv (r := 76) dX11_init_144 fX11_62 ⟨Nat.le_of_ble_eq_true rfl, Nat.le_of_ble_eq_true rfl⟩ rfl rfl (by simp [ab_w, rw_]) ?_
  refine aw_callI (as := [ab_r 76]) (rest := [ab_r 81, ab_r 1]) dX11_init_147 (ct_X0_init G _ _ ⟨fun i j hi => by exact z3 i j (by omega), fun i j hi => by rw [ab_w_i (by omega), ab_w_i (by omega), ab_w_i (by omega), ab_w_i (by omega), ab_w_i (by omega), ab_w_i (by omega), ab_w_i (by omega), ab_w_i (by omega), ab_w_i (by omega), ab_w_i (by omega), ab_w_i (by omega), ab_w_i (by omega), ab_w_i (by omega), ab_w_i (by omega), ab_w_i (by omega), rw_n (by omega), ab_w_i (by omega), ab_w_i (by omega), rw_n (by omega), ab_w_i (by omega), ab_w_i (by omega), rw_n (by omega), ab_w_i (by omega), ab_w_i (by omega), rw_n (by omega), ab_w_i (by omega), ab_w_i (by omega), rw_n (by omega), ab_w_i (by omega), ab_w_i (by omega), ab_w_i (by omega), ab_w_i (by omega), ab_w_i (by omega), ab_w_i (by omega), ab_w_i (by omega), ab_w_i (by omega), ab_w_i (by omega), ab_w_i (by omega), ab_w_i (by omega), ab_w_i (by omega), ab_w_i (by omega), ab_w_i (by omega), ab_w_i (by omega), ab_w_i (by omega), ab_w_i (by omega), ab_w_i (by omega), rw_n (by omega)]; exact hz.2 i j (by omega)⟩) (by decide) rfl rfl kX0_init iX0_init lX11_77 rfl (Nat.le_of_ble_eq_true rfl) (by decide) (by decide) (by decide) (by decide) ?_
  rintro _ _ ⟨rfl, rfl⟩
  refine aw_putF dX11_init_150 fX11_78 ⟨Nat.le_of_ble_eq_true rfl, Nat.le_of_ble_eq_true rfl⟩ rfl rfl rfl ⟨_, _, rfl⟩ ?_
  refine aw_return dX11_init_153 rfl ?_
  exact ⟨rfl, J3, rfl, fun s hs => (b33 8 s (by omega)).trans ((b23 8 s (by omega)).trans (a1 s hs)), ⟨(b33 13 0 (by omega)).trans b21.1, (b33 13 1 (by omega)).trans b21.2.1, (b33 13 2 (by omega)).trans b21.2.2.1, (b33 13 3 (by omega)).trans b21.2.2.2⟩, fun s hs => ⟨(b33 14 s (by omega)).trans (b22 s hs).1, (b33 15 s (by omega)).trans (b22 s hs).2.1, (b33 16 s (by omega)).trans (b22 s hs).2.2⟩, fun i b h1 h2 => (b33 i b (by omega)).trans ((b23 i b (by omega)).trans (a2 i b h1))⟩
set_option maxHeartbeats 4000000 in
set_option maxRecDepth 100000 in
theorem ct_X12_init (G : ab_G) (I : Nat → Nat → Int) (F : Nat → Nat → Nat) (hz : zA 84 I F) : Ct G 1 20 5066 YX12_init [ab_r 84] (84, I, F) (fun q h => q = none ∧ ∃ J : Nat → Nat → Int, h = (104, J, ab_w (ab_w (ab_w (ab_w (ab_w (ab_w (ab_w (ab_w (ab_w (ab_w (ab_w (ab_w (ab_w (ab_w (ab_w (ab_w (ab_w (ab_w (ab_w (ab_w (F) 84 0 85) 84 1 86) 84 3 87) 84 5 88) 84 6 89) 84 7 90) 84 8 91) 84 9 92) 84 11 93) 84 19 94) 84 20 95) 84 21 96) 84 22 97) 84 23 98) 84 24 99) 84 26 100) 84 27 101) 84 28 102) 84 29 103) 84 31 104) ∧ (∀ s, s < 4 → J 86 s = 1) ∧ (∀ k, k < 16 → J 95 k = r0T k) ∧ ∀ i b, i ≠ 86 → i ≠ 95 → J i b = I i b) := by
  refine Ct.ofW kX12_init (ls := [some (ab_r 84), none]) (Nat.le_of_ble_eq_true rfl) rfl ?_
  generalize hF1 : ab_w (ab_w (ab_w (ab_w (ab_w (ab_w (ab_w (ab_w (ab_w (ab_w (ab_w (ab_w (ab_w (ab_w (ab_w (ab_w (ab_w (ab_w (ab_w (ab_w (F) 84 0 85) 84 1 86) 84 3 87) 84 5 88) 84 6 89) 84 7 90) 84 8 91) 84 9 92) 84 11 93) 84 19 94) 84 20 95) 84 21 96) 84 22 97) 84 23 98) 84 24 99) 84 26 100) 84 27 101) 84 28 102) 84 29 103) 84 31 104 = F1
  have f1 : F1 84 1 = 86 := by rw [← hF1]; simp [ab_w]
  have f20 : F1 84 20 = 95 := by rw [← hF1]; simp [ab_w]
  generalize hZ : ab_Z G (fun q h => q = none ∧ ∃ J : Nat → Nat → Int, h = (104, J, F1) ∧ (∀ s, s < 4 → J 86 s = 1) ∧ (∀ k, k < 16 → J 95 k = r0T k) ∧ ∀ i b, i ≠ 86 → i ≠ 95 → J i b = I i b) 20 5066 = Z
  have lp : ∀ (d s : Nat) (J : Nat → Nat → Int), s + d = 4 → (∀ q, q < s → J 86 q = 1) → (∀ i b, i ≠ 86 → J i b = I i b) → aW G YX12_init (ab_rm 1 20 5066) Z 20 5066 (104, J, F1) 167 [some (ab_r 84), some (ab_i (s : Int))] [] := by
    intro d
    induction d with
    | zero =>
      intro s J hs h1 h2
      refine aw_iload_n dX12_init_167 rfl ?_
      refine aw_iconst dX12_init_168 ?_
      refine aw_icmp_ge (tgt := 185) dX12_init_169 rfl (by first | assumption | (unfold ab_In at *; omega)) (by first | assumption | (unfold ab_In at *; omega)) (fun c_169 => ?_) (fun c_169 => ?_)
      · refine aw_aload_n dX12_init_185 rfl (by decide) ?_
        refine aw_getrv (r := 95) dX12_init_186 fX12_41 ⟨Nat.le_of_ble_eq_true rfl, Nat.le_of_ble_eq_true rfl⟩ rfl rfl f20 ?_
        refine aw_callS (as := [ab_r 95]) (rest := []) dX12_init_189 (ct_X12_firstRules_95 G _ _) kX12_firstRules sX12_firstRules lX12_71 rfl (Nat.le_of_ble_eq_true rfl) (by decide) (by decide) (by decide) (by decide) ?_
        rintro _ _ ⟨rfl, J1, rfl, g1, g2⟩
        rw [← hZ]
        refine aw_return dX12_init_192 rfl ?_
        exact ⟨rfl, J1, rfl, fun q hq => (g2 86 q (by decide)).trans (h1 q (by omega)), g1, fun i b q1 q2 => (g2 i b q2).trans (h2 i b q1)⟩
      · exfalso; omega
    | succ d ih =>
      intro s J hs h1 h2
      refine aw_iload_n dX12_init_167 rfl ?_
      refine aw_iconst dX12_init_168 ?_
      refine aw_icmp_ge (tgt := 185) dX12_init_169 rfl (by first | assumption | (unfold ab_In at *; omega)) (by first | assumption | (unfold ab_In at *; omega)) (fun c_169 => ?_) (fun c_169 => ?_)
      · exfalso; omega
      · refine aw_aload_n dX12_init_172 rfl (by decide) ?_
        refine aw_getrv (r := 86) dX12_init_173 fX12_13 ⟨Nat.le_of_ble_eq_true rfl, Nat.le_of_ble_eq_true rfl⟩ rfl rfl f1 ?_
        refine aw_iload_n dX12_init_176 rfl ?_
        refine aw_iconst dX12_init_177 ?_
        refine aw_iastv (q := s) dX12_init_178 ⟨Nat.le_of_ble_eq_true rfl, Nat.le_of_ble_eq_true rfl⟩ rfl (by omega) (by omega) (by decide) rfl ?_
        refine aw_iinc (ls' := [some (ab_r 84), some (ab_i ((s : Int) + 1))]) dX12_init_179 (by decide) rfl rfl ?_
        refine aw_goto (tgt := 167) dX12_init_182 rfl ?_
        refine ih (s + 1) _ (by omega) (fun q hq => ?_) (fun i b hi => by rw [ab_u_i hi]; exact h2 i b hi)
        by_cases e : q = s
        · rw [e, ab_u_s]
        · rw [ab_u_j e]; exact h1 q (by omega)
  refine aw_aload_n dX12_init_0 rfl (by decide) ?_
  refine aw_objInit dX12_init_1 lX12_1 oi_in oi_co (by omega) (Nat.le_of_ble_eq_true rfl) (by decide) (by decide) ?_
  refine aw_aload_n dX12_init_4 rfl (by decide) ?_
  refine aw_bipush dX12_init_5 rfl ?_
  refine aw_newarr (q := 0) (k := 20) dX12_init_7 rfl ac_int rfl (fun _ _ h9 => h9) rfl (by decide) rfl rfl (by decide) (fun j => by exact hz.1 _ j (by omega)) (fun j => by exact hz.2 _ j (by omega)) (by decide) rfl (by decide) (by decide) (by decide) ?_
  refine aw_putF dX12_init_9 fX12_7 ⟨Nat.le_of_ble_eq_true rfl, Nat.le_of_ble_eq_true rfl⟩ rfl rfl rfl ⟨_, _, rfl⟩ ?_
  refine aw_aload_n dX12_init_12 rfl (by decide) ?_
  refine aw_iconst dX12_init_13 ?_
  refine aw_newarr (q := 0) (k := 20) dX12_init_14 rfl ac_int rfl (fun _ _ h9 => h9) rfl (by decide) rfl rfl (by decide) (fun j => by exact hz.1 _ j (by omega)) (fun j => by rw [ab_w_i (by omega)]; exact hz.2 _ j (by omega)) (by decide) rfl (by decide) (by decide) (by decide) ?_
  refine aw_putF dX12_init_16 fX12_13 ⟨Nat.le_of_ble_eq_true rfl, Nat.le_of_ble_eq_true rfl⟩ rfl rfl rfl ⟨_, _, rfl⟩ ?_
  refine aw_aload_n dX12_init_19 rfl (by decide) ?_
  refine aw_bipush dX12_init_20 rfl ?_
  refine aw_newarr (q := 0) (k := 20) dX12_init_22 rfl ac_int rfl (fun _ _ h9 => h9) rfl (by decide) rfl rfl (by decide) (fun j => by exact hz.1 _ j (by omega)) (fun j => by rw [ab_w_i (by omega), ab_w_i (by omega)]; exact hz.2 _ j (by omega)) (by decide) rfl (by decide) (by decide) (by decide) ?_
  refine aw_putF dX12_init_24 fX12_16 ⟨Nat.le_of_ble_eq_true rfl, Nat.le_of_ble_eq_true rfl⟩ rfl rfl rfl ⟨_, _, rfl⟩ ?_
  refine aw_aload_n dX12_init_27 rfl (by decide) ?_
  refine aw_bipush dX12_init_28 rfl ?_
  refine aw_newarr (q := 0) (k := 20) dX12_init_30 rfl ac_int rfl (fun _ _ h9 => h9) rfl (by decide) rfl rfl (by decide) (fun j => by exact hz.1 _ j (by omega)) (fun j => by rw [ab_w_i (by omega), ab_w_i (by omega), ab_w_i (by omega)]; exact hz.2 _ j (by omega)) (by decide) rfl (by decide) (by decide) (by decide) ?_
  refine aw_putF dX12_init_32 fX12_19 ⟨Nat.le_of_ble_eq_true rfl, Nat.le_of_ble_eq_true rfl⟩ rfl rfl rfl ⟨_, _, rfl⟩ ?_
  refine aw_aload_n dX12_init_35 rfl (by decide) ?_
  refine aw_bipush dX12_init_36 rfl ?_
  refine aw_newarr (q := 0) (k := 20) dX12_init_38 rfl ac_int rfl (fun _ _ h9 => h9) rfl (by decide) rfl rfl (by decide) (fun j => by exact hz.1 _ j (by omega)) (fun j => by rw [ab_w_i (by omega), ab_w_i (by omega), ab_w_i (by omega), ab_w_i (by omega)]; exact hz.2 _ j (by omega)) (by decide) rfl (by decide) (by decide) (by decide) ?_
  refine aw_putF dX12_init_40 fX12_22 ⟨Nat.le_of_ble_eq_true rfl, Nat.le_of_ble_eq_true rfl⟩ rfl rfl rfl ⟨_, _, rfl⟩ ?_
  refine aw_aload_n dX12_init_43 rfl (by decide) ?_
  refine aw_bipush dX12_init_44 rfl ?_
  refine aw_newarr (q := 0) (k := 20) dX12_init_46 rfl ac_int rfl (fun _ _ h9 => h9) rfl (by decide) rfl rfl (by decide) (fun j => by exact hz.1 _ j (by omega)) (fun j => by rw [ab_w_i (by omega), ab_w_i (by omega), ab_w_i (by omega), ab_w_i (by omega), ab_w_i (by omega)]; exact hz.2 _ j (by omega)) (by decide) rfl (by decide) (by decide) (by decide) ?_
  refine aw_putF dX12_init_48 fX12_25 ⟨Nat.le_of_ble_eq_true rfl, Nat.le_of_ble_eq_true rfl⟩ rfl rfl rfl ⟨_, _, rfl⟩ ?_
  refine aw_aload_n dX12_init_51 rfl (by decide) ?_
  refine aw_bipush dX12_init_52 rfl ?_
  refine aw_newarr (q := 0) (k := 20) dX12_init_54 rfl ac_int rfl (fun _ _ h9 => h9) rfl (by decide) rfl rfl (by decide) (fun j => by exact hz.1 _ j (by omega)) (fun j => by rw [ab_w_i (by omega), ab_w_i (by omega), ab_w_i (by omega), ab_w_i (by omega), ab_w_i (by omega), ab_w_i (by omega)]; exact hz.2 _ j (by omega)) (by decide) rfl (by decide) (by decide) (by decide) ?_
  refine aw_putF dX12_init_56 fX12_28 ⟨Nat.le_of_ble_eq_true rfl, Nat.le_of_ble_eq_true rfl⟩ rfl rfl rfl ⟨_, _, rfl⟩ ?_
  refine aw_aload_n dX12_init_59 rfl (by decide) ?_
  refine aw_bipush dX12_init_60 rfl ?_
  refine aw_newarr (q := 2) (k := 22) dX12_init_62 rfl ac_boolean rfl (fun _ _ h9 => h9) rfl (by decide) rfl rfl (by decide) (fun j => by exact hz.1 _ j (by omega)) (fun j => by rw [ab_w_i (by omega), ab_w_i (by omega), ab_w_i (by omega), ab_w_i (by omega), ab_w_i (by omega), ab_w_i (by omega), ab_w_i (by omega)]; exact hz.2 _ j (by omega)) (by decide) rfl (by decide) (by decide) (by decide) ?_
  refine aw_putF dX12_init_64 fX12_31 ⟨Nat.le_of_ble_eq_true rfl, Nat.le_of_ble_eq_true rfl⟩ rfl rfl rfl ⟨_, _, rfl⟩ ?_
  refine aw_aload_n dX12_init_67 rfl (by decide) ?_
  refine aw_sipush dX12_init_68 rfl ?_
  refine aw_newarr (q := 0) (k := 20) dX12_init_71 rfl ac_int rfl (fun _ _ h9 => h9) rfl (by decide) rfl rfl (by decide) (fun j => by exact hz.1 _ j (by omega)) (fun j => by rw [ab_w_i (by omega), ab_w_i (by omega), ab_w_i (by omega), ab_w_i (by omega), ab_w_i (by omega), ab_w_i (by omega), ab_w_i (by omega), ab_w_i (by omega)]; exact hz.2 _ j (by omega)) (by decide) rfl (by decide) (by decide) (by decide) ?_
  refine aw_putF dX12_init_73 fX12_35 ⟨Nat.le_of_ble_eq_true rfl, Nat.le_of_ble_eq_true rfl⟩ rfl rfl rfl ⟨_, _, rfl⟩ ?_
  refine aw_aload_n dX12_init_76 rfl (by decide) ?_
  refine aw_bipush dX12_init_77 rfl ?_
  refine aw_newarr (q := 0) (k := 20) dX12_init_79 rfl ac_int rfl (fun _ _ h9 => h9) rfl (by decide) rfl rfl (by decide) (fun j => by exact hz.1 _ j (by omega)) (fun j => by rw [ab_w_i (by omega), ab_w_i (by omega), ab_w_i (by omega), ab_w_i (by omega), ab_w_i (by omega), ab_w_i (by omega), ab_w_i (by omega), ab_w_i (by omega), ab_w_i (by omega)]; exact hz.2 _ j (by omega)) (by decide) rfl (by decide) (by decide) (by decide) ?_
  refine aw_putF dX12_init_81 fX12_38 ⟨Nat.le_of_ble_eq_true rfl, Nat.le_of_ble_eq_true rfl⟩ rfl rfl rfl ⟨_, _, rfl⟩ ?_
  refine aw_aload_n dX12_init_84 rfl (by decide) ?_
  refine aw_bipush dX12_init_85 rfl ?_
  refine aw_newarr (q := 0) (k := 20) dX12_init_87 rfl ac_int rfl (fun _ _ h9 => h9) rfl (by decide) rfl rfl (by decide) (fun j => by exact hz.1 _ j (by omega)) (fun j => by rw [ab_w_i (by omega), ab_w_i (by omega), ab_w_i (by omega), ab_w_i (by omega), ab_w_i (by omega), ab_w_i (by omega), ab_w_i (by omega), ab_w_i (by omega), ab_w_i (by omega), ab_w_i (by omega)]; exact hz.2 _ j (by omega)) (by decide) rfl (by decide) (by decide) (by decide) ?_
  refine aw_putF dX12_init_89 fX12_41 ⟨Nat.le_of_ble_eq_true rfl, Nat.le_of_ble_eq_true rfl⟩ rfl rfl rfl ⟨_, _, rfl⟩ ?_
  refine aw_aload_n dX12_init_92 rfl (by decide) ?_
  refine aw_bipush dX12_init_93 rfl ?_
  refine aw_newarr (q := 0) (k := 20) dX12_init_95 rfl ac_int rfl (fun _ _ h9 => h9) rfl (by decide) rfl rfl (by decide) (fun j => by exact hz.1 _ j (by omega)) (fun j => by rw [ab_w_i (by omega), ab_w_i (by omega), ab_w_i (by omega), ab_w_i (by omega), ab_w_i (by omega), ab_w_i (by omega), ab_w_i (by omega), ab_w_i (by omega), ab_w_i (by omega), ab_w_i (by omega), ab_w_i (by omega)]; exact hz.2 _ j (by omega)) (by decide) rfl (by decide) (by decide) (by decide) ?_
  refine aw_putF dX12_init_97 fX12_44 ⟨Nat.le_of_ble_eq_true rfl, Nat.le_of_ble_eq_true rfl⟩ rfl rfl rfl ⟨_, _, rfl⟩ ?_
  refine aw_aload_n dX12_init_100 rfl (by decide) ?_
  refine aw_sipush dX12_init_101 rfl ?_
  refine aw_newarr (q := 0) (k := 20) dX12_init_104 rfl ac_int rfl (fun _ _ h9 => h9) rfl (by decide) rfl rfl (by decide) (fun j => by exact hz.1 _ j (by omega)) (fun j => by rw [ab_w_i (by omega), ab_w_i (by omega), ab_w_i (by omega), ab_w_i (by omega), ab_w_i (by omega), ab_w_i (by omega), ab_w_i (by omega), ab_w_i (by omega), ab_w_i (by omega), ab_w_i (by omega), ab_w_i (by omega), ab_w_i (by omega)]; exact hz.2 _ j (by omega)) (by decide) rfl (by decide) (by decide) (by decide) ?_
  refine aw_putF dX12_init_106 fX12_47 ⟨Nat.le_of_ble_eq_true rfl, Nat.le_of_ble_eq_true rfl⟩ rfl rfl rfl ⟨_, _, rfl⟩ ?_
  refine aw_aload_n dX12_init_109 rfl (by decide) ?_
  refine aw_bipush dX12_init_110 rfl ?_
  refine aw_newarr (q := 0) (k := 20) dX12_init_112 rfl ac_int rfl (fun _ _ h9 => h9) rfl (by decide) rfl rfl (by decide) (fun j => by exact hz.1 _ j (by omega)) (fun j => by rw [ab_w_i (by omega), ab_w_i (by omega), ab_w_i (by omega), ab_w_i (by omega), ab_w_i (by omega), ab_w_i (by omega), ab_w_i (by omega), ab_w_i (by omega), ab_w_i (by omega), ab_w_i (by omega), ab_w_i (by omega), ab_w_i (by omega), ab_w_i (by omega)]; exact hz.2 _ j (by omega)) (by decide) rfl (by decide) (by decide) (by decide) ?_
  refine aw_putF dX12_init_114 fX12_50 ⟨Nat.le_of_ble_eq_true rfl, Nat.le_of_ble_eq_true rfl⟩ rfl rfl rfl ⟨_, _, rfl⟩ ?_
  refine aw_aload_n dX12_init_117 rfl (by decide) ?_
  refine aw_iconst dX12_init_118 ?_
  refine aw_newarr (q := 0) (k := 20) dX12_init_119 rfl ac_int rfl (fun _ _ h9 => h9) rfl (by decide) rfl rfl (by decide) (fun j => by exact hz.1 _ j (by omega)) (fun j => by rw [ab_w_i (by omega), ab_w_i (by omega), ab_w_i (by omega), ab_w_i (by omega), ab_w_i (by omega), ab_w_i (by omega), ab_w_i (by omega), ab_w_i (by omega), ab_w_i (by omega), ab_w_i (by omega), ab_w_i (by omega), ab_w_i (by omega), ab_w_i (by omega), ab_w_i (by omega)]; exact hz.2 _ j (by omega)) (by decide) rfl (by decide) (by decide) (by decide) ?_
  refine aw_putF dX12_init_121 fX12_53 ⟨Nat.le_of_ble_eq_true rfl, Nat.le_of_ble_eq_true rfl⟩ rfl rfl rfl ⟨_, _, rfl⟩ ?_
  refine aw_aload_n dX12_init_124 rfl (by decide) ?_
  refine aw_bipush dX12_init_125 rfl ?_
  refine aw_newarr (q := 0) (k := 20) dX12_init_127 rfl ac_int rfl (fun _ _ h9 => h9) rfl (by decide) rfl rfl (by decide) (fun j => by exact hz.1 _ j (by omega)) (fun j => by rw [ab_w_i (by omega), ab_w_i (by omega), ab_w_i (by omega), ab_w_i (by omega), ab_w_i (by omega), ab_w_i (by omega), ab_w_i (by omega), ab_w_i (by omega), ab_w_i (by omega), ab_w_i (by omega), ab_w_i (by omega), ab_w_i (by omega), ab_w_i (by omega), ab_w_i (by omega), ab_w_i (by omega)]; exact hz.2 _ j (by omega)) (by decide) rfl (by decide) (by decide) (by decide) ?_
  refine aw_putF dX12_init_129 fX12_56 ⟨Nat.le_of_ble_eq_true rfl, Nat.le_of_ble_eq_true rfl⟩ rfl rfl rfl ⟨_, _, rfl⟩ ?_
  refine aw_aload_n dX12_init_132 rfl (by decide) ?_
  refine aw_bipush dX12_init_133 rfl ?_
  refine aw_newarr (q := 0) (k := 20) dX12_init_135 rfl ac_int rfl (fun _ _ h9 => h9) rfl (by decide) rfl rfl (by decide) (fun j => by exact hz.1 _ j (by omega)) (fun j => by rw [ab_w_i (by omega), ab_w_i (by omega), ab_w_i (by omega), ab_w_i (by omega), ab_w_i (by omega), ab_w_i (by omega), ab_w_i (by omega), ab_w_i (by omega), ab_w_i (by omega), ab_w_i (by omega), ab_w_i (by omega), ab_w_i (by omega), ab_w_i (by omega), ab_w_i (by omega), ab_w_i (by omega), ab_w_i (by omega)]; exact hz.2 _ j (by omega)) (by decide) rfl (by decide) (by decide) (by decide) ?_
  refine aw_putF dX12_init_137 fX12_59 ⟨Nat.le_of_ble_eq_true rfl, Nat.le_of_ble_eq_true rfl⟩ rfl rfl rfl ⟨_, _, rfl⟩ ?_
  refine aw_aload_n dX12_init_140 rfl (by decide) ?_
  refine aw_bipush dX12_init_141 rfl ?_
  refine aw_newarr (q := 0) (k := 20) dX12_init_143 rfl ac_int rfl (fun _ _ h9 => h9) rfl (by decide) rfl rfl (by decide) (fun j => by exact hz.1 _ j (by omega)) (fun j => by rw [ab_w_i (by omega), ab_w_i (by omega), ab_w_i (by omega), ab_w_i (by omega), ab_w_i (by omega), ab_w_i (by omega), ab_w_i (by omega), ab_w_i (by omega), ab_w_i (by omega), ab_w_i (by omega), ab_w_i (by omega), ab_w_i (by omega), ab_w_i (by omega), ab_w_i (by omega), ab_w_i (by omega), ab_w_i (by omega), ab_w_i (by omega)]; exact hz.2 _ j (by omega)) (by decide) rfl (by decide) (by decide) (by decide) ?_
  refine aw_putF dX12_init_145 fX12_62 ⟨Nat.le_of_ble_eq_true rfl, Nat.le_of_ble_eq_true rfl⟩ rfl rfl rfl ⟨_, _, rfl⟩ ?_
  refine aw_aload_n dX12_init_148 rfl (by decide) ?_
  refine aw_bipush dX12_init_149 rfl ?_
  refine aw_newarr (q := 0) (k := 20) dX12_init_151 rfl ac_int rfl (fun _ _ h9 => h9) rfl (by decide) rfl rfl (by decide) (fun j => by exact hz.1 _ j (by omega)) (fun j => by rw [ab_w_i (by omega), ab_w_i (by omega), ab_w_i (by omega), ab_w_i (by omega), ab_w_i (by omega), ab_w_i (by omega), ab_w_i (by omega), ab_w_i (by omega), ab_w_i (by omega), ab_w_i (by omega), ab_w_i (by omega), ab_w_i (by omega), ab_w_i (by omega), ab_w_i (by omega), ab_w_i (by omega), ab_w_i (by omega), ab_w_i (by omega), ab_w_i (by omega)]; exact hz.2 _ j (by omega)) (by decide) rfl (by decide) (by decide) (by decide) ?_
  refine aw_putF dX12_init_153 fX12_65 ⟨Nat.le_of_ble_eq_true rfl, Nat.le_of_ble_eq_true rfl⟩ rfl rfl rfl ⟨_, _, rfl⟩ ?_
  refine aw_aload_n dX12_init_156 rfl (by decide) ?_
  refine aw_sipush dX12_init_157 rfl ?_
  refine aw_newarr (q := 0) (k := 20) dX12_init_160 rfl ac_int rfl (fun _ _ h9 => h9) rfl (by decide) rfl rfl (by decide) (fun j => by exact hz.1 _ j (by omega)) (fun j => by rw [ab_w_i (by omega), ab_w_i (by omega), ab_w_i (by omega), ab_w_i (by omega), ab_w_i (by omega), ab_w_i (by omega), ab_w_i (by omega), ab_w_i (by omega), ab_w_i (by omega), ab_w_i (by omega), ab_w_i (by omega), ab_w_i (by omega), ab_w_i (by omega), ab_w_i (by omega), ab_w_i (by omega), ab_w_i (by omega), ab_w_i (by omega), ab_w_i (by omega), ab_w_i (by omega)]; exact hz.2 _ j (by omega)) (by decide) rfl (by decide) (by decide) (by decide) ?_
  refine aw_putF dX12_init_162 fX12_68 ⟨Nat.le_of_ble_eq_true rfl, Nat.le_of_ble_eq_true rfl⟩ rfl rfl rfl ⟨_, _, rfl⟩ ?_
  refine aw_iconst dX12_init_165 ?_
  refine aw_istore_n (ls' := [some (ab_r 84), some (ab_i 0)]) dX12_init_166 (by decide) rfl ?_
  rw [hF1]
  exact lp 4 0 I (by omega) (fun q hq => by omega) (fun _ _ _ => rfl)
def fAll : Nat → Nat → Nat := ab_w (ab_w (ab_w (ab_w (ab_w (ab_w (ab_w (ab_w (ab_w (ab_w (ab_w (ab_w (ab_w (ab_w (ab_w (ab_w (ab_w (ab_w (ab_w (ab_w (ab_w (ab_w (ab_w (ab_w (ab_w (ab_w (ab_w (ab_w (ab_w (ab_w (ab_w (ab_w (ab_w (ab_w (ab_w (ab_w (ab_w (ab_w (ab_w (rw_ (ab_w (ab_w (rw_ (ab_w (ab_w (rw_ (ab_w (ab_w (rw_ (ab_w (ab_w (rw_ (ab_w (ab_w (ab_w (ab_w (ab_w (ab_w (ab_w (ab_w (ab_w (ab_w (ab_w (ab_w (ab_w (ab_w (ab_w (ab_w (ab_w (ab_w (rw_ ((fun _ _ => 0)) 3 (fun j => if j < 4 then 2 + 2 + j else 0)) 2 0 3) 2 1 8) 9 0 10) 2 2 9) 11 0 12) 2 3 11) 1 0 2) 13 4 14) 13 5 15) 13 6 16) 1 1 13) 17 4 18) 17 5 19) 17 6 20) 1 2 17) 21 0 22) 1 3 21) 23 1 24) 25 (fun j => if j < 6 then 24 + 2 + j else 0)) 23 6 25) 23 0 2) 24 (fun j => if j < 12 then 32 + j else 0)) 1 4 23) 44 1 45) 46 (fun j => if j < 6 then 45 + 2 + j else 0)) 44 6 46) 44 0 2) 45 (fun j => if j < 12 then 53 + j else 0)) 1 5 44) 65 1 66) 67 (fun j => if j < 4 then 66 + 2 + j else 0)) 65 2 67) 65 3 72) 65 0 2) 1 6 65) 73 1 74) 73 3 75) 73 0 2) 1 7 73) 76 1 77) 76 2 78) 76 0 2) 1 8 76) 79 1 80) 79 0 76) 1 9 79) 81 1 82) 81 2 83) 81 0 76) 1 10 81) 84 0 85) 84 1 86) 84 3 87) 84 5 88) 84 6 89) 84 7 90) 84 8 91) 84 9 92) 84 11 93) 84 19 94) 84 20 95) 84 21 96) 84 22 97) 84 23 98) 84 24 99) 84 26 100) 84 27 101) 84 28 102) 84 29 103) 84 31 104
def fSm (F : Nat → Nat → Nat) : Prop := ∀ i j, 105 ≤ i ∨ 32 ≤ j → F i j = 0
theorem fSm.w {F : Nat → Nat → Nat} (h : fSm F) {a b c : Nat} (ha : a < 105) (hb : b < 32) : fSm (ab_w F a b c) := fun i j hi => by
  unfold ab_w
  rw [if_neg (by omega)]; exact h i j hi
theorem fSm.r {F : Nat → Nat → Nat} (h : fSm F) {a N b : Nat} (ha : a < 105) (hN : N ≤ 32) : fSm (rw_ F a (fun j => if j < N then b + j else 0)) := fun i j hi => by
  unfold rw_
  by_cases e : i = a
  · rw [if_pos e]; exact if_neg (by omega)
  · rw [if_neg e]; exact h i j hi
theorem fSm0 : fSm (fun _ _ => 0) := fun _ _ _ => rfl
set_option maxHeartbeats 4000000 in
set_option maxRecDepth 100000 in
theorem fAll_sm : fSm fAll := (((((((((((((((((((((((((((((((((((((((((((((((((((((((((((((((((((((((fSm0).r (by decide) (by decide)).w (by decide) (by decide)).w (by decide) (by decide)).w (by decide) (by decide)).w (by decide) (by decide)).w (by decide) (by decide)).w (by decide) (by decide)).w (by decide) (by decide)).w (by decide) (by decide)).w (by decide) (by decide)).w (by decide) (by decide)).w (by decide) (by decide)).w (by decide) (by decide)).w (by decide) (by decide)).w (by decide) (by decide)).w (by decide) (by decide)).w (by decide) (by decide)).w (by decide) (by decide)).w (by decide) (by decide)).r (by decide) (by decide)).w (by decide) (by decide)).w (by decide) (by decide)).r (by decide) (by decide)).w (by decide) (by decide)).w (by decide) (by decide)).r (by decide) (by decide)).w (by decide) (by decide)).w (by decide) (by decide)).r (by decide) (by decide)).w (by decide) (by decide)).w (by decide) (by decide)).r (by decide) (by decide)).w (by decide) (by decide)).w (by decide) (by decide)).w (by decide) (by decide)).w (by decide) (by decide)).w (by decide) (by decide)).w (by decide) (by decide)).w (by decide) (by decide)).w (by decide) (by decide)).w (by decide) (by decide)).w (by decide) (by decide)).w (by decide) (by decide)).w (by decide) (by decide)).w (by decide) (by decide)).w (by decide) (by decide)).w (by decide) (by decide)).w (by decide) (by decide)).w (by decide) (by decide)).w (by decide) (by decide)).w (by decide) (by decide)).w (by decide) (by decide)).w (by decide) (by decide)).w (by decide) (by decide)).w (by decide) (by decide)).w (by decide) (by decide)).w (by decide) (by decide)).w (by decide) (by decide)).w (by decide) (by decide)).w (by decide) (by decide)).w (by decide) (by decide)).w (by decide) (by decide)).w (by decide) (by decide)).w (by decide) (by decide)).w (by decide) (by decide)).w (by decide) (by decide)).w (by decide) (by decide)).w (by decide) (by decide)).w (by decide) (by decide)).w (by decide) (by decide)).w (by decide) (by decide)
theorem fl0_len : ∀ r ∈ ab_fl0, r.length ≤ 32 := by decide
theorem f0_sm : fSm ab_F0 := fun i j hi => by
  unfold ab_F0
  by_cases e : i < 105
  · have h1 : (ab_fl0.getD i []).length ≤ 32 := by
      rw [List.getD_eq_getElem?_getD, List.getElem?_eq_getElem (show i < ab_fl0.length from e)]
      exact fl0_len _ (List.getElem_mem _)
    rw [List.getD_eq_getElem?_getD, List.getElem?_eq_none (by omega)]; rfl
  · have h1 : ab_fl0.getD i [] = [] := by
      rw [List.getD_eq_getElem?_getD, List.getElem?_eq_none (show ab_fl0.length ≤ i from Nat.not_lt.mp e)]; rfl
    rw [h1]; rfl
set_option maxHeartbeats 4000000 in
set_option maxRecDepth 100000 in
theorem fAll_in : ∀ (i : Fin 105) (j : Fin 32), i.val ≠ 24 → i.val ≠ 45 → fAll i.val j.val = ab_F0 i.val j.val := by decide +kernel
theorem fAll_fb : ab_FB fAll := fun i j h1 h2 => by
  by_cases e : i < 105 ∧ j < 32
  · exact fAll_in ⟨i, e.1⟩ ⟨j, e.2⟩ h1 h2
  · rw [fAll_sm i j (by omega), f0_sm i j (by omega)]
set_option maxHeartbeats 4000000 in
set_option maxRecDepth 100000 in
theorem fAll_24 : ∀ i : Fin 12, fAll 24 i.val = 32 + i.val := by decide +kernel
set_option maxHeartbeats 4000000 in
set_option maxRecDepth 100000 in
theorem fAll_45 : ∀ i : Fin 12, fAll 45 i.val = 53 + i.val := by decide +kernel
theorem inv_0 {J : Nat → Nat → Int} (a1 : ∀ s, s < 4 → J 8 s = 1) (a2 : J 13 0 = 0 ∧ J 13 1 = 2 ∧ J 13 2 = 0 ∧ J 13 3 = 1) (a3 : ∀ s, s < 4 → J 14 s = 0 ∧ J 15 s = 0 ∧ J 16 s = 0) (a4 : ∀ s, s < 4 → J 86 s = 1) (a5 : ∀ k, k < 16 → J 95 k = r0T k) (a6 : ∀ i b, i ≠ 8 → ¬ (13 ≤ i ∧ i ≤ 20) → i ≠ 86 → i ≠ 95 → J i b = 0) : INV 0 J fAll := by
  have hP : ∀ (p : Nat) (wk nx : Int), 23 ≤ p → p ≤ 64 → 0 ≤ wk → 0 ≤ nx → PB wk nx (tup J p) := fun p wk nx h1 h2 h3 h4 => by
    have e : ∀ b, J p b = 0 := fun b => a6 p b (by omega) (by omega) (by omega) (by omega)
    unfold PB tup
    simp only [e]
    omega
  refine ⟨fAll_fb, ⟨fun s hs => ?_, fun s k hs hk => ?_, ?_, fun j hj => ?_, ?_, fun j hj => ?_⟩, ⟨fun s hs => ?_, fun s k hs hk => ?_, ?_, fun j hj => ?_, ?_, fun j hj => ?_⟩, ?_, ?_, ⟨?_, ?_, fun j _ _ => ?_⟩, ⟨?_, ?_, fun j _ => ?_⟩, ⟨fun i hi => ?_, fun a b ha hb he => ?_, fun p h1 h2 => hP p _ _ (by omega) (by omega) (by decide) (by decide)⟩, [], [], 0, 0, ⟨⟨by decide, ⟨?_, ?_, ?_⟩, fun i hi => ?_, fun a b ha hb he => ?_, fun i hi => absurd hi (Nat.not_lt_zero i), fun t ht => by simp at ht, fun p h1 h2 => hP p _ _ (by omega) (by omega) (by decide) (by decide)⟩, ⟨by decide, ⟨?_, ?_, ?_⟩, fun i hi => absurd hi (Nat.not_lt_zero i), fun t ht => by simp at ht⟩, List.Perm.refl _, ⟨by simp, fun t ht => by simp at ht⟩, by omega, by omega, fun w s hw hs => ?_, ?_⟩, Or.inl ?_⟩
  · rw [a1 s hs]; omega
  · rw [a6 (4 + s) k (by omega) (by omega) (by omega) (by omega)]; omega
  · rw [a6 9 1 (by omega) (by omega) (by omega) (by omega)]; omega
  · rw [a6 10 j (by omega) (by omega) (by omega) (by omega)]; omega
  · rw [a6 11 1 (by omega) (by omega) (by omega) (by omega)]; omega
  · rw [a6 12 j (by omega) (by omega) (by omega) (by omega)]; omega
  · rw [a1 s hs, a4 s hs]
  · rw [a6 (4 + s) k (by omega) (by omega) (by omega) (by omega), a6 85 _ (by omega) (by omega) (by omega) (by omega)]
  · rw [a6 9 1 (by omega) (by omega) (by omega) (by omega), a6 84 2 (by omega) (by omega) (by omega) (by omega)]
  · rw [a6 10 j (by omega) (by omega) (by omega) (by omega), a6 87 j (by omega) (by omega) (by omega) (by omega)]
  · rw [a6 11 1 (by omega) (by omega) (by omega) (by omega), a6 84 4 (by omega) (by omega) (by omega) (by omega)]
  · rw [a6 12 j (by omega) (by omega) (by omega) (by omega), a6 88 j (by omega) (by omega) (by omega) (by omega)]
  · unfold RB
    refine ⟨by rw [a2.1]; omega, by rw [a2.2.1]; omega, by rw [a2.2.2.1]; omega, by rw [a2.2.2.2]; omega, fun s hs => ?_⟩
    have := a3 s hs
    rw [show (13 + 1 : Nat) = 14 from rfl, show (13 + 2 : Nat) = 15 from rfl, show (13 + 3 : Nat) = 16 from rfl, this.1, this.2.1, this.2.2]; omega
  · refine ⟨⟨by rw [a2.1, a5 0 (by decide)]; rfl, by rw [a2.2.1, a5 1 (by decide)]; rfl, by rw [a2.2.2.1, a5 2 (by decide)]; rfl, by rw [a2.2.2.2, a5 3 (by decide)]; rfl⟩, fun s hs => ?_⟩
    have := a3 s hs
    rw [this.1, this.2.1, this.2.2, a5 _ (by omega), a5 _ (by omega), a5 _ (by omega)]
    unfold r0T
    rw [if_neg (by omega), if_neg (by omega), if_neg (by omega), if_neg (by omega), if_neg (by omega), if_neg (by omega)]
    exact ⟨rfl, rfl, rfl⟩
  · rw [a6 21 1 (by omega) (by omega) (by omega) (by omega)]; omega
  · rw [a6 21 1 (by omega) (by omega) (by omega) (by omega), a6 84 10 (by omega) (by omega) (by omega) (by omega)]
  · rw [a6 93 j (by omega) (by omega) (by omega) (by omega), a6 22 j (by omega) (by omega) (by omega) (by omega)]; omega
  · rw [a6 76 3 (by omega) (by omega) (by omega) (by omega)]; omega
  · rw [a6 76 3 (by omega) (by omega) (by omega) (by omega), a6 84 25 (by omega) (by omega) (by omega) (by omega)]
  · rw [a6 100 j (by omega) (by omega) (by omega) (by omega), a6 77 j (by omega) (by omega) (by omega) (by omega), a6 101 j (by omega) (by omega) (by omega) (by omega), a6 78 j (by omega) (by omega) (by omega) (by omega)]; omega
  · have := fAll_45 ⟨i, hi⟩; simp only [] at this; omega
  · have e1 := fAll_45 ⟨a, ha⟩; have e2 := fAll_45 ⟨b, hb⟩; simp only [] at e1 e2; omega
  · rw [a6 23 2 (by omega) (by omega) (by omega) (by omega)]; rfl
  · rw [a6 23 3 (by omega) (by omega) (by omega) (by omega)]
  · rw [a6 23 4 (by omega) (by omega) (by omega) (by omega)]
  · have := fAll_24 ⟨i, hi⟩; simp only [] at this; show 23 + 9 ≤ fAll 24 i ∧ fAll 24 i ≤ 23 + 20; omega
  · have e1 := fAll_24 ⟨a, ha⟩; have e2 := fAll_24 ⟨b, hb⟩; simp only [] at e1 e2; have he2 : fAll 24 a = fAll 24 b := he; omega
  · rw [a6 89 84 (by omega) (by omega) (by omega) (by omega)]; rfl
  · rw [a6 89 86 (by omega) (by omega) (by omega) (by omega)]
  · rw [a6 89 85 (by omega) (by omega) (by omega) (by omega)]
  · rw [a6 (26 + w) s (by omega) (by omega) (by omega) (by omega), a6 89 _ (by omega) (by omega) (by omega) (by omega)]
  · rw [a6 23 5 (by omega) (by omega) (by omega) (by omega), a6 89 87 (by omega) (by omega) (by omega) (by omega)]
  · exact a6 65 5 (by omega) (by omega) (by omega) (by omega)
