theorem byte_facts : ∀ n : Fin 256, ab_l2i (n.val : Int) = n.val ∧ ab_i2c (n.val : Int) = n.val ∧ (Int32.ofInt (n.val : Int)).toUInt32.toUInt16.toUInt32.toInt32 = Int32.ofInt (n.val : Int) := by decide +kernel
theorem land255 (a : Int64) : 0 ≤ (a &&& Int64.ofInt 255).toInt ∧ (a &&& Int64.ofInt 255).toInt ≤ 255 := by
  have h : (a &&& Int64.ofInt 255).toBitVec.toNat ≤ 255 := by
    rw [Int64.toBitVec_and, BitVec.toNat_and]
    exact Nat.and_le_right
  have h2 : (a &&& Int64.ofInt 255).toInt = ((a &&& Int64.ofInt 255).toBitVec.toNat : Int) := by
    show (a &&& Int64.ofInt 255).toBitVec.toInt = _
    rw [BitVec.toInt_eq_toNat_of_lt (by omega)]
  omega
/-- byte k of a long -/
def byt (x : Int) (k : Nat) : Int := ab_l2i (ab_landL (ab_lshrL x (8 * (k : Int))) 255)
theorem byt_bd (x : Int) (k : Nat) : (0 ≤ byt x k ∧ byt x k ≤ 255) ∧ ab_i2c (byt x k) = byt x k ∧ (Int32.ofInt (byt x k)).toUInt32.toUInt16.toUInt32.toInt32 = Int32.ofInt (byt x k) := by
  unfold byt
  have h := land255 (Int64.ofInt (ab_lshrL x (8 * (k : Int))))
  have h2 : 0 ≤ ab_landL (ab_lshrL x (8 * (k : Int))) 255 ∧ ab_landL (ab_lshrL x (8 * (k : Int))) 255 ≤ 255 := h
  generalize ab_landL (ab_lshrL x (8 * (k : Int))) 255 = z at h2
  obtain ⟨n, rfl⟩ : ∃ n : Nat, z = n := ⟨z.toNat, by omega⟩
  have hb := byte_facts ⟨n, by omega⟩
  simp only [] at hb
  rw [hb.1]
  exact ⟨by omega, hb.2.1, hb.2.2⟩
/-- while k bytes have been written behind the N that there were -/
def WX (t : Nat) (I : Nat → Nat → Int) (N : Nat) (x : Int) (k : Nat) (J : Nat → Nat → Int) : Prop := (∀ j, j < k → J t (N + j) = byt x j) ∧ (∀ b, b < N → J t b = I t b)
theorem WX_s {t : Nat} {I J : Nat → Nat → Int} {N k : Nat} {x : Int} (h : WX t I N x k J) : WX t I N x (k + 1) (ab_u J t (N + k) (byt x k)) := by
  refine ⟨fun j hj => ?_, fun b hb => ?_⟩
  · by_cases e : j = k
    · rw [e, ab_u_s]
    · rw [ab_u_j (by omega)]; exact h.1 j (by omega)
  · rw [ab_u_j (by omega)]; exact h.2 b hb
set_option maxHeartbeats 4000000 in
set_option maxRecDepth 100000 in
theorem ct_X9_add (G : ab_G) (I : Nat → Nat → Int) (F : Nat → Nat → Nat) (hF : ab_FB F) (N : Nat) (hN : I 21 1 = N) (hN1 : N < 160) (v : Int) (hv : (Int32.ofInt v).toUInt32.toUInt16.toUInt32.toInt32 = Int32.ofInt v) : Ct G 0 0 0 YX9_add [ab_r 21, ab_i v] (104, I, F) (fun r h => r = none ∧ h = (104, ab_u (ab_u I 22 N v) 21 1 ((N : Int) + 1), F)) := by
  refine Ct.ofW kX9_add (ls := [some (ab_r 21), some (ab_i v)]) (Nat.le_of_ble_eq_true rfl) rfl ?_
  refine aw_aload_n dX9_add_0 rfl (by decide) ?_
  refine aw_getiv (v := (N : Int)) dX9_add_1 fX9_15 ⟨Nat.le_of_ble_eq_true rfl, Nat.le_of_ble_eq_true rfl⟩ rfl rfl hN ?_
  refine aw_sipush dX9_add_4 rfl ?_
  refine aw_icmp_ge (tgt := 30) dX9_add_7 rfl (by first | assumption | (unfold ab_In at *; omega)) (by first | assumption | (unfold ab_In at *; omega)) (fun c_7 => ?_) (fun c_7 => ?_)
  · exfalso; omega
  · refine aw_aload_n dX9_add_10 rfl (by decide) ?_
    refine aw_getrv (r := 22) dX9_add_11 fX9_9 ⟨Nat.le_of_ble_eq_true rfl, Nat.le_of_ble_eq_true rfl⟩ rfl rfl (hF.at 21 0 22 rfl rfl rfl) ?_
    refine aw_aload_n dX9_add_14 rfl (by decide) ?_
    refine aw_getiv (v := (N : Int)) dX9_add_15 fX9_15 ⟨Nat.le_of_ble_eq_true rfl, Nat.le_of_ble_eq_true rfl⟩ rfl rfl hN ?_
    refine aw_iload_n dX9_add_18 rfl ?_
    refine aw_castv (q := N) dX9_add_19 ⟨Nat.le_of_ble_eq_true rfl, Nat.le_of_ble_eq_true rfl⟩ rfl (by omega) (by omega) (by decide) hv rfl ?_
    refine aw_aload_n dX9_add_20 rfl (by decide) ?_
    refine aw_dup dX9_add_21 rfl ?_
    refine aw_getiv (v := (N : Int)) dX9_add_22 fX9_15 ⟨Nat.le_of_ble_eq_true rfl, Nat.le_of_ble_eq_true rfl⟩ rfl rfl ((ab_u_i (by decide)).trans hN) ?_
    refine aw_iconst dX9_add_25 ?_
    refine aw_iadd dX9_add_26 ?_
    refine aw_puti dX9_add_27 fX9_15 ⟨Nat.le_of_ble_eq_true rfl, Nat.le_of_ble_eq_true rfl⟩ rfl rfl ?_
    refine aw_return dX9_add_30 rfl ?_
    exact ⟨rfl, rfl⟩
set_option maxHeartbeats 4000000 in
set_option maxRecDepth 100000 in
theorem ct_X11_write_bad (G : ab_G) (I : Nat → Nat → Int) (F : Nat → Nat → Nat) (hF : ab_FB F) (x : Int) (a : Int) (ha : ab_In a) (hr : 0 ≤ I 21 1 ∧ I 21 1 ≤ 160) (hbad : ¬ ((1 ≤ a ∧ a ≤ 8) ∧ I 21 1 + a ≤ 160)) : Ct G 2 0 0 YX11_write [ab_r 1, ab_l x, ab_i a] (104, I, F) (fun r h => r = some (ab_i (if 1 ≤ a ∧ a ≤ 8 then -5 else -3)) ∧ h = (104, I, F)) := by
  refine Ct.ofW kX11_write (ls := [some (ab_r 1), some (ab_l x), none, some (ab_i a), none]) (Nat.le_of_ble_eq_true rfl) rfl ?_
  refine aw_iload_n dX11_write_0 rfl ?_
  refine aw_iconst dX11_write_1 ?_
  refine aw_bipush dX11_write_2 rfl ?_
  refine aw_callS (as := [ab_i a, ab_i 1, ab_i 8]) (rest := []) dX11_write_4 (ct_X11_within G (104, I, F) a 1 8 (by first | assumption | (unfold ab_In at *; omega)) (by first | assumption | (unfold ab_In at *; omega)) (by first | assumption | (unfold ab_In at *; omega))) kX11_within sX11_within lX11_89 rfl (Nat.le_of_ble_eq_true rfl) (by decide) (by decide) (by decide) (by decide) ?_
  rintro r9 _ ⟨e9, rfl⟩
  by_cases q1 : 1 ≤ a ∧ a ≤ 8
  · rw [if_pos q1] at e9
    subst e9
    refine aw_if_ne (tgt := 13) dX11_write_7 rfl ⟨by decide, by decide⟩ (fun _ => ?_) (fun c9 => absurd c9 (by decide))
    refine aw_aload_n dX11_write_13 rfl (by decide) ?_
    refine aw_getrv (r := 21) dX11_write_14 fX11_29 ⟨Nat.le_of_ble_eq_true rfl, Nat.le_of_ble_eq_true rfl⟩ rfl rfl (hF.at 1 3 21 rfl rfl rfl) ?_
    refine aw_geti dX11_write_17 fX11_169 ⟨Nat.le_of_ble_eq_true rfl, Nat.le_of_ble_eq_true rfl⟩ rfl rfl ?_
    refine aw_iload_n dX11_write_20 rfl ?_
    refine aw_iadd dX11_write_21 ?_
    refine aw_sipush dX11_write_22 rfl ?_
    refine aw_icmp_le (tgt := 31) dX11_write_25 rfl (by first | assumption | (unfold ab_In at *; omega)) (by first | assumption | (unfold ab_In at *; omega)) (fun c_25 => ?_) (fun c_25 => ?_)
    · exfalso; omega
    · refine aw_bipush dX11_write_28 rfl ?_
      refine aw_ireturn dX11_write_30 rfl ?_
      exact ⟨by first | rw [if_pos (by omega)] | rw [if_neg (by omega)] | rfl, rfl⟩
  · rw [if_neg q1] at e9
    subst e9
    refine aw_if_ne (tgt := 13) dX11_write_7 rfl ⟨by decide, by decide⟩ (fun c9 => absurd rfl c9) (fun _ => ?_)
    refine aw_bipush dX11_write_10 rfl ?_
    refine aw_ireturn dX11_write_12 rfl ?_
    exact ⟨by first | rw [if_pos (by omega)] | rw [if_neg (by omega)] | rfl, rfl⟩
set_option maxHeartbeats 4000000 in
set_option maxRecDepth 100000 in
theorem ct_X12_write_bad (G : ab_G) (I : Nat → Nat → Int) (F : Nat → Nat → Nat) (hF : ab_FB F) (x : Int) (a : Int) (ha : ab_In a) (hr : 0 ≤ I 84 10 ∧ I 84 10 ≤ 160) (hbad : ¬ ((1 ≤ a ∧ a ≤ 8) ∧ I 84 10 + a ≤ 160)) : Ct G 2 0 0 YX12_write [ab_r 84, ab_l x, ab_i a] (104, I, F) (fun r h => r = some (ab_i (if 1 ≤ a ∧ a ≤ 8 then -5 else -3)) ∧ h = (104, I, F)) := by
  refine Ct.ofW kX12_write (ls := [some (ab_r 84), some (ab_l x), none, some (ab_i a), none]) (Nat.le_of_ble_eq_true rfl) rfl ?_
  refine aw_iload_n dX12_write_0 rfl ?_
  refine aw_iconst dX12_write_1 ?_
  refine aw_bipush dX12_write_2 rfl ?_
  refine aw_callS (as := [ab_i a, ab_i 1, ab_i 8]) (rest := []) dX12_write_4 (ct_X12_in G (104, I, F) a 1 8 (by first | assumption | (unfold ab_In at *; omega)) (by first | assumption | (unfold ab_In at *; omega)) (by first | assumption | (unfold ab_In at *; omega))) kX12_in sX12_in lX12_75 rfl (Nat.le_of_ble_eq_true rfl) (by decide) (by decide) (by decide) (by decide) ?_
  rintro r9 _ ⟨e9, rfl⟩
  by_cases q1 : 1 ≤ a ∧ a ≤ 8
  · rw [if_pos q1] at e9
    subst e9
    refine aw_if_ne (tgt := 13) dX12_write_7 rfl ⟨by decide, by decide⟩ (fun _ => ?_) (fun c9 => absurd c9 (by decide))
    refine aw_aload_n dX12_write_13 rfl (by decide) ?_
    refine aw_geti dX12_write_14 fX12_110 ⟨Nat.le_of_ble_eq_true rfl, Nat.le_of_ble_eq_true rfl⟩ rfl rfl ?_
    refine aw_iload_n dX12_write_17 rfl ?_
    refine aw_iadd dX12_write_18 ?_
    refine aw_sipush dX12_write_19 rfl ?_
    refine aw_icmp_le (tgt := 28) dX12_write_22 rfl (by first | assumption | (unfold ab_In at *; omega)) (by first | assumption | (unfold ab_In at *; omega)) (fun c_22 => ?_) (fun c_22 => ?_)
    · exfalso; omega
    · refine aw_bipush dX12_write_25 rfl ?_
      refine aw_ireturn dX12_write_27 rfl ?_
      exact ⟨by first | rw [if_pos (by omega)] | rw [if_neg (by omega)] | rfl, rfl⟩
  · rw [if_neg q1] at e9
    subst e9
    refine aw_if_ne (tgt := 13) dX12_write_7 rfl ⟨by decide, by decide⟩ (fun c9 => absurd rfl c9) (fun _ => ?_)
    refine aw_bipush dX12_write_10 rfl ?_
    refine aw_ireturn dX12_write_12 rfl ?_
    exact ⟨by first | rw [if_pos (by omega)] | rw [if_neg (by omega)] | rfl, rfl⟩
set_option maxHeartbeats 4000000 in
set_option maxRecDepth 100000 in
theorem ct_X11_write (G : ab_G) (I : Nat → Nat → Int) (F : Nat → Nat → Nat) (hF : ab_FB F) (N n : Nat) (x : Int) (hN : I 21 1 = N) (hn : 1 ≤ n ∧ n ≤ 8) (hNn : N + n ≤ 160) : Ct G 2 0 0 YX11_write [ab_r 1, ab_l x, ab_i (n : Int)] (104, I, F) (fun r h => r = some (ab_i ((N : Int) + n)) ∧ ∃ I2, h = (104, I2, F) ∧ WX 22 I N x n I2 ∧ I2 21 1 = (N : Int) + n ∧ (∀ i b, i ≠ 22 → ¬ (i = 21 ∧ b = 1) → I2 i b = I i b)) := by
  refine Ct.ofW kX11_write (ls := [some (ab_r 1), some (ab_l x), none, some (ab_i (n : Int)), none]) (Nat.le_of_ble_eq_true rfl) rfl ?_
  generalize hZ : ab_Z G (fun r h => r = some (ab_i ((N : Int) + n)) ∧ ∃ I2, h = (104, I2, F) ∧ WX 22 I N x n I2 ∧ I2 21 1 = (N : Int) + n ∧ (∀ i b, i ≠ 22 → ¬ (i = 21 ∧ b = 1) → I2 i b = I i b)) 0 0 = Z
  have loop : ∀ (d k : Nat) (J : Nat → Nat → Int), k + d = n → WX 22 I N x k J → J 21 1 = (N : Int) + k → (∀ i b, i ≠ 22 → ¬ (i = 21 ∧ b = 1) → J i b = I i b) → aW G YX11_write (ab_rm 2 0 0) Z 0 0 (104, J, F) 34 [some (ab_r 1), some (ab_l x), none, some (ab_i (n : Int)), some (ab_i (k : Int))] [] := by
    intro d
    induction d with
    | zero =>
      intro k J hk hW h1 hfr
      have hkn : k = n := by omega
      subst hkn
      refine aw_iload dX11_write_34 rfl ?_
      refine aw_iload_n dX11_write_36 rfl ?_
      refine aw_icmp_ge (tgt := 66) dX11_write_37 rfl (by first | assumption | (unfold ab_In at *; omega)) (by first | assumption | (unfold ab_In at *; omega)) (fun c_37 => ?_) (fun c_37 => ?_)
      · refine aw_aload_n dX11_write_66 rfl (by decide) ?_
        refine aw_getrv (r := 21) dX11_write_67 fX11_29 ⟨Nat.le_of_ble_eq_true rfl, Nat.le_of_ble_eq_true rfl⟩ rfl rfl (hF.at 1 3 21 rfl rfl rfl) ?_
        refine aw_getiv (v := ((N : Int) + k)) dX11_write_70 fX11_169 ⟨Nat.le_of_ble_eq_true rfl, Nat.le_of_ble_eq_true rfl⟩ rfl rfl h1 ?_
        rw [← hZ]
        refine aw_ireturn dX11_write_73 rfl ?_
        exact ⟨rfl, J, rfl, hW, h1, hfr⟩
      · exfalso; omega
    | succ d ih =>
      intro k J hk hW h1 hfr
      have hb := byt_bd x k
      refine aw_iload dX11_write_34 rfl ?_
      refine aw_iload_n dX11_write_36 rfl ?_
      refine aw_icmp_ge (tgt := 66) dX11_write_37 rfl (by first | assumption | (unfold ab_In at *; omega)) (by first | assumption | (unfold ab_In at *; omega)) (fun c_37 => ?_) (fun c_37 => ?_)
      · exfalso; omega
      · refine aw_aload_n dX11_write_40 rfl (by decide) ?_
        refine aw_getrv (r := 21) dX11_write_41 fX11_29 ⟨Nat.le_of_ble_eq_true rfl, Nat.le_of_ble_eq_true rfl⟩ rfl rfl (hF.at 1 3 21 rfl rfl rfl) ?_
        refine aw_lload_n dX11_write_44 rfl ?_
        refine aw_bipush dX11_write_45 rfl ?_
        refine aw_iload dX11_write_47 rfl ?_
        refine aw_imul dX11_write_49 ?_
        refine aw_lshr dX11_write_50 ?_
        refine aw_ldc2 (z := 255) dX11_write_51 nX11_172 ?_
        refine aw_land dX11_write_54 ?_
        refine aw_l2i dX11_write_55 ?_
        refine aw_i2c dX11_write_56 ?_
        refine aw_to (z := (byt x k)) hb.2.1 ?_
        refine aw_callV (as := [ab_i (byt x k)]) (rest := []) dX11_write_57 (ct_X9_add G J F hF (N + k) (by rw [h1]; rfl) (by omega) (byt x k) hb.2.2) ⟨Nat.le_of_ble_eq_true rfl, Nat.le_of_ble_eq_true rfl⟩ rfl kc9 rfl kX9_add iX9_add eX9_add lX11_174 rfl (Nat.le_of_ble_eq_true rfl) (by decide) (by decide) (by decide) (by decide) ?_
        rintro _ _ ⟨rfl, rfl⟩
        refine aw_iinc (ls' := [some (ab_r 1), some (ab_l x), none, some (ab_i (n : Int)), some (ab_i ((k : Int) + 1))]) dX11_write_60 (by decide) rfl rfl ?_
        refine aw_goto (tgt := 34) dX11_write_63 rfl ?_
        have h9 := ih (k + 1) (ab_u (ab_u J 22 (N + k) (byt x k)) 21 1 (((N + k : Nat) : Int) + 1)) (by omega) ⟨fun j hj => by rw [ab_u_i (by decide)]; exact (WX_s hW).1 j hj, fun b hb => by rw [ab_u_i (by decide)]; exact (WX_s hW).2 b hb⟩ (by rw [ab_u_s]; omega) (fun i b q1 q2 => by rw [ab_u_o (by omega), ab_u_i q1]; exact hfr i b q1 q2)
        exact h9
  refine aw_iload_n dX11_write_0 rfl ?_
  refine aw_iconst dX11_write_1 ?_
  refine aw_bipush dX11_write_2 rfl ?_
  refine aw_callS (as := [ab_i (n : Int), ab_i 1, ab_i 8]) (rest := []) dX11_write_4 (ct_X11_within G (104, I, F) (n : Int) 1 8 (by first | assumption | (unfold ab_In at *; omega)) (by first | assumption | (unfold ab_In at *; omega)) (by first | assumption | (unfold ab_In at *; omega))) kX11_within sX11_within lX11_89 rfl (Nat.le_of_ble_eq_true rfl) (by decide) (by decide) (by decide) (by decide) ?_
  rintro r9 _ ⟨e9, rfl⟩
  rw [if_pos (by omega)] at e9
  subst e9
  refine aw_if_ne (tgt := 13) dX11_write_7 rfl ⟨by decide, by decide⟩ (fun _ => ?_) (fun c9 => absurd c9 (by decide))
  refine aw_aload_n dX11_write_13 rfl (by decide) ?_
  refine aw_getrv (r := 21) dX11_write_14 fX11_29 ⟨Nat.le_of_ble_eq_true rfl, Nat.le_of_ble_eq_true rfl⟩ rfl rfl (hF.at 1 3 21 rfl rfl rfl) ?_
  refine aw_getiv (v := (N : Int)) dX11_write_17 fX11_169 ⟨Nat.le_of_ble_eq_true rfl, Nat.le_of_ble_eq_true rfl⟩ rfl rfl hN ?_
  refine aw_iload_n dX11_write_20 rfl ?_
  refine aw_iadd dX11_write_21 ?_
  refine aw_sipush dX11_write_22 rfl ?_
  refine aw_icmp_le (tgt := 31) dX11_write_25 rfl (by first | assumption | (unfold ab_In at *; omega)) (by first | assumption | (unfold ab_In at *; omega)) (fun c_25 => ?_) (fun c_25 => ?_)
  · refine aw_iconst dX11_write_31 ?_
    refine aw_istore (ls' := [some (ab_r 1), some (ab_l x), none, some (ab_i (n : Int)), some (ab_i 0)]) dX11_write_32 (by decide) rfl ?_
    exact loop n 0 I (by omega) ⟨fun j hj => by omega, fun _ _ => rfl⟩ (by rw [hN]; simp) (fun _ _ _ _ => rfl)
  · exfalso; omega
set_option maxHeartbeats 4000000 in
set_option maxRecDepth 100000 in
theorem ct_X12_write (G : ab_G) (I : Nat → Nat → Int) (F : Nat → Nat → Nat) (hF : ab_FB F) (N n : Nat) (x : Int) (hN : I 84 10 = N) (hn : 1 ≤ n ∧ n ≤ 8) (hNn : N + n ≤ 160) : Ct G 2 0 0 YX12_write [ab_r 84, ab_l x, ab_i (n : Int)] (104, I, F) (fun r h => r = some (ab_i ((N : Int) + n)) ∧ ∃ I2, h = (104, I2, F) ∧ WX 93 I N x n I2 ∧ I2 84 10 = (N : Int) + n ∧ (∀ i b, i ≠ 93 → ¬ (i = 84 ∧ b = 10) → I2 i b = I i b)) := by
  refine Ct.ofW kX12_write (ls := [some (ab_r 84), some (ab_l x), none, some (ab_i (n : Int)), none]) (Nat.le_of_ble_eq_true rfl) rfl ?_
  generalize hZ : ab_Z G (fun r h => r = some (ab_i ((N : Int) + n)) ∧ ∃ I2, h = (104, I2, F) ∧ WX 93 I N x n I2 ∧ I2 84 10 = (N : Int) + n ∧ (∀ i b, i ≠ 93 → ¬ (i = 84 ∧ b = 10) → I2 i b = I i b)) 0 0 = Z
  have loop : ∀ (d k : Nat) (J : Nat → Nat → Int), k + d = n → WX 93 I N x k J → (∀ i b, i ≠ 93 → J i b = I i b) → aW G YX12_write (ab_rm 2 0 0) Z 0 0 (104, J, F) 31 [some (ab_r 84), some (ab_l x), none, some (ab_i (n : Int)), some (ab_i (k : Int))] [] := by
    intro d
    induction d with
    | zero =>
      intro k J hk hW hfr
      have hkn : k = n := by omega
      subst hkn
      have h1 : J 84 10 = (N : Int) := (hfr 84 10 (by decide)).trans hN
      refine aw_iload dX12_write_31 rfl ?_
      refine aw_iload_n dX12_write_33 rfl ?_
      refine aw_icmp_ge (tgt := 67) dX12_write_34 rfl (by first | assumption | (unfold ab_In at *; omega)) (by first | assumption | (unfold ab_In at *; omega)) (fun c_34 => ?_) (fun c_34 => ?_)
      · refine aw_aload_n dX12_write_67 rfl (by decide) ?_
        refine aw_dup dX12_write_68 rfl ?_
        refine aw_getiv (v := (N : Int)) dX12_write_69 fX12_110 ⟨Nat.le_of_ble_eq_true rfl, Nat.le_of_ble_eq_true rfl⟩ rfl rfl h1 ?_
        refine aw_iload_n dX12_write_72 rfl ?_
        refine aw_iadd dX12_write_73 ?_
        refine aw_puti dX12_write_74 fX12_110 ⟨Nat.le_of_ble_eq_true rfl, Nat.le_of_ble_eq_true rfl⟩ rfl rfl ?_
        refine aw_aload_n dX12_write_77 rfl (by decide) ?_
        refine aw_getiv (v := ((N : Int) + (k : Int))) dX12_write_78 fX12_110 ⟨Nat.le_of_ble_eq_true rfl, Nat.le_of_ble_eq_true rfl⟩ rfl rfl ab_u_s ?_
        rw [← hZ]
        refine aw_ireturn dX12_write_81 rfl ?_
        refine ⟨rfl, _, rfl, ⟨fun j hj => ?_, fun b hb => ?_⟩, ab_u_s, fun i b q1 q2 => ?_⟩
        · rw [ab_u_i (by decide)]; exact hW.1 j hj
        · rw [ab_u_i (by decide)]; exact hW.2 b hb
        · rw [ab_u_o (by omega)]; exact hfr i b q1
      · exfalso; omega
    | succ d ih =>
      intro k J hk hW hfr
      have h1 : J 84 10 = (N : Int) := (hfr 84 10 (by decide)).trans hN
      refine aw_iload dX12_write_31 rfl ?_
      refine aw_iload_n dX12_write_33 rfl ?_
      refine aw_icmp_ge (tgt := 67) dX12_write_34 rfl (by first | assumption | (unfold ab_In at *; omega)) (by first | assumption | (unfold ab_In at *; omega)) (fun c_34 => ?_) (fun c_34 => ?_)
      · exfalso; omega
      · refine aw_aload_n dX12_write_37 rfl (by decide) ?_
        refine aw_getrv (r := 93) dX12_write_38 fX12_35 ⟨Nat.le_of_ble_eq_true rfl, Nat.le_of_ble_eq_true rfl⟩ rfl rfl (hF.at 84 11 93 rfl rfl rfl) ?_
        refine aw_aload_n dX12_write_41 rfl (by decide) ?_
        refine aw_getiv (v := (N : Int)) dX12_write_42 fX12_110 ⟨Nat.le_of_ble_eq_true rfl, Nat.le_of_ble_eq_true rfl⟩ rfl rfl h1 ?_
        refine aw_iload dX12_write_45 rfl ?_
        refine aw_iadd dX12_write_47 ?_
        refine aw_lload_n dX12_write_48 rfl ?_
        refine aw_bipush dX12_write_49 rfl ?_
        refine aw_iload dX12_write_51 rfl ?_
        refine aw_imul dX12_write_53 ?_
        refine aw_lshr dX12_write_54 ?_
        refine aw_ldc2 (z := 255) dX12_write_55 nX12_113 ?_
        refine aw_land dX12_write_58 ?_
        refine aw_l2i dX12_write_59 ?_
        refine aw_to (z := (byt x k)) rfl ?_
        refine aw_iastv (q := (N + k)) dX12_write_60 ⟨Nat.le_of_ble_eq_true rfl, Nat.le_of_ble_eq_true rfl⟩ rfl (by omega) (by omega) (by decide) (by omega) ?_
        refine aw_iinc (ls' := [some (ab_r 84), some (ab_l x), none, some (ab_i (n : Int)), some (ab_i ((k : Int) + 1))]) dX12_write_61 (by decide) rfl rfl ?_
        refine aw_goto (tgt := 31) dX12_write_64 rfl ?_
        exact ih (k + 1) _ (by omega) (WX_s hW) (fun i b q1 => by rw [ab_u_i q1]; exact hfr i b q1)
  refine aw_iload_n dX12_write_0 rfl ?_
  refine aw_iconst dX12_write_1 ?_
  refine aw_bipush dX12_write_2 rfl ?_
  refine aw_callS (as := [ab_i (n : Int), ab_i 1, ab_i 8]) (rest := []) dX12_write_4 (ct_X12_in G (104, I, F) (n : Int) 1 8 (by first | assumption | (unfold ab_In at *; omega)) (by first | assumption | (unfold ab_In at *; omega)) (by first | assumption | (unfold ab_In at *; omega))) kX12_in sX12_in lX12_75 rfl (Nat.le_of_ble_eq_true rfl) (by decide) (by decide) (by decide) (by decide) ?_
  rintro r9 _ ⟨e9, rfl⟩
  rw [if_pos (by omega)] at e9
  subst e9
  refine aw_if_ne (tgt := 13) dX12_write_7 rfl ⟨by decide, by decide⟩ (fun _ => ?_) (fun c9 => absurd c9 (by decide))
  refine aw_aload_n dX12_write_13 rfl (by decide) ?_
  refine aw_getiv (v := (N : Int)) dX12_write_14 fX12_110 ⟨Nat.le_of_ble_eq_true rfl, Nat.le_of_ble_eq_true rfl⟩ rfl rfl hN ?_
  refine aw_iload_n dX12_write_17 rfl ?_
  refine aw_iadd dX12_write_18 ?_
  refine aw_sipush dX12_write_19 rfl ?_
  refine aw_icmp_le (tgt := 28) dX12_write_22 rfl (by first | assumption | (unfold ab_In at *; omega)) (by first | assumption | (unfold ab_In at *; omega)) (fun c_22 => ?_) (fun c_22 => ?_)
  · refine aw_iconst dX12_write_28 ?_
    refine aw_istore (ls' := [some (ab_r 84), some (ab_l x), none, some (ab_i (n : Int)), some (ab_i 0)]) dX12_write_29 (by decide) rfl ?_
    exact loop n 0 I (by omega) ⟨fun j hj => by omega, fun _ _ => rfl⟩ (fun _ _ _ => rfl)
  · exfalso; omega
set_option maxHeartbeats 4000000 in
set_option maxRecDepth 100000 in
theorem pr_write (G : ab_G) (I : Nat → Nat → Int) (F : Nat → Nat → Nat) (c : Nat) (h : INV c I F) (hc : c ≤ 600) (x : Int) (a : Int) (ha : ab_In a) : Pair G 2 2 YX11_write YX12_write [ab_l x, ab_i a] ab_i c I F := by
  have hx := h.2.2.2.2.2.1
  have h160 := hx.1
  by_cases hv9 : (1 ≤ a ∧ a ≤ 8) ∧ I 21 1 + a ≤ 160
  · obtain ⟨n, rfl⟩ : ∃ n : Nat, a = n := ⟨a.toNat, by omega⟩
    obtain ⟨N, hN⟩ : ∃ N : Nat, I 21 1 = N := ⟨(I 21 1).toNat, by omega⟩
    refine (ct_X11_write G I F h.1 N n x hN (by omega) (by omega)).mono ?_
    rintro _ _ ⟨rfl, J, rfl, hW, h1, hfr⟩
    refine ⟨_, _, _, rfl, rfl, ?_⟩
    refine (ct_X12_write G J F h.1 N n x (by rw [hfr 84 10 (by decide) (by decide), hx.2.1]; exact hN) (by omega) (by omega)).mono ?_
    rintro _ _ ⟨rfl, J2, rfl, hW2, h2, hfr2⟩
    refine ⟨rfl, _, _, rfl, h.text ⟨?_, ?_, fun j hj hj2 => ?_⟩ (fun i b q => ?_)⟩
    · rw [hfr2 21 1 (by decide) (by decide), h1]; omega
    · rw [h2, hfr2 21 1 (by decide) (by decide), h1]
    · rw [hfr2 21 1 (by decide) (by decide), h1] at hj2
      rw [hfr2 22 j (by decide) (by omega)]
      by_cases e : j < N
      · rw [hW2.2 j e, hW.2 j e, hfr 93 j (by decide) (by omega)]; exact hx.2.2 j hj (by omega)
      · obtain ⟨k, rfl⟩ : ∃ k, j = N + k := ⟨j - N, by omega⟩
        rw [hW2.1 k (by omega), hW.1 k (by omega)]
        exact ⟨rfl, (byt_bd x k).1⟩
    · rw [hfr2 i b (by omega) (by omega)]; exact hfr i b (by omega) (by omega)
  · refine (ct_X11_write_bad G I F h.1 x a ha h160 hv9).mono ?_
    rintro _ _ ⟨rfl, rfl⟩
    refine ⟨_, _, _, rfl, rfl, ?_⟩
    refine (ct_X12_write_bad G I F h.1 x a ha (by rw [hx.2.1]; exact h160) (by rw [hx.2.1]; exact hv9)).mono ?_
    rintro _ _ ⟨rfl, rfl⟩
    exact ⟨rfl, _, _, rfl, h.up (by omega)⟩
