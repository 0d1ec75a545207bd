theorem ab_rem_n {x y : Int} (h0 : 0 ≤ x) (h1 : x < 2147483648) (h2 : 0 < y) (h3 : y < 2147483648) : ab_rem x y = x % y := by
  obtain ⟨a, rfl⟩ := Int.eq_ofNat_of_zero_le h0
  obtain ⟨b, rfl⟩ := Int.eq_ofNat_of_zero_le (Int.le_of_lt h2)
  unfold ab_rem
  rw [Int32.ofInt_eq_ofNat, Int32.ofInt_eq_ofNat]
  have := pk_rem (a := a) (d := b) (by omega) (by omega) (by omega)
  unfold nI at this
  rw [this]
  have h4 : a % b < b := Nat.mod_lt _ (by omega)
  rw [← Int32.ofInt_eq_ofNat, ab_to ⟨by omega, by omega⟩]
  exact Int.natCast_emod a b
theorem ab_div_n {x y : Int} (h0 : 0 ≤ x) (h1 : x < 2147483648) (h2 : 0 < y) (h3 : y < 2147483648) : ab_div x y = x / y := by
  obtain ⟨a, rfl⟩ := Int.eq_ofNat_of_zero_le h0
  obtain ⟨b, rfl⟩ := Int.eq_ofNat_of_zero_le (Int.le_of_lt h2)
  unfold ab_div
  rw [Int32.ofInt_eq_ofNat, Int32.ofInt_eq_ofNat]
  have := pk_div (a := a) (d := b) (by omega) (by omega) (by omega)
  unfold nI at this
  rw [this]
  have h4 : a / b ≤ a := Nat.div_le_self _ _
  have h5 : (0 : Int) ≤ ((a / b : Nat) : Int) := Int.natCast_nonneg _
  rw [← Int32.ofInt_eq_ofNat, ab_to ⟨by omega, by omega⟩]
  exact Int.natCast_ediv a b
/-- does a person take: way, bar, fall, the house's worth, how long it waited -/
def rl_takes (w b f v t : Int) : Int := if w = 1 then (if b ≤ v then 1 else 0) else if w = 2 then (if b - f * t ≤ v then 1 else 0) else 1
set_option maxHeartbeats 4000000 in
set_option maxRecDepth 100000 in
theorem ct_X11_within (G : ab_G) (h0 : ab_H) (v least most : Int) (hv : ab_In v) (hl : ab_In least) (hm : ab_In most) : Ct G 0 0 0 YX11_within [ab_i v, ab_i least, ab_i most] h0 (fun r h => r = some (ab_i (if least ≤ v ∧ v ≤ most then 1 else 0)) ∧ h = h0) := by
  refine Ct.ofW kX11_within (ls := [some (ab_i v), some (ab_i least), some (ab_i most)]) (Nat.le_of_ble_eq_true rfl) rfl ?_
  refine aw_iload_n dX11_within_0 rfl ?_
  refine aw_iload_n dX11_within_1 rfl ?_
  refine aw_icmp_lt (tgt := 14) dX11_within_2 rfl (by assumption) (by assumption) (fun c_2 => ?_) (fun c_2 => ?_)
  · refine aw_iconst dX11_within_14 ?_
    refine aw_breturn dX11_within_15 rfl (by omega) ?_
    exact ⟨by first | rw [if_pos (by omega)] | rw [if_neg (by omega)], rfl⟩
  · refine aw_iload_n dX11_within_5 rfl ?_
    refine aw_iload_n dX11_within_6 rfl ?_
    refine aw_icmp_gt (tgt := 14) dX11_within_7 rfl (by assumption) (by assumption) (fun c_7 => ?_) (fun c_7 => ?_)
    · refine aw_iconst dX11_within_14 ?_
      refine aw_breturn dX11_within_15 rfl (by omega) ?_
      exact ⟨by first | rw [if_pos (by omega)] | rw [if_neg (by omega)], rfl⟩
    · refine aw_iconst dX11_within_10 ?_
      refine aw_goto (tgt := 15) dX11_within_11 rfl ?_
      refine aw_breturn dX11_within_15 rfl (by omega) ?_
      exact ⟨by first | rw [if_pos (by omega)] | rw [if_neg (by omega)], rfl⟩
set_option maxHeartbeats 4000000 in
set_option maxRecDepth 100000 in
theorem ct_X12_in (G : ab_G) (h0 : ab_H) (v least most : Int) (hv : ab_In v) (hl : ab_In least) (hm : ab_In most) : Ct G 0 0 0 YX12_in [ab_i v, ab_i least, ab_i most] h0 (fun r h => r = some (ab_i (if least ≤ v ∧ v ≤ most then 1 else 0)) ∧ h = h0) := by
  refine Ct.ofW kX12_in (ls := [some (ab_i v), some (ab_i least), some (ab_i most)]) (Nat.le_of_ble_eq_true rfl) rfl ?_
  refine aw_iload_n dX12_in_0 rfl ?_
  refine aw_iload_n dX12_in_1 rfl ?_
  refine aw_icmp_lt (tgt := 14) dX12_in_2 rfl (by assumption) (by assumption) (fun c_2 => ?_) (fun c_2 => ?_)
  · refine aw_iconst dX12_in_14 ?_
    refine aw_breturn dX12_in_15 rfl (by omega) ?_
    exact ⟨by first | rw [if_pos (by omega)] | rw [if_neg (by omega)], rfl⟩
  · refine aw_iload_n dX12_in_5 rfl ?_
    refine aw_iload_n dX12_in_6 rfl ?_
    refine aw_icmp_gt (tgt := 14) dX12_in_7 rfl (by assumption) (by assumption) (fun c_7 => ?_) (fun c_7 => ?_)
    · refine aw_iconst dX12_in_14 ?_
      refine aw_breturn dX12_in_15 rfl (by omega) ?_
      exact ⟨by first | rw [if_pos (by omega)] | rw [if_neg (by omega)], rfl⟩
    · refine aw_iconst dX12_in_10 ?_
      refine aw_goto (tgt := 15) dX12_in_11 rfl ?_
      refine aw_breturn dX12_in_15 rfl (by omega) ?_
      exact ⟨by first | rw [if_pos (by omega)] | rw [if_neg (by omega)], rfl⟩
set_option maxHeartbeats 4000000 in
set_option maxRecDepth 100000 in
theorem ct_X11_isSort (G : ab_G) (h0 : ab_H) (v : Int) (hv : ab_In v) : Ct G 1 0 0 YX11_isSort [ab_i v] h0 (fun r h => r = some (ab_i (if 0 ≤ v ∧ v ≤ 3 then 1 else 0)) ∧ h = h0) := by
  refine Ct.ofW kX11_isSort (ls := [some (ab_i v)]) (Nat.le_of_ble_eq_true rfl) rfl ?_
  refine aw_iload_n dX11_isSort_0 rfl ?_
  refine aw_iconst dX11_isSort_1 ?_
  refine aw_iconst dX11_isSort_2 ?_
  refine aw_callS (as := [ab_i v, ab_i 0, ab_i 3]) (rest := []) dX11_isSort_3 (ct_X11_within G h0 v 0 3 hv (by unfold ab_In; omega) (by unfold ab_In; omega)) kX11_within sX11_within lX11_89 rfl (Nat.le_of_ble_eq_true rfl) (by decide) (by decide) (by decide) (by decide) ?_
  rintro _ _ ⟨rfl, rfl⟩
  refine aw_breturn dX11_isSort_6 rfl (by split <;> simp) ?_
  exact ⟨rfl, rfl⟩
set_option maxHeartbeats 4000000 in
set_option maxRecDepth 100000 in
theorem ct_X11_isKind (G : ab_G) (h0 : ab_H) (v : Int) (hv : ab_In v) : Ct G 1 0 0 YX11_isKind [ab_i v] h0 (fun r h => r = some (ab_i (if 0 ≤ v ∧ v ≤ 3 then 1 else 0)) ∧ h = h0) := by
  refine Ct.ofW kX11_isKind (ls := [some (ab_i v)]) (Nat.le_of_ble_eq_true rfl) rfl ?_
  refine aw_iload_n dX11_isKind_0 rfl ?_
  refine aw_iconst dX11_isKind_1 ?_
  refine aw_iconst dX11_isKind_2 ?_
  refine aw_callS (as := [ab_i v, ab_i 0, ab_i 3]) (rest := []) dX11_isKind_3 (ct_X11_within G h0 v 0 3 hv (by unfold ab_In; omega) (by unfold ab_In; omega)) kX11_within sX11_within lX11_89 rfl (Nat.le_of_ble_eq_true rfl) (by decide) (by decide) (by decide) (by decide) ?_
  rintro _ _ ⟨rfl, rfl⟩
  refine aw_breturn dX11_isKind_6 rfl (by split <;> simp) ?_
  exact ⟨rfl, rfl⟩
set_option maxHeartbeats 4000000 in
set_option maxRecDepth 100000 in
theorem ct_X12_isFour (G : ab_G) (h0 : ab_H) (v : Int) (hv : ab_In v) : Ct G 1 0 0 YX12_isFour [ab_i v] h0 (fun r h => r = some (ab_i (if 0 ≤ v ∧ v ≤ 3 then 1 else 0)) ∧ h = h0) := by
  refine Ct.ofW kX12_isFour (ls := [some (ab_i v)]) (Nat.le_of_ble_eq_true rfl) rfl ?_
  refine aw_iload_n dX12_isFour_0 rfl ?_
  refine aw_iconst dX12_isFour_1 ?_
  refine aw_iconst dX12_isFour_2 ?_
  refine aw_callS (as := [ab_i v, ab_i 0, ab_i 3]) (rest := []) dX12_isFour_3 (ct_X12_in G h0 v 0 3 hv (by unfold ab_In; omega) (by unfold ab_In; omega)) kX12_in sX12_in lX12_75 rfl (Nat.le_of_ble_eq_true rfl) (by decide) (by decide) (by decide) (by decide) ?_
  rintro _ _ ⟨rfl, rfl⟩
  refine aw_breturn dX12_isFour_6 rfl (by split <;> simp) ?_
  exact ⟨rfl, rfl⟩
set_option maxHeartbeats 4000000 in
set_option maxRecDepth 100000 in
theorem ct_X6_isFull_9 (G : ab_G) (I : Nat → Nat → Int) (F : Nat → Nat → Nat) (hs : ab_In (I 9 1)) : Ct G 0 0 0 YX6_isFull [ab_r 9] (104, I, F) (fun r h => r = some (ab_i (if 24 ≤ I 9 1 then 1 else 0)) ∧ h = (104, I, F)) := by
  refine Ct.ofW kX6_isFull (ls := [some (ab_r 9)]) (Nat.le_of_ble_eq_true rfl) rfl ?_
  refine aw_aload_n dX6_isFull_0 rfl (by decide) ?_
  refine aw_geti dX6_isFull_1 fX6_15 ⟨Nat.le_of_ble_eq_true rfl, Nat.le_of_ble_eq_true rfl⟩ rfl rfl ?_
  refine aw_bipush dX6_isFull_4 rfl ?_
  refine aw_icmp_lt (tgt := 13) dX6_isFull_6 rfl (by first | assumption | (unfold ab_In at *; omega)) (by first | assumption | (unfold ab_In at *; omega)) (fun c_6 => ?_) (fun c_6 => ?_)
  · refine aw_iconst dX6_isFull_13 ?_
    refine aw_breturn dX6_isFull_14 rfl (by omega) ?_
    exact ⟨by first | rw [if_pos (by omega)] | rw [if_neg (by omega)], rfl⟩
  · refine aw_iconst dX6_isFull_9 ?_
    refine aw_goto (tgt := 14) dX6_isFull_10 rfl ?_
    refine aw_breturn dX6_isFull_14 rfl (by omega) ?_
    exact ⟨by first | rw [if_pos (by omega)] | rw [if_neg (by omega)], rfl⟩
set_option maxHeartbeats 4000000 in
set_option maxRecDepth 100000 in
theorem ct_X6_inWeek_9 (G : ab_G) (I : Nat → Nat → Int) (F : Nat → Nat → Nat) (hF : ab_FB F) (week : Int) (h0 : 0 ≤ I 9 1) (h1 : I 9 1 ≤ 24) (hw0 : 0 ≤ week) (hw1 : week < 1000000) : Ct G 0 0 0 YX6_inWeek [ab_r 9, ab_i week] (104, I, F) (fun r h => r = some (ab_i (if I 9 1 = 0 then -1 else I 10 (week % I 9 1).toNat)) ∧ h = (104, I, F)) := by
  refine Ct.ofW kX6_inWeek (ls := [some (ab_r 9), some (ab_i week)]) (Nat.le_of_ble_eq_true rfl) rfl ?_
  refine aw_aload_n dX6_inWeek_0 rfl (by decide) ?_
  refine aw_geti dX6_inWeek_1 fX6_15 ⟨Nat.le_of_ble_eq_true rfl, Nat.le_of_ble_eq_true rfl⟩ rfl rfl ?_
  refine aw_if_ne (tgt := 11) dX6_inWeek_4 rfl (by first | assumption | (unfold ab_In at *; omega)) (fun c_4 => ?_) (fun c_4 => ?_)
  · refine aw_aload_n dX6_inWeek_11 rfl (by decide) ?_
    refine aw_getrv (r := 10) dX6_inWeek_12 fX6_9 ⟨Nat.le_of_ble_eq_true rfl, Nat.le_of_ble_eq_true rfl⟩ rfl rfl (hF.at 9 0 10 rfl rfl rfl) ?_
    refine aw_iload_n dX6_inWeek_15 rfl ?_
    refine aw_aload_n dX6_inWeek_16 rfl (by decide) ?_
    refine aw_geti dX6_inWeek_17 fX6_15 ⟨Nat.le_of_ble_eq_true rfl, Nat.le_of_ble_eq_true rfl⟩ rfl rfl ?_
    refine aw_irem dX6_inWeek_20 (by first | assumption | (unfold ab_In at *; omega)) (by omega) ?_
    refine aw_ialdq (q := (ab_rem week (I 9 1)).toNat) (v := I 10 (ab_rem week (I 9 1)).toNat) dX6_inWeek_21 ⟨Nat.le_of_ble_eq_true rfl, Nat.le_of_ble_eq_true rfl⟩ rfl (by rw [ab_rem_n (by omega) (by omega) (by omega) (by omega)]; exact Int.emod_nonneg _ (by omega)) (by rw [ab_rem_n (by omega) (by omega) (by omega) (by omega)]; have := Int.emod_lt_of_pos week (show 0 < I 9 1 by omega); omega) (by decide) rfl rfl ?_
    refine aw_ireturn dX6_inWeek_22 rfl ?_
    exact ⟨by first | rw [if_pos (by omega)] | rw [if_neg (by omega), ab_rem_n (by omega) (by omega) (by omega) (by omega)], rfl⟩
  · refine aw_iconst dX6_inWeek_7 ?_
    refine aw_goto (tgt := 22) dX6_inWeek_8 rfl ?_
    refine aw_ireturn dX6_inWeek_22 rfl ?_
    exact ⟨by first | rw [if_pos (by omega)] | rw [if_neg (by omega), ab_rem_n (by omega) (by omega) (by omega) (by omega)], rfl⟩
set_option maxHeartbeats 4000000 in
set_option maxRecDepth 100000 in
theorem ct_X6_add_9 (G : ab_G) (I : Nat → Nat → Int) (F : Nat → Nat → Nat) (hF : ab_FB F) (v : Int) (h0 : 0 ≤ I 9 1) (h1 : I 9 1 < 24) : Ct G 1 0 0 YX6_add [ab_r 9, ab_i v] (104, I, F) (fun r h => r = some (ab_i (I 9 1 + 1)) ∧ h = (104, ab_u (ab_u I 10 (I 9 1).toNat v) 9 1 (I 9 1 + 1), F)) := by
  refine Ct.ofW kX6_add (ls := [some (ab_r 9), some (ab_i v)]) (Nat.le_of_ble_eq_true rfl) rfl ?_
  refine aw_aload_n dX6_add_0 rfl (by decide) ?_
  refine aw_callV (as := []) (rest := []) dX6_add_1 (ct_X6_isFull_9 G I F (by unfold ab_In; omega)) ⟨Nat.le_of_ble_eq_true rfl, Nat.le_of_ble_eq_true rfl⟩ rfl kc6 rfl kX6_isFull iX6_isFull eX6_isFull lX6_19 rfl (Nat.le_of_ble_eq_true rfl) (by decide) (by decide) (by decide) (by decide) ?_
  rintro _ _ ⟨rfl, rfl⟩
  refine aw_if_ne (tgt := 27) dX6_add_4 rfl (by split <;> (unfold ab_In; omega)) (fun c_4 => ?_) (fun c_4 => ?_)
  · rw [if_neg (by omega)] at c_4; exact absurd rfl c_4
  · refine aw_aload_n dX6_add_7 rfl (by decide) ?_
    refine aw_getrv (r := 10) dX6_add_8 fX6_9 ⟨Nat.le_of_ble_eq_true rfl, Nat.le_of_ble_eq_true rfl⟩ rfl rfl (hF.at 9 0 10 rfl rfl rfl) ?_
    refine aw_aload_n dX6_add_11 rfl (by decide) ?_
    refine aw_geti dX6_add_12 fX6_15 ⟨Nat.le_of_ble_eq_true rfl, Nat.le_of_ble_eq_true rfl⟩ rfl rfl ?_
    refine aw_iload_n dX6_add_15 rfl ?_
    refine aw_iastv (q := (I 9 1).toNat) dX6_add_16 ⟨Nat.le_of_ble_eq_true rfl, Nat.le_of_ble_eq_true rfl⟩ rfl (by omega) (by omega) (by decide) rfl ?_
    refine aw_aload_n dX6_add_17 rfl (by decide) ?_
    refine aw_dup dX6_add_18 rfl ?_
    refine aw_getiv (v := I 9 1) dX6_add_19 fX6_15 ⟨Nat.le_of_ble_eq_true rfl, Nat.le_of_ble_eq_true rfl⟩ rfl rfl (ab_u_i (by decide)) ?_
    refine aw_iconst dX6_add_22 ?_
    refine aw_iadd dX6_add_23 ?_
    refine aw_puti dX6_add_24 fX6_15 ⟨Nat.le_of_ble_eq_true rfl, Nat.le_of_ble_eq_true rfl⟩ rfl rfl ?_
    refine aw_aload_n dX6_add_27 rfl (by decide) ?_
    refine aw_getiv (v := ((I 9 1) + 1)) dX6_add_28 fX6_15 ⟨Nat.le_of_ble_eq_true rfl, Nat.le_of_ble_eq_true rfl⟩ rfl rfl ab_u_s ?_
    refine aw_ireturn dX6_add_31 rfl ?_
    exact ⟨rfl, rfl⟩
set_option maxHeartbeats 4000000 in
set_option maxRecDepth 100000 in
theorem ct_X6_isFull_11 (G : ab_G) (I : Nat → Nat → Int) (F : Nat → Nat → Nat) (hs : ab_In (I 11 1)) : Ct G 0 0 0 YX6_isFull [ab_r 11] (104, I, F) (fun r h => r = some (ab_i (if 24 ≤ I 11 1 then 1 else 0)) ∧ h = (104, I, F)) := by
  refine Ct.ofW kX6_isFull (ls := [some (ab_r 11)]) (Nat.le_of_ble_eq_true rfl) rfl ?_
  refine aw_aload_n dX6_isFull_0 rfl (by decide) ?_
  refine aw_geti dX6_isFull_1 fX6_15 ⟨Nat.le_of_ble_eq_true rfl, Nat.le_of_ble_eq_true rfl⟩ rfl rfl ?_
  refine aw_bipush dX6_isFull_4 rfl ?_
  refine aw_icmp_lt (tgt := 13) dX6_isFull_6 rfl (by first | assumption | (unfold ab_In at *; omega)) (by first | assumption | (unfold ab_In at *; omega)) (fun c_6 => ?_) (fun c_6 => ?_)
  · refine aw_iconst dX6_isFull_13 ?_
    refine aw_breturn dX6_isFull_14 rfl (by omega) ?_
    exact ⟨by first | rw [if_pos (by omega)] | rw [if_neg (by omega)], rfl⟩
  · refine aw_iconst dX6_isFull_9 ?_
    refine aw_goto (tgt := 14) dX6_isFull_10 rfl ?_
    refine aw_breturn dX6_isFull_14 rfl (by omega) ?_
    exact ⟨by first | rw [if_pos (by omega)] | rw [if_neg (by omega)], rfl⟩
set_option maxHeartbeats 4000000 in
set_option maxRecDepth 100000 in
theorem ct_X6_inWeek_11 (G : ab_G) (I : Nat → Nat → Int) (F : Nat → Nat → Nat) (hF : ab_FB F) (week : Int) (h0 : 0 ≤ I 11 1) (h1 : I 11 1 ≤ 24) (hw0 : 0 ≤ week) (hw1 : week < 1000000) : Ct G 0 0 0 YX6_inWeek [ab_r 11, ab_i week] (104, I, F) (fun r h => r = some (ab_i (if I 11 1 = 0 then -1 else I 12 (week % I 11 1).toNat)) ∧ h = (104, I, F)) := by
  refine Ct.ofW kX6_inWeek (ls := [some (ab_r 11), some (ab_i week)]) (Nat.le_of_ble_eq_true rfl) rfl ?_
  refine aw_aload_n dX6_inWeek_0 rfl (by decide) ?_
  refine aw_geti dX6_inWeek_1 fX6_15 ⟨Nat.le_of_ble_eq_true rfl, Nat.le_of_ble_eq_true rfl⟩ rfl rfl ?_
  refine aw_if_ne (tgt := 11) dX6_inWeek_4 rfl (by first | assumption | (unfold ab_In at *; omega)) (fun c_4 => ?_) (fun c_4 => ?_)
  · refine aw_aload_n dX6_inWeek_11 rfl (by decide) ?_
    refine aw_getrv (r := 12) dX6_inWeek_12 fX6_9 ⟨Nat.le_of_ble_eq_true rfl, Nat.le_of_ble_eq_true rfl⟩ rfl rfl (hF.at 11 0 12 rfl rfl rfl) ?_
    refine aw_iload_n dX6_inWeek_15 rfl ?_
    refine aw_aload_n dX6_inWeek_16 rfl (by decide) ?_
    refine aw_geti dX6_inWeek_17 fX6_15 ⟨Nat.le_of_ble_eq_true rfl, Nat.le_of_ble_eq_true rfl⟩ rfl rfl ?_
    refine aw_irem dX6_inWeek_20 (by first | assumption | (unfold ab_In at *; omega)) (by omega) ?_
    refine aw_ialdq (q := (ab_rem week (I 11 1)).toNat) (v := I 12 (ab_rem week (I 11 1)).toNat) dX6_inWeek_21 ⟨Nat.le_of_ble_eq_true rfl, Nat.le_of_ble_eq_true rfl⟩ rfl (by rw [ab_rem_n (by omega) (by omega) (by omega) (by omega)]; exact Int.emod_nonneg _ (by omega)) (by rw [ab_rem_n (by omega) (by omega) (by omega) (by omega)]; have := Int.emod_lt_of_pos week (show 0 < I 11 1 by omega); omega) (by decide) rfl rfl ?_
    refine aw_ireturn dX6_inWeek_22 rfl ?_
    exact ⟨by first | rw [if_pos (by omega)] | rw [if_neg (by omega), ab_rem_n (by omega) (by omega) (by omega) (by omega)], rfl⟩
  · refine aw_iconst dX6_inWeek_7 ?_
    refine aw_goto (tgt := 22) dX6_inWeek_8 rfl ?_
    refine aw_ireturn dX6_inWeek_22 rfl ?_
    exact ⟨by first | rw [if_pos (by omega)] | rw [if_neg (by omega), ab_rem_n (by omega) (by omega) (by omega) (by omega)], rfl⟩
set_option maxHeartbeats 4000000 in
set_option maxRecDepth 100000 in
theorem ct_X6_add_11 (G : ab_G) (I : Nat → Nat → Int) (F : Nat → Nat → Nat) (hF : ab_FB F) (v : Int) (h0 : 0 ≤ I 11 1) (h1 : I 11 1 < 24) : Ct G 1 0 0 YX6_add [ab_r 11, ab_i v] (104, I, F) (fun r h => r = some (ab_i (I 11 1 + 1)) ∧ h = (104, ab_u (ab_u I 12 (I 11 1).toNat v) 11 1 (I 11 1 + 1), F)) := by
  refine Ct.ofW kX6_add (ls := [some (ab_r 11), some (ab_i v)]) (Nat.le_of_ble_eq_true rfl) rfl ?_
  refine aw_aload_n dX6_add_0 rfl (by decide) ?_
  refine aw_callV (as := []) (rest := []) dX6_add_1 (ct_X6_isFull_11 G I F (by unfold ab_In; omega)) ⟨Nat.le_of_ble_eq_true rfl, Nat.le_of_ble_eq_true rfl⟩ rfl kc6 rfl kX6_isFull iX6_isFull eX6_isFull lX6_19 rfl (Nat.le_of_ble_eq_true rfl) (by decide) (by decide) (by decide) (by decide) ?_
  rintro _ _ ⟨rfl, rfl⟩
  refine aw_if_ne (tgt := 27) dX6_add_4 rfl (by split <;> (unfold ab_In; omega)) (fun c_4 => ?_) (fun c_4 => ?_)
  · rw [if_neg (by omega)] at c_4; exact absurd rfl c_4
  · refine aw_aload_n dX6_add_7 rfl (by decide) ?_
    refine aw_getrv (r := 12) dX6_add_8 fX6_9 ⟨Nat.le_of_ble_eq_true rfl, Nat.le_of_ble_eq_true rfl⟩ rfl rfl (hF.at 11 0 12 rfl rfl rfl) ?_
    refine aw_aload_n dX6_add_11 rfl (by decide) ?_
    refine aw_geti dX6_add_12 fX6_15 ⟨Nat.le_of_ble_eq_true rfl, Nat.le_of_ble_eq_true rfl⟩ rfl rfl ?_
    refine aw_iload_n dX6_add_15 rfl ?_
    refine aw_iastv (q := (I 11 1).toNat) dX6_add_16 ⟨Nat.le_of_ble_eq_true rfl, Nat.le_of_ble_eq_true rfl⟩ rfl (by omega) (by omega) (by decide) rfl ?_
    refine aw_aload_n dX6_add_17 rfl (by decide) ?_
    refine aw_dup dX6_add_18 rfl ?_
    refine aw_getiv (v := I 11 1) dX6_add_19 fX6_15 ⟨Nat.le_of_ble_eq_true rfl, Nat.le_of_ble_eq_true rfl⟩ rfl rfl (ab_u_i (by decide)) ?_
    refine aw_iconst dX6_add_22 ?_
    refine aw_iadd dX6_add_23 ?_
    refine aw_puti dX6_add_24 fX6_15 ⟨Nat.le_of_ble_eq_true rfl, Nat.le_of_ble_eq_true rfl⟩ rfl rfl ?_
    refine aw_aload_n dX6_add_27 rfl (by decide) ?_
    refine aw_getiv (v := ((I 11 1) + 1)) dX6_add_28 fX6_15 ⟨Nat.le_of_ble_eq_true rfl, Nat.le_of_ble_eq_true rfl⟩ rfl rfl ab_u_s ?_
    refine aw_ireturn dX6_add_31 rfl ?_
    exact ⟨rfl, rfl⟩
set_option maxHeartbeats 4000000 in
set_option maxRecDepth 100000 in
theorem ct_X7_setWay_13 (G : ab_G) (I : Nat → Nat → Int) (F : Nat → Nat → Nat) (hF : ab_FB F) (s : Nat) (a b c : Int) (hs : s < 4) : Ct G 0 0 0 YX7_setWay [ab_r 13, ab_i (s : Int), ab_i a, ab_i b, ab_i c] (104, I, F) (fun r h => r = none ∧ h = (104, ab_u (ab_u (ab_u I 14 s a) 15 s b) 16 s c, F)) := by
  refine Ct.ofW kX7_setWay (ls := [some (ab_r 13), some (ab_i (s : Int)), some (ab_i a), some (ab_i b), some (ab_i c)]) (Nat.le_of_ble_eq_true rfl) rfl ?_
  refine aw_aload_n dX7_setWay_0 rfl (by decide) ?_
  refine aw_getrv (r := 14) dX7_setWay_1 fX7_9 ⟨Nat.le_of_ble_eq_true rfl, Nat.le_of_ble_eq_true rfl⟩ rfl rfl (hF.at 13 4 14 rfl rfl rfl) ?_
  refine aw_iload_n dX7_setWay_4 rfl ?_
  refine aw_iload_n dX7_setWay_5 rfl ?_
  refine aw_iastv (q := s) dX7_setWay_6 ⟨Nat.le_of_ble_eq_true rfl, Nat.le_of_ble_eq_true rfl⟩ rfl (by omega) (by omega) (by decide) rfl ?_
  refine aw_aload_n dX7_setWay_7 rfl (by decide) ?_
  refine aw_getrv (r := 15) dX7_setWay_8 fX7_15 ⟨Nat.le_of_ble_eq_true rfl, Nat.le_of_ble_eq_true rfl⟩ rfl rfl (hF.at 13 5 15 rfl rfl rfl) ?_
  refine aw_iload_n dX7_setWay_11 rfl ?_
  refine aw_iload_n dX7_setWay_12 rfl ?_
  refine aw_iastv (q := s) dX7_setWay_13 ⟨Nat.le_of_ble_eq_true rfl, Nat.le_of_ble_eq_true rfl⟩ rfl (by omega) (by omega) (by decide) rfl ?_
  refine aw_aload_n dX7_setWay_14 rfl (by decide) ?_
  refine aw_getrv (r := 16) dX7_setWay_15 fX7_18 ⟨Nat.le_of_ble_eq_true rfl, Nat.le_of_ble_eq_true rfl⟩ rfl rfl (hF.at 13 6 16 rfl rfl rfl) ?_
  refine aw_iload_n dX7_setWay_18 rfl ?_
  refine aw_iload dX7_setWay_19 rfl ?_
  refine aw_iastv (q := s) dX7_setWay_21 ⟨Nat.le_of_ble_eq_true rfl, Nat.le_of_ble_eq_true rfl⟩ rfl (by omega) (by omega) (by decide) rfl ?_
  refine aw_return dX7_setWay_22 rfl ?_
  exact ⟨rfl, rfl⟩
set_option maxHeartbeats 4000000 in
set_option maxRecDepth 100000 in
theorem ct_X7_takes_13 (G : ab_G) (I : Nat → Nat → Int) (F : Nat → Nat → Nat) (hF : ab_FB F) (s : Nat) (v t : Int) (hs : s < 4) (hv : ab_In v) (hb : 0 ≤ I 15 s ∧ I 15 s ≤ 99) (hf : ab_In (I 15 s - I 16 s * t)) (hy : ab_In (I 14 s)) : Ct G 0 0 0 YX7_takes [ab_r 13, ab_i (s : Int), ab_i v, ab_i t] (104, I, F) (fun r h => r = some (ab_i (rl_takes (I 14 s) (I 15 s) (I 16 s) v t)) ∧ h = (104, I, F)) := by
  refine Ct.ofW kX7_takes (ls := [some (ab_r 13), some (ab_i (s : Int)), some (ab_i v), some (ab_i t)]) (Nat.le_of_ble_eq_true rfl) rfl ?_
  refine aw_aload_n dX7_takes_0 rfl (by decide) ?_
  refine aw_getrv (r := 14) dX7_takes_1 fX7_9 ⟨Nat.le_of_ble_eq_true rfl, Nat.le_of_ble_eq_true rfl⟩ rfl rfl (hF.at 13 4 14 rfl rfl rfl) ?_
  refine aw_iload_n dX7_takes_4 rfl ?_
  refine aw_ialdq (q := s) (v := I 14 s) dX7_takes_5 ⟨Nat.le_of_ble_eq_true rfl, Nat.le_of_ble_eq_true rfl⟩ rfl (by omega) (by omega) (by decide) rfl rfl ?_
  rcases (show (I 14 s) = 1 ∨ (I 14 s) = 2 ∨ (¬ (I 14 s) = 1 ∧ ¬ (I 14 s) = 2) by omega) with c_6 | c_6 | c_6
  · refine aw_look (off := 26) (tgt := 32) dX7_takes_6 rfl (by first | assumption | (unfold ab_In at *; omega)) (by rw [c_6]; rfl) rfl ?_
    refine aw_iload_n dX7_takes_32 rfl ?_
    refine aw_aload_n dX7_takes_33 rfl (by decide) ?_
    refine aw_getrv (r := 15) dX7_takes_34 fX7_15 ⟨Nat.le_of_ble_eq_true rfl, Nat.le_of_ble_eq_true rfl⟩ rfl rfl (hF.at 13 5 15 rfl rfl rfl) ?_
    refine aw_iload_n dX7_takes_37 rfl ?_
    refine aw_ialdq (q := s) (v := I 15 s) dX7_takes_38 ⟨Nat.le_of_ble_eq_true rfl, Nat.le_of_ble_eq_true rfl⟩ rfl (by omega) (by omega) (by decide) rfl rfl ?_
    refine aw_icmp_lt (tgt := 46) dX7_takes_39 rfl (by first | assumption | (unfold ab_In at *; omega)) (by first | assumption | (unfold ab_In at *; omega)) (fun c_39 => ?_) (fun c_39 => ?_)
    · refine aw_iconst dX7_takes_46 ?_
      refine aw_breturn dX7_takes_47 rfl (by omega) ?_
      refine ⟨?_, rfl⟩
      unfold rl_takes
      (repeat' split) <;> first | rfl | (exfalso; omega)
    · refine aw_iconst dX7_takes_42 ?_
      refine aw_goto (tgt := 47) dX7_takes_43 rfl ?_
      refine aw_breturn dX7_takes_47 rfl (by omega) ?_
      refine ⟨?_, rfl⟩
      unfold rl_takes
      (repeat' split) <;> first | rfl | (exfalso; omega)
  · refine aw_look (off := 42) (tgt := 48) dX7_takes_6 rfl (by first | assumption | (unfold ab_In at *; omega)) (by rw [c_6]; rfl) rfl ?_
    refine aw_iload_n dX7_takes_48 rfl ?_
    refine aw_aload_n dX7_takes_49 rfl (by decide) ?_
    refine aw_getrv (r := 15) dX7_takes_50 fX7_15 ⟨Nat.le_of_ble_eq_true rfl, Nat.le_of_ble_eq_true rfl⟩ rfl rfl (hF.at 13 5 15 rfl rfl rfl) ?_
    refine aw_iload_n dX7_takes_53 rfl ?_
    refine aw_ialdq (q := s) (v := I 15 s) dX7_takes_54 ⟨Nat.le_of_ble_eq_true rfl, Nat.le_of_ble_eq_true rfl⟩ rfl (by omega) (by omega) (by decide) rfl rfl ?_
    refine aw_aload_n dX7_takes_55 rfl (by decide) ?_
    refine aw_getrv (r := 16) dX7_takes_56 fX7_18 ⟨Nat.le_of_ble_eq_true rfl, Nat.le_of_ble_eq_true rfl⟩ rfl rfl (hF.at 13 6 16 rfl rfl rfl) ?_
    refine aw_iload_n dX7_takes_59 rfl ?_
    refine aw_ialdq (q := s) (v := I 16 s) dX7_takes_60 ⟨Nat.le_of_ble_eq_true rfl, Nat.le_of_ble_eq_true rfl⟩ rfl (by omega) (by omega) (by decide) rfl rfl ?_
    refine aw_iload_n dX7_takes_61 rfl ?_
    refine aw_imul dX7_takes_62 ?_
    refine aw_isub dX7_takes_63 ?_
    refine aw_icmp_lt (tgt := 71) dX7_takes_64 rfl (by first | assumption | (unfold ab_In at *; omega)) (by first | assumption | (unfold ab_In at *; omega)) (fun c_64 => ?_) (fun c_64 => ?_)
    · refine aw_iconst dX7_takes_71 ?_
      refine aw_breturn dX7_takes_72 rfl (by omega) ?_
      refine ⟨?_, rfl⟩
      unfold rl_takes
      (repeat' split) <;> first | rfl | (exfalso; omega)
    · refine aw_iconst dX7_takes_67 ?_
      refine aw_goto (tgt := 72) dX7_takes_68 rfl ?_
      refine aw_breturn dX7_takes_72 rfl (by omega) ?_
      refine ⟨?_, rfl⟩
      unfold rl_takes
      (repeat' split) <;> first | rfl | (exfalso; omega)
  · refine aw_look (off := 67) (tgt := 73) dX7_takes_6 rfl (by first | assumption | (unfold ab_In at *; omega)) (by simp [Op.lookupswitch.offset]; (repeat' split) <;> first | rfl | omega) rfl ?_
    refine aw_iconst dX7_takes_73 ?_
    refine aw_breturn dX7_takes_74 rfl (by omega) ?_
    refine ⟨?_, rfl⟩
    unfold rl_takes
    (repeat' split) <;> first | rfl | (exfalso; omega)
set_option maxHeartbeats 4000000 in
set_option maxRecDepth 100000 in
theorem ct_X7_setWay_17 (G : ab_G) (I : Nat → Nat → Int) (F : Nat → Nat → Nat) (hF : ab_FB F) (s : Nat) (a b c : Int) (hs : s < 4) : Ct G 0 0 0 YX7_setWay [ab_r 17, ab_i (s : Int), ab_i a, ab_i b, ab_i c] (104, I, F) (fun r h => r = none ∧ h = (104, ab_u (ab_u (ab_u I 18 s a) 19 s b) 20 s c, F)) := by
  refine Ct.ofW kX7_setWay (ls := [some (ab_r 17), some (ab_i (s : Int)), some (ab_i a), some (ab_i b), some (ab_i c)]) (Nat.le_of_ble_eq_true rfl) rfl ?_
  refine aw_aload_n dX7_setWay_0 rfl (by decide) ?_
  refine aw_getrv (r := 18) dX7_setWay_1 fX7_9 ⟨Nat.le_of_ble_eq_true rfl, Nat.le_of_ble_eq_true rfl⟩ rfl rfl (hF.at 17 4 18 rfl rfl rfl) ?_
  refine aw_iload_n dX7_setWay_4 rfl ?_
  refine aw_iload_n dX7_setWay_5 rfl ?_
  refine aw_iastv (q := s) dX7_setWay_6 ⟨Nat.le_of_ble_eq_true rfl, Nat.le_of_ble_eq_true rfl⟩ rfl (by omega) (by omega) (by decide) rfl ?_
  refine aw_aload_n dX7_setWay_7 rfl (by decide) ?_
  refine aw_getrv (r := 19) dX7_setWay_8 fX7_15 ⟨Nat.le_of_ble_eq_true rfl, Nat.le_of_ble_eq_true rfl⟩ rfl rfl (hF.at 17 5 19 rfl rfl rfl) ?_
  refine aw_iload_n dX7_setWay_11 rfl ?_
  refine aw_iload_n dX7_setWay_12 rfl ?_
  refine aw_iastv (q := s) dX7_setWay_13 ⟨Nat.le_of_ble_eq_true rfl, Nat.le_of_ble_eq_true rfl⟩ rfl (by omega) (by omega) (by decide) rfl ?_
  refine aw_aload_n dX7_setWay_14 rfl (by decide) ?_
  refine aw_getrv (r := 20) dX7_setWay_15 fX7_18 ⟨Nat.le_of_ble_eq_true rfl, Nat.le_of_ble_eq_true rfl⟩ rfl rfl (hF.at 17 6 20 rfl rfl rfl) ?_
  refine aw_iload_n dX7_setWay_18 rfl ?_
  refine aw_iload dX7_setWay_19 rfl ?_
  refine aw_iastv (q := s) dX7_setWay_21 ⟨Nat.le_of_ble_eq_true rfl, Nat.le_of_ble_eq_true rfl⟩ rfl (by omega) (by omega) (by decide) rfl ?_
  refine aw_return dX7_setWay_22 rfl ?_
  exact ⟨rfl, rfl⟩
set_option maxHeartbeats 4000000 in
set_option maxRecDepth 100000 in
theorem ct_X7_takes_17 (G : ab_G) (I : Nat → Nat → Int) (F : Nat → Nat → Nat) (hF : ab_FB F) (s : Nat) (v t : Int) (hs : s < 4) (hv : ab_In v) (hb : 0 ≤ I 19 s ∧ I 19 s ≤ 99) (hf : ab_In (I 19 s - I 20 s * t)) (hy : ab_In (I 18 s)) : Ct G 0 0 0 YX7_takes [ab_r 17, ab_i (s : Int), ab_i v, ab_i t] (104, I, F) (fun r h => r = some (ab_i (rl_takes (I 18 s) (I 19 s) (I 20 s) v t)) ∧ h = (104, I, F)) := by
  refine Ct.ofW kX7_takes (ls := [some (ab_r 17), some (ab_i (s : Int)), some (ab_i v), some (ab_i t)]) (Nat.le_of_ble_eq_true rfl) rfl ?_
  refine aw_aload_n dX7_takes_0 rfl (by decide) ?_
  refine aw_getrv (r := 18) dX7_takes_1 fX7_9 ⟨Nat.le_of_ble_eq_true rfl, Nat.le_of_ble_eq_true rfl⟩ rfl rfl (hF.at 17 4 18 rfl rfl rfl) ?_
  refine aw_iload_n dX7_takes_4 rfl ?_
  refine aw_ialdq (q := s) (v := I 18 s) dX7_takes_5 ⟨Nat.le_of_ble_eq_true rfl, Nat.le_of_ble_eq_true rfl⟩ rfl (by omega) (by omega) (by decide) rfl rfl ?_
  rcases (show (I 18 s) = 1 ∨ (I 18 s) = 2 ∨ (¬ (I 18 s) = 1 ∧ ¬ (I 18 s) = 2) by omega) with c_6 | c_6 | c_6
  · refine aw_look (off := 26) (tgt := 32) dX7_takes_6 rfl (by first | assumption | (unfold ab_In at *; omega)) (by rw [c_6]; rfl) rfl ?_
    refine aw_iload_n dX7_takes_32 rfl ?_
    refine aw_aload_n dX7_takes_33 rfl (by decide) ?_
    refine aw_getrv (r := 19) dX7_takes_34 fX7_15 ⟨Nat.le_of_ble_eq_true rfl, Nat.le_of_ble_eq_true rfl⟩ rfl rfl (hF.at 17 5 19 rfl rfl rfl) ?_
    refine aw_iload_n dX7_takes_37 rfl ?_
    refine aw_ialdq (q := s) (v := I 19 s) dX7_takes_38 ⟨Nat.le_of_ble_eq_true rfl, Nat.le_of_ble_eq_true rfl⟩ rfl (by omega) (by omega) (by decide) rfl rfl ?_
    refine aw_icmp_lt (tgt := 46) dX7_takes_39 rfl (by first | assumption | (unfold ab_In at *; omega)) (by first | assumption | (unfold ab_In at *; omega)) (fun c_39 => ?_) (fun c_39 => ?_)
    · refine aw_iconst dX7_takes_46 ?_
      refine aw_breturn dX7_takes_47 rfl (by omega) ?_
      refine ⟨?_, rfl⟩
      unfold rl_takes
      (repeat' split) <;> first | rfl | (exfalso; omega)
    · refine aw_iconst dX7_takes_42 ?_
      refine aw_goto (tgt := 47) dX7_takes_43 rfl ?_
      refine aw_breturn dX7_takes_47 rfl (by omega) ?_
      refine ⟨?_, rfl⟩
      unfold rl_takes
      (repeat' split) <;> first | rfl | (exfalso; omega)
  · refine aw_look (off := 42) (tgt := 48) dX7_takes_6 rfl (by first | assumption | (unfold ab_In at *; omega)) (by rw [c_6]; rfl) rfl ?_
    refine aw_iload_n dX7_takes_48 rfl ?_
    refine aw_aload_n dX7_takes_49 rfl (by decide) ?_
    refine aw_getrv (r := 19) dX7_takes_50 fX7_15 ⟨Nat.le_of_ble_eq_true rfl, Nat.le_of_ble_eq_true rfl⟩ rfl rfl (hF.at 17 5 19 rfl rfl rfl) ?_
    refine aw_iload_n dX7_takes_53 rfl ?_
    refine aw_ialdq (q := s) (v := I 19 s) dX7_takes_54 ⟨Nat.le_of_ble_eq_true rfl, Nat.le_of_ble_eq_true rfl⟩ rfl (by omega) (by omega) (by decide) rfl rfl ?_
    refine aw_aload_n dX7_takes_55 rfl (by decide) ?_
    refine aw_getrv (r := 20) dX7_takes_56 fX7_18 ⟨Nat.le_of_ble_eq_true rfl, Nat.le_of_ble_eq_true rfl⟩ rfl rfl (hF.at 17 6 20 rfl rfl rfl) ?_
    refine aw_iload_n dX7_takes_59 rfl ?_
    refine aw_ialdq (q := s) (v := I 20 s) dX7_takes_60 ⟨Nat.le_of_ble_eq_true rfl, Nat.le_of_ble_eq_true rfl⟩ rfl (by omega) (by omega) (by decide) rfl rfl ?_
    refine aw_iload_n dX7_takes_61 rfl ?_
    refine aw_imul dX7_takes_62 ?_
    refine aw_isub dX7_takes_63 ?_
    refine aw_icmp_lt (tgt := 71) dX7_takes_64 rfl (by first | assumption | (unfold ab_In at *; omega)) (by first | assumption | (unfold ab_In at *; omega)) (fun c_64 => ?_) (fun c_64 => ?_)
    · refine aw_iconst dX7_takes_71 ?_
      refine aw_breturn dX7_takes_72 rfl (by omega) ?_
      refine ⟨?_, rfl⟩
      unfold rl_takes
      (repeat' split) <;> first | rfl | (exfalso; omega)
    · refine aw_iconst dX7_takes_67 ?_
      refine aw_goto (tgt := 72) dX7_takes_68 rfl ?_
      refine aw_breturn dX7_takes_72 rfl (by omega) ?_
      refine ⟨?_, rfl⟩
      unfold rl_takes
      (repeat' split) <;> first | rfl | (exfalso; omega)
  · refine aw_look (off := 67) (tgt := 73) dX7_takes_6 rfl (by first | assumption | (unfold ab_In at *; omega)) (by simp [Op.lookupswitch.offset]; (repeat' split) <;> first | rfl | omega) rfl ?_
    refine aw_iconst dX7_takes_73 ?_
    refine aw_breturn dX7_takes_74 rfl (by omega) ?_
    refine ⟨?_, rfl⟩
    unfold rl_takes
    (repeat' split) <;> first | rfl | (exfalso; omega)
