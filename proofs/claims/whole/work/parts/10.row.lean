set_option maxHeartbeats 4000000 in
set_option maxRecDepth 100000 in
theorem ct_X11_within (G : ab_G) (h0 : ab_H) (v least most : Int) (hv : ab_In v) (hl : ab_In least) (hm : ab_In most) : Ct G 0 0 0 YX11_within [ab_i v, ab_i least, ab_i most] h0 (fun r h => r = some (ab_i (if least ≤ v ∧ v ≤ most then 1 else 0)) ∧ h = h0) := by
  refine Ct.ofW kX11_within (ls := [some (ab_i v), some (ab_i least), some (ab_i most)]) (Nat.le_of_ble_eq_true rfl) rfl ?_
  refine aw_iload_n dX11_within_0 rfl ?_
  refine aw_iload_n dX11_within_1 rfl ?_
  refine aw_icmp_lt (tgt := 14) dX11_within_2 rfl (by assumption) (by assumption) (fun c_2 => ?_) (fun c_2 => ?_)
  · refine aw_iconst dX11_within_14 ?_
    refine aw_breturn dX11_within_15 rfl (by omega) ?_
    exact ⟨by first | rw [if_pos (by omega)] | rw [if_neg (by omega)], rfl⟩
  · refine aw_iload_n dX11_within_5 rfl ?_
    refine aw_iload_n dX11_within_6 rfl ?_
    refine aw_icmp_gt (tgt := 14) dX11_within_7 rfl (by assumption) (by assumption) (fun c_7 => ?_) (fun c_7 => ?_)
    · refine aw_iconst dX11_within_14 ?_
      refine aw_breturn dX11_within_15 rfl (by omega) ?_
      exact ⟨by first | rw [if_pos (by omega)] | rw [if_neg (by omega)], rfl⟩
    · refine aw_iconst dX11_within_10 ?_
      refine aw_goto (tgt := 15) dX11_within_11 rfl ?_
      refine aw_breturn dX11_within_15 rfl (by omega) ?_
      exact ⟨by first | rw [if_pos (by omega)] | rw [if_neg (by omega)], rfl⟩
set_option maxHeartbeats 4000000 in
set_option maxRecDepth 100000 in
theorem ct_X12_in (G : ab_G) (h0 : ab_H) (v least most : Int) (hv : ab_In v) (hl : ab_In least) (hm : ab_In most) : Ct G 0 0 0 YX12_in [ab_i v, ab_i least, ab_i most] h0 (fun r h => r = some (ab_i (if least ≤ v ∧ v ≤ most then 1 else 0)) ∧ h = h0) := by
  refine Ct.ofW kX12_in (ls := [some (ab_i v), some (ab_i least), some (ab_i most)]) (Nat.le_of_ble_eq_true rfl) rfl ?_
  refine aw_iload_n dX12_in_0 rfl ?_
  refine aw_iload_n dX12_in_1 rfl ?_
  refine aw_icmp_lt (tgt := 14) dX12_in_2 rfl (by assumption) (by assumption) (fun c_2 => ?_) (fun c_2 => ?_)
  · refine aw_iconst dX12_in_14 ?_
    refine aw_breturn dX12_in_15 rfl (by omega) ?_
    exact ⟨by first | rw [if_pos (by omega)] | rw [if_neg (by omega)], rfl⟩
  · refine aw_iload_n dX12_in_5 rfl ?_
    refine aw_iload_n dX12_in_6 rfl ?_
    refine aw_icmp_gt (tgt := 14) dX12_in_7 rfl (by assumption) (by assumption) (fun c_7 => ?_) (fun c_7 => ?_)
    · refine aw_iconst dX12_in_14 ?_
      refine aw_breturn dX12_in_15 rfl (by omega) ?_
      exact ⟨by first | rw [if_pos (by omega)] | rw [if_neg (by omega)], rfl⟩
    · refine aw_iconst dX12_in_10 ?_
      refine aw_goto (tgt := 15) dX12_in_11 rfl ?_
      refine aw_breturn dX12_in_15 rfl (by omega) ?_
      exact ⟨by first | rw [if_pos (by omega)] | rw [if_neg (by omega)], rfl⟩
set_option maxHeartbeats 4000000 in
set_option maxRecDepth 100000 in
theorem ct_X11_isSort (G : ab_G) (h0 : ab_H) (v : Int) (hv : ab_In v) : Ct G 1 0 0 YX11_isSort [ab_i v] h0 (fun r h => r = some (ab_i (if 0 ≤ v ∧ v ≤ 3 then 1 else 0)) ∧ h = h0) := by
  refine Ct.ofW kX11_isSort (ls := [some (ab_i v)]) (Nat.le_of_ble_eq_true rfl) rfl ?_
  refine aw_iload_n dX11_isSort_0 rfl ?_
  refine aw_iconst dX11_isSort_1 ?_
  refine aw_iconst dX11_isSort_2 ?_
  refine aw_callS (as := [ab_i v, ab_i 0, ab_i 3]) (rest := []) dX11_isSort_3 (ct_X11_within G h0 v 0 3 hv (by unfold ab_In; omega) (by unfold ab_In; omega)) kX11_within sX11_within lX11_89 rfl (Nat.le_of_ble_eq_true rfl) (by decide) (by decide) (by decide) (by decide) ?_
  rintro _ _ ⟨rfl, rfl⟩
  refine aw_breturn dX11_isSort_6 rfl (by split <;> simp) ?_
  exact ⟨rfl, rfl⟩
set_option maxHeartbeats 4000000 in
set_option maxRecDepth 100000 in
theorem ct_X11_isKind (G : ab_G) (h0 : ab_H) (v : Int) (hv : ab_In v) : Ct G 1 0 0 YX11_isKind [ab_i v] h0 (fun r h => r = some (ab_i (if 0 ≤ v ∧ v ≤ 3 then 1 else 0)) ∧ h = h0) := by
  refine Ct.ofW kX11_isKind (ls := [some (ab_i v)]) (Nat.le_of_ble_eq_true rfl) rfl ?_
  refine aw_iload_n dX11_isKind_0 rfl ?_
  refine aw_iconst dX11_isKind_1 ?_
  refine aw_iconst dX11_isKind_2 ?_
  refine aw_callS (as := [ab_i v, ab_i 0, ab_i 3]) (rest := []) dX11_isKind_3 (ct_X11_within G h0 v 0 3 hv (by unfold ab_In; omega) (by unfold ab_In; omega)) kX11_within sX11_within lX11_89 rfl (Nat.le_of_ble_eq_true rfl) (by decide) (by decide) (by decide) (by decide) ?_
  rintro _ _ ⟨rfl, rfl⟩
  refine aw_breturn dX11_isKind_6 rfl (by split <;> simp) ?_
  exact ⟨rfl, rfl⟩
set_option maxHeartbeats 4000000 in
set_option maxRecDepth 100000 in
theorem ct_X12_isFour (G : ab_G) (h0 : ab_H) (v : Int) (hv : ab_In v) : Ct G 1 0 0 YX12_isFour [ab_i v] h0 (fun r h => r = some (ab_i (if 0 ≤ v ∧ v ≤ 3 then 1 else 0)) ∧ h = h0) := by
  refine Ct.ofW kX12_isFour (ls := [some (ab_i v)]) (Nat.le_of_ble_eq_true rfl) rfl ?_
  refine aw_iload_n dX12_isFour_0 rfl ?_
  refine aw_iconst dX12_isFour_1 ?_
  refine aw_iconst dX12_isFour_2 ?_
  refine aw_callS (as := [ab_i v, ab_i 0, ab_i 3]) (rest := []) dX12_isFour_3 (ct_X12_in G h0 v 0 3 hv (by unfold ab_In; omega) (by unfold ab_In; omega)) kX12_in sX12_in lX12_75 rfl (Nat.le_of_ble_eq_true rfl) (by decide) (by decide) (by decide) (by decide) ?_
  rintro _ _ ⟨rfl, rfl⟩
  refine aw_breturn dX12_isFour_6 rfl (by split <;> simp) ?_
  exact ⟨rfl, rfl⟩
set_option maxHeartbeats 4000000 in
set_option maxRecDepth 100000 in
theorem ct_X6_isFull_9 (G : ab_G) (I : Nat → Nat → Int) (F : Nat → Nat → Nat) (hs : ab_In (I 9 1)) : Ct G 0 0 0 YX6_isFull [ab_r 9] (104, I, F) (fun r h => r = some (ab_i (if 24 ≤ I 9 1 then 1 else 0)) ∧ h = (104, I, F)) := by
  refine Ct.ofW kX6_isFull (ls := [some (ab_r 9)]) (Nat.le_of_ble_eq_true rfl) rfl ?_
  refine aw_aload_n dX6_isFull_0 rfl (by decide) ?_
  refine aw_geti dX6_isFull_1 fX6_15 ⟨by decide, by decide⟩ rfl rfl ?_
  refine aw_bipush dX6_isFull_4 rfl ?_
  refine aw_icmp_lt (tgt := 13) dX6_isFull_6 rfl (by first | assumption | (unfold ab_In at *; omega)) (by first | assumption | (unfold ab_In at *; omega)) (fun c_6 => ?_) (fun c_6 => ?_)
  · refine aw_iconst dX6_isFull_13 ?_
    refine aw_breturn dX6_isFull_14 rfl (by omega) ?_
    exact ⟨by first | rw [if_pos (by omega)] | rw [if_neg (by omega)], rfl⟩
  · refine aw_iconst dX6_isFull_9 ?_
    refine aw_goto (tgt := 14) dX6_isFull_10 rfl ?_
    refine aw_breturn dX6_isFull_14 rfl (by omega) ?_
    exact ⟨by first | rw [if_pos (by omega)] | rw [if_neg (by omega)], rfl⟩
set_option maxHeartbeats 4000000 in
set_option maxRecDepth 100000 in
theorem ct_X6_isFull_11 (G : ab_G) (I : Nat → Nat → Int) (F : Nat → Nat → Nat) (hs : ab_In (I 11 1)) : Ct G 0 0 0 YX6_isFull [ab_r 11] (104, I, F) (fun r h => r = some (ab_i (if 24 ≤ I 11 1 then 1 else 0)) ∧ h = (104, I, F)) := by
  refine Ct.ofW kX6_isFull (ls := [some (ab_r 11)]) (Nat.le_of_ble_eq_true rfl) rfl ?_
  refine aw_aload_n dX6_isFull_0 rfl (by decide) ?_
  refine aw_geti dX6_isFull_1 fX6_15 ⟨by decide, by decide⟩ rfl rfl ?_
  refine aw_bipush dX6_isFull_4 rfl ?_
  refine aw_icmp_lt (tgt := 13) dX6_isFull_6 rfl (by first | assumption | (unfold ab_In at *; omega)) (by first | assumption | (unfold ab_In at *; omega)) (fun c_6 => ?_) (fun c_6 => ?_)
  · refine aw_iconst dX6_isFull_13 ?_
    refine aw_breturn dX6_isFull_14 rfl (by omega) ?_
    exact ⟨by first | rw [if_pos (by omega)] | rw [if_neg (by omega)], rfl⟩
  · refine aw_iconst dX6_isFull_9 ?_
    refine aw_goto (tgt := 14) dX6_isFull_10 rfl ?_
    refine aw_breturn dX6_isFull_14 rfl (by omega) ?_
    exact ⟨by first | rw [if_pos (by omega)] | rw [if_neg (by omega)], rfl⟩
