theorem worth_TB {I : Nat → Nat → Int} (h : TB I) {s k : Nat} {v : Int} (hs : s < 4) (hk : k < 4) (hv : 0 ≤ v ∧ v ≤ 99) : TB (ab_u (ab_u (ab_u I (4 + s) k v) 65 5 0) 85 (4 * s + k) v) := by
  refine ⟨fun s' hs' => ?_, fun s' k' hs' hk' => ?_, ?_, fun j hj => ?_, ?_, fun j hj => ?_⟩
  · rw [ab_u_o (by omega), ab_u_o (by omega), ab_u_o (by omega)]; exact h.1 s' hs'
  · rw [ab_u_o (by omega), ab_u_o (by omega)]
    by_cases e : s' = s ∧ k' = k
    · rw [e.1, e.2, ab_u_s]; exact hv
    · rw [ab_u_o (by omega)]; exact h.2.1 s' k' hs' hk'
  · rw [ab_u_o (by omega), ab_u_o (by omega), ab_u_o (by omega)]; exact h.2.2.1
  · rw [ab_u_o (by omega), ab_u_o (by omega), ab_u_o (by omega)]; exact h.2.2.2.1 j hj
  · rw [ab_u_o (by omega), ab_u_o (by omega), ab_u_o (by omega)]; exact h.2.2.2.2.1
  · rw [ab_u_o (by omega), ab_u_o (by omega), ab_u_o (by omega)]; exact h.2.2.2.2.2 j hj
theorem worth_IVt {I : Nat → Nat → Int} (h : IVt I) {s k : Nat} {v : Int} (hs : s < 4) (hk : k < 4) : IVt (ab_u (ab_u (ab_u I (4 + s) k v) 65 5 0) 85 (4 * s + k) v) := by
  refine ⟨fun s' hs' => ?_, fun s' k' hs' hk' => ?_, ?_, fun j hj => ?_, ?_, fun j hj => ?_⟩
  · rw [ab_u_o (by omega), ab_u_o (by omega), ab_u_o (by omega), ab_u_o (by omega), ab_u_o (by omega), ab_u_o (by omega)]; exact h.1 s' hs'
  · rw [ab_u_o (by omega), ab_u_o (by omega)]
    by_cases e : s' = s ∧ k' = k
    · rw [e.1, e.2, ab_u_s, ab_u_s]
    · rw [ab_u_o (by omega), ab_u_o (by omega), ab_u_o (by omega), ab_u_o (by omega)]; exact h.2.1 s' k' hs' hk'
  · rw [ab_u_o (by omega), ab_u_o (by omega), ab_u_o (by omega), ab_u_o (by omega), ab_u_o (by omega), ab_u_o (by omega)]; exact h.2.2.1
  · rw [ab_u_o (by omega), ab_u_o (by omega), ab_u_o (by omega), ab_u_o (by omega), ab_u_o (by omega), ab_u_o (by omega)]; exact h.2.2.2.1 j hj
  · rw [ab_u_o (by omega), ab_u_o (by omega), ab_u_o (by omega), ab_u_o (by omega), ab_u_o (by omega), ab_u_o (by omega)]; exact h.2.2.2.2.1
  · rw [ab_u_o (by omega), ab_u_o (by omega), ab_u_o (by omega), ab_u_o (by omega), ab_u_o (by omega), ab_u_o (by omega)]; exact h.2.2.2.2.2 j hj
theorem need_TB {I : Nat → Nat → Int} (h : TB I) {s : Nat} {v : Int} (hs : s < 4) (hv : 1 ≤ v ∧ v ≤ 9) : TB (ab_u (ab_u (ab_u I 8 s v) 65 5 0) 86 s v) := by
  refine ⟨fun s' hs' => ?_, fun s' k' hs' hk' => ?_, ?_, fun j hj => ?_, ?_, fun j hj => ?_⟩
  · rw [ab_u_o (by omega), ab_u_o (by omega)]
    by_cases e : s' = s
    · rw [e, ab_u_s]; exact hv
    · rw [ab_u_o (by omega)]; exact h.1 s' hs'
  · rw [ab_u_o (by omega), ab_u_o (by omega), ab_u_o (by omega)]; exact h.2.1 s' k' hs' hk'
  · rw [ab_u_o (by omega), ab_u_o (by omega), ab_u_o (by omega)]; exact h.2.2.1
  · rw [ab_u_o (by omega), ab_u_o (by omega), ab_u_o (by omega)]; exact h.2.2.2.1 j hj
  · rw [ab_u_o (by omega), ab_u_o (by omega), ab_u_o (by omega)]; exact h.2.2.2.2.1
  · rw [ab_u_o (by omega), ab_u_o (by omega), ab_u_o (by omega)]; exact h.2.2.2.2.2 j hj
theorem need_IVt {I : Nat → Nat → Int} (h : IVt I) {s : Nat} {v : Int} (hs : s < 4) : IVt (ab_u (ab_u (ab_u I 8 s v) 65 5 0) 86 s v) := by
  refine ⟨fun s' hs' => ?_, fun s' k' hs' hk' => ?_, ?_, fun j hj => ?_, ?_, fun j hj => ?_⟩
  · rw [ab_u_o (by omega), ab_u_o (by omega)]
    by_cases e : s' = s
    · rw [e, ab_u_s, ab_u_s]
    · rw [ab_u_o (by omega), ab_u_o (by omega), ab_u_o (by omega), ab_u_o (by omega)]; exact h.1 s' hs'
  · rw [ab_u_o (by omega), ab_u_o (by omega), ab_u_o (by omega), ab_u_o (by omega), ab_u_o (by omega), ab_u_o (by omega)]; exact h.2.1 s' k' hs' hk'
  · rw [ab_u_o (by omega), ab_u_o (by omega), ab_u_o (by omega), ab_u_o (by omega), ab_u_o (by omega), ab_u_o (by omega)]; exact h.2.2.1
  · rw [ab_u_o (by omega), ab_u_o (by omega), ab_u_o (by omega), ab_u_o (by omega), ab_u_o (by omega), ab_u_o (by omega)]; exact h.2.2.2.1 j hj
  · rw [ab_u_o (by omega), ab_u_o (by omega), ab_u_o (by omega), ab_u_o (by omega), ab_u_o (by omega), ab_u_o (by omega)]; exact h.2.2.2.2.1
  · rw [ab_u_o (by omega), ab_u_o (by omega), ab_u_o (by omega), ab_u_o (by omega), ab_u_o (by omega), ab_u_o (by omega)]; exact h.2.2.2.2.2 j hj
theorem coming_TB {I : Nat → Nat → Int} (h : TB I) {a : Int} (ha : -1 ≤ a ∧ a ≤ 3) (hr : I 9 1 < 24) : TB (ab_u (ab_u (ab_u (ab_u (ab_u I 65 5 0) 10 (I 9 1).toNat a) 9 1 (I 9 1 + 1)) 87 (I 9 1).toNat a) 84 2 (I 9 1 + 1)) := by
  have h9 := h.2.2.1
  refine ⟨fun s' hs' => ?_, fun s' k' hs' hk' => ?_, ?_, fun j hj => ?_, ?_, fun j hj => ?_⟩
  · rw [ab_u_o (by omega), ab_u_o (by omega), ab_u_o (by omega), ab_u_o (by omega), ab_u_o (by omega)]; exact h.1 s' hs'
  · rw [ab_u_o (by omega), ab_u_o (by omega), ab_u_o (by omega), ab_u_o (by omega), ab_u_o (by omega)]; exact h.2.1 s' k' hs' hk'
  · rw [ab_u_o (by omega), ab_u_o (by omega), ab_u_s]; omega
  · rw [ab_u_o (by omega), ab_u_o (by omega), ab_u_o (by omega)]
    by_cases e : j = (I 9 1).toNat
    · rw [e, ab_u_s]; exact ha
    · rw [ab_u_o (by omega), ab_u_o (by omega)]; exact h.2.2.2.1 j hj
  · rw [ab_u_o (by omega), ab_u_o (by omega), ab_u_o (by omega), ab_u_o (by omega), ab_u_o (by omega)]; exact h.2.2.2.2.1
  · rw [ab_u_o (by omega), ab_u_o (by omega), ab_u_o (by omega), ab_u_o (by omega), ab_u_o (by omega)]; exact h.2.2.2.2.2 j hj
theorem coming_IVt {I : Nat → Nat → Int} (h : IVt I) {a : Int} (h0 : 0 ≤ I 9 1) (hr : I 9 1 < 24) : IVt (ab_u (ab_u (ab_u (ab_u (ab_u I 65 5 0) 10 (I 9 1).toNat a) 9 1 (I 9 1 + 1)) 87 (I 9 1).toNat a) 84 2 (I 9 1 + 1)) := by
  refine ⟨fun s' hs' => ?_, fun s' k' hs' hk' => ?_, ?_, fun j hj => ?_, ?_, fun j hj => ?_⟩
  · rw [ab_u_o (by omega), ab_u_o (by omega), ab_u_o (by omega), ab_u_o (by omega), ab_u_o (by omega), ab_u_o (by omega), ab_u_o (by omega), ab_u_o (by omega), ab_u_o (by omega), ab_u_o (by omega)]; exact h.1 s' hs'
  · rw [ab_u_o (by omega), ab_u_o (by omega), ab_u_o (by omega), ab_u_o (by omega), ab_u_o (by omega), ab_u_o (by omega), ab_u_o (by omega), ab_u_o (by omega), ab_u_o (by omega), ab_u_o (by omega)]; exact h.2.1 s' k' hs' hk'
  · rw [ab_u_o (by omega), ab_u_o (by omega), ab_u_s, ab_u_s]
  · rw [ab_u_o (by omega), ab_u_o (by omega), ab_u_o (by omega)]
    by_cases e : j = (I 9 1).toNat
    · rw [e, ab_u_s, ab_u_o (by omega), ab_u_s]
    · rw [ab_u_o (by omega), ab_u_o (by omega), ab_u_o (by omega), ab_u_o (by omega), ab_u_o (by omega), ab_u_o (by omega), ab_u_o (by omega)]; exact h.2.2.2.1 j hj
  · rw [ab_u_o (by omega), ab_u_o (by omega), ab_u_o (by omega), ab_u_o (by omega), ab_u_o (by omega), ab_u_o (by omega), ab_u_o (by omega), ab_u_o (by omega), ab_u_o (by omega), ab_u_o (by omega)]; exact h.2.2.2.2.1
  · rw [ab_u_o (by omega), ab_u_o (by omega), ab_u_o (by omega), ab_u_o (by omega), ab_u_o (by omega), ab_u_o (by omega), ab_u_o (by omega), ab_u_o (by omega), ab_u_o (by omega), ab_u_o (by omega)]; exact h.2.2.2.2.2 j hj
theorem joining_TB {I : Nat → Nat → Int} (h : TB I) {a : Int} (ha : -1 ≤ a ∧ a ≤ 3) (hr : I 11 1 < 24) : TB (ab_u (ab_u (ab_u (ab_u (ab_u I 65 5 0) 12 (I 11 1).toNat a) 11 1 (I 11 1 + 1)) 88 (I 11 1).toNat a) 84 4 (I 11 1 + 1)) := by
  have h9 := h.2.2.2.2.1
  refine ⟨fun s' hs' => ?_, fun s' k' hs' hk' => ?_, ?_, fun j hj => ?_, ?_, fun j hj => ?_⟩
  · rw [ab_u_o (by omega), ab_u_o (by omega), ab_u_o (by omega), ab_u_o (by omega), ab_u_o (by omega)]; exact h.1 s' hs'
  · rw [ab_u_o (by omega), ab_u_o (by omega), ab_u_o (by omega), ab_u_o (by omega), ab_u_o (by omega)]; exact h.2.1 s' k' hs' hk'
  · rw [ab_u_o (by omega), ab_u_o (by omega), ab_u_o (by omega), ab_u_o (by omega), ab_u_o (by omega)]; exact h.2.2.1
  · rw [ab_u_o (by omega), ab_u_o (by omega), ab_u_o (by omega), ab_u_o (by omega), ab_u_o (by omega)]; exact h.2.2.2.1 j hj
  · rw [ab_u_o (by omega), ab_u_o (by omega), ab_u_s]; omega
  · rw [ab_u_o (by omega), ab_u_o (by omega), ab_u_o (by omega)]
    by_cases e : j = (I 11 1).toNat
    · rw [e, ab_u_s]; exact ha
    · rw [ab_u_o (by omega), ab_u_o (by omega)]; exact h.2.2.2.2.2 j hj
theorem joining_IVt {I : Nat → Nat → Int} (h : IVt I) {a : Int} (h0 : 0 ≤ I 11 1) (hr : I 11 1 < 24) : IVt (ab_u (ab_u (ab_u (ab_u (ab_u I 65 5 0) 12 (I 11 1).toNat a) 11 1 (I 11 1 + 1)) 88 (I 11 1).toNat a) 84 4 (I 11 1 + 1)) := by
  refine ⟨fun s' hs' => ?_, fun s' k' hs' hk' => ?_, ?_, fun j hj => ?_, ?_, fun j hj => ?_⟩
  · rw [ab_u_o (by omega), ab_u_o (by omega), ab_u_o (by omega), ab_u_o (by omega), ab_u_o (by omega), ab_u_o (by omega), ab_u_o (by omega), ab_u_o (by omega), ab_u_o (by omega), ab_u_o (by omega)]; exact h.1 s' hs'
  · rw [ab_u_o (by omega), ab_u_o (by omega), ab_u_o (by omega), ab_u_o (by omega), ab_u_o (by omega), ab_u_o (by omega), ab_u_o (by omega), ab_u_o (by omega), ab_u_o (by omega), ab_u_o (by omega)]; exact h.2.1 s' k' hs' hk'
  · rw [ab_u_o (by omega), ab_u_o (by omega), ab_u_o (by omega), ab_u_o (by omega), ab_u_o (by omega), ab_u_o (by omega), ab_u_o (by omega), ab_u_o (by omega), ab_u_o (by omega), ab_u_o (by omega)]; exact h.2.2.1
  · rw [ab_u_o (by omega), ab_u_o (by omega), ab_u_o (by omega), ab_u_o (by omega), ab_u_o (by omega), ab_u_o (by omega), ab_u_o (by omega), ab_u_o (by omega), ab_u_o (by omega), ab_u_o (by omega)]; exact h.2.2.2.1 j hj
  · rw [ab_u_o (by omega), ab_u_o (by omega), ab_u_s, ab_u_s]
  · rw [ab_u_o (by omega), ab_u_o (by omega), ab_u_o (by omega)]
    by_cases e : j = (I 11 1).toNat
    · rw [e, ab_u_s, ab_u_o (by omega), ab_u_s]
    · rw [ab_u_o (by omega), ab_u_o (by omega), ab_u_o (by omega), ab_u_o (by omega), ab_u_o (by omega), ab_u_o (by omega), ab_u_o (by omega)]; exact h.2.2.2.2.2 j hj
set_option maxHeartbeats 4000000 in
set_option maxRecDepth 100000 in
theorem ct_X5_forget (G : ab_G) (I : Nat → Nat → Int) (F : Nat → Nat → Nat) : Ct G 0 0 0 YX5_forget [ab_r 65] (104, I, F) (fun r h => r = none ∧ h = (104, ab_u I 65 5 0, F)) := by
  refine Ct.ofW kX5_forget (ls := [some (ab_r 65)]) (Nat.le_of_ble_eq_true rfl) rfl ?_
  refine aw_aload_n dX5_forget_0 rfl (by decide) ?_
  refine aw_iconst dX5_forget_1 ?_
  refine aw_puti dX5_forget_2 fX5_27 ⟨Nat.le_of_ble_eq_true rfl, Nat.le_of_ble_eq_true rfl⟩ rfl rfl ?_
  refine aw_return dX5_forget_5 rfl ?_
  exact ⟨rfl, rfl⟩
set_option maxHeartbeats 4000000 in
set_option maxRecDepth 100000 in
theorem ct_X11_worth_bad (G : ab_G) (I : Nat → Nat → Int) (F : Nat → Nat → Nat) (hF : ab_FB F) (a : Int) (ha : ab_In a) (b : Int) (hb : ab_In b) (v : Int) (hv : ab_In v)  (hbad : ¬ ((0 ≤ a ∧ a ≤ 3) ∧ (0 ≤ b ∧ b ≤ 3) ∧ (0 ≤ v ∧ v ≤ 99))) : Ct G 2 0 0 YX11_worth [ab_r 1, ab_i a, ab_i b, ab_i v] (104, I, F) (fun r h => r = some (ab_i (if (0 ≤ a ∧ a ≤ 3) ∧ (0 ≤ b ∧ b ≤ 3) then -3 else -2)) ∧ h = (104, I, F)) := by
  refine Ct.ofW kX11_worth (ls := [some (ab_r 1), some (ab_i a), some (ab_i b), some (ab_i v), none]) (Nat.le_of_ble_eq_true rfl) rfl ?_
  refine aw_iload_n dX11_worth_0 rfl ?_
  refine aw_callS (as := [ab_i a]) (rest := []) dX11_worth_1 (ct_X11_isSort G (104, I, F) a (by first | assumption | (unfold ab_In at *; omega))) kX11_isSort sX11_isSort lX11_82 rfl (Nat.le_of_ble_eq_true rfl) (by decide) (by decide) (by decide) (by decide) ?_
  rintro r9 _ ⟨e9, rfl⟩
  by_cases q1 : 0 ≤ a ∧ a ≤ 3
  · rw [if_pos q1] at e9
    subst e9
    refine aw_if_eq (tgt := 14) dX11_worth_4 rfl ⟨by decide, by decide⟩ (fun c9 => absurd c9 (by decide)) (fun _ => ?_)
    refine aw_iload_n dX11_worth_7 rfl ?_
    refine aw_callS (as := [ab_i b]) (rest := []) dX11_worth_8 (ct_X11_isKind G (104, I, F) b (by first | assumption | (unfold ab_In at *; omega))) kX11_isKind sX11_isKind lX11_86 rfl (Nat.le_of_ble_eq_true rfl) (by decide) (by decide) (by decide) (by decide) ?_
    rintro r9 _ ⟨e9, rfl⟩
    by_cases q2 : 0 ≤ b ∧ b ≤ 3
    · rw [if_pos q2] at e9
      subst e9
      refine aw_if_ne (tgt := 17) dX11_worth_11 rfl ⟨by decide, by decide⟩ (fun _ => ?_) (fun c9 => absurd c9 (by decide))
      refine aw_iload_n dX11_worth_17 rfl ?_
      refine aw_iconst dX11_worth_18 ?_
      refine aw_bipush dX11_worth_19 rfl ?_
      refine aw_callS (as := [ab_i v, ab_i 0, ab_i 99]) (rest := []) dX11_worth_21 (ct_X11_within G (104, I, F) v 0 99 (by first | assumption | (unfold ab_In at *; omega)) (by first | assumption | (unfold ab_In at *; omega)) (by first | assumption | (unfold ab_In at *; omega))) kX11_within sX11_within lX11_89 rfl (Nat.le_of_ble_eq_true rfl) (by decide) (by decide) (by decide) (by decide) ?_
      rintro r9 _ ⟨e9, rfl⟩
      by_cases q3 : 0 ≤ v ∧ v ≤ 99
      · rw [if_pos q3] at e9
        subst e9
        refine aw_if_ne (tgt := 30) dX11_worth_24 rfl ⟨by decide, by decide⟩ (fun _ => ?_) (fun c9 => absurd c9 (by decide))
        exfalso; omega
      · rw [if_neg q3] at e9
        subst e9
        refine aw_if_ne (tgt := 30) dX11_worth_24 rfl ⟨by decide, by decide⟩ (fun c9 => absurd rfl c9) (fun _ => ?_)
        refine aw_bipush dX11_worth_27 rfl ?_
        refine aw_ireturn dX11_worth_29 rfl ?_
        exact ⟨by first | rw [if_pos (by omega)] | rw [if_neg (by omega)] | rfl, rfl⟩
    · rw [if_neg q2] at e9
      subst e9
      refine aw_if_ne (tgt := 17) dX11_worth_11 rfl ⟨by decide, by decide⟩ (fun c9 => absurd rfl c9) (fun _ => ?_)
      refine aw_bipush dX11_worth_14 rfl ?_
      refine aw_ireturn dX11_worth_16 rfl ?_
      exact ⟨by first | rw [if_pos (by omega)] | rw [if_neg (by omega)] | rfl, rfl⟩
  · rw [if_neg q1] at e9
    subst e9
    refine aw_if_eq (tgt := 14) dX11_worth_4 rfl ⟨by decide, by decide⟩ (fun _ => ?_) (fun c9 => absurd (by decide) c9)
    refine aw_bipush dX11_worth_14 rfl ?_
    refine aw_ireturn dX11_worth_16 rfl ?_
    exact ⟨by first | rw [if_pos (by omega)] | rw [if_neg (by omega)] | rfl, rfl⟩
set_option maxHeartbeats 4000000 in
set_option maxRecDepth 100000 in
theorem ct_X12_worth_bad (G : ab_G) (I : Nat → Nat → Int) (F : Nat → Nat → Nat) (hF : ab_FB F) (a : Int) (ha : ab_In a) (b : Int) (hb : ab_In b) (v : Int) (hv : ab_In v)  (hbad : ¬ ((0 ≤ a ∧ a ≤ 3) ∧ (0 ≤ b ∧ b ≤ 3) ∧ (0 ≤ v ∧ v ≤ 99))) : Ct G 2 0 0 YX12_worth [ab_r 84, ab_i a, ab_i b, ab_i v] (104, I, F) (fun r h => r = some (ab_i (if (0 ≤ a ∧ a ≤ 3) ∧ (0 ≤ b ∧ b ≤ 3) then -3 else -2)) ∧ h = (104, I, F)) := by
  refine Ct.ofW kX12_worth (ls := [some (ab_r 84), some (ab_i a), some (ab_i b), some (ab_i v), none]) (Nat.le_of_ble_eq_true rfl) rfl ?_
  refine aw_iload_n dX12_worth_0 rfl ?_
  refine aw_callS (as := [ab_i a]) (rest := []) dX12_worth_1 (ct_X12_isFour G (104, I, F) a (by first | assumption | (unfold ab_In at *; omega))) kX12_isFour sX12_isFour lX12_79 rfl (Nat.le_of_ble_eq_true rfl) (by decide) (by decide) (by decide) (by decide) ?_
  rintro r9 _ ⟨e9, rfl⟩
  by_cases q1 : 0 ≤ a ∧ a ≤ 3
  · rw [if_pos q1] at e9
    subst e9
    refine aw_if_eq (tgt := 14) dX12_worth_4 rfl ⟨by decide, by decide⟩ (fun c9 => absurd c9 (by decide)) (fun _ => ?_)
    refine aw_iload_n dX12_worth_7 rfl ?_
    refine aw_callS (as := [ab_i b]) (rest := []) dX12_worth_8 (ct_X12_isFour G (104, I, F) b (by first | assumption | (unfold ab_In at *; omega))) kX12_isFour sX12_isFour lX12_79 rfl (Nat.le_of_ble_eq_true rfl) (by decide) (by decide) (by decide) (by decide) ?_
    rintro r9 _ ⟨e9, rfl⟩
    by_cases q2 : 0 ≤ b ∧ b ≤ 3
    · rw [if_pos q2] at e9
      subst e9
      refine aw_if_ne (tgt := 17) dX12_worth_11 rfl ⟨by decide, by decide⟩ (fun _ => ?_) (fun c9 => absurd c9 (by decide))
      refine aw_iload_n dX12_worth_17 rfl ?_
      refine aw_iconst dX12_worth_18 ?_
      refine aw_bipush dX12_worth_19 rfl ?_
      refine aw_callS (as := [ab_i v, ab_i 0, ab_i 99]) (rest := []) dX12_worth_21 (ct_X12_in G (104, I, F) v 0 99 (by first | assumption | (unfold ab_In at *; omega)) (by first | assumption | (unfold ab_In at *; omega)) (by first | assumption | (unfold ab_In at *; omega))) kX12_in sX12_in lX12_75 rfl (Nat.le_of_ble_eq_true rfl) (by decide) (by decide) (by decide) (by decide) ?_
      rintro r9 _ ⟨e9, rfl⟩
      by_cases q3 : 0 ≤ v ∧ v ≤ 99
      · rw [if_pos q3] at e9
        subst e9
        refine aw_if_ne (tgt := 30) dX12_worth_24 rfl ⟨by decide, by decide⟩ (fun _ => ?_) (fun c9 => absurd c9 (by decide))
        exfalso; omega
      · rw [if_neg q3] at e9
        subst e9
        refine aw_if_ne (tgt := 30) dX12_worth_24 rfl ⟨by decide, by decide⟩ (fun c9 => absurd rfl c9) (fun _ => ?_)
        refine aw_bipush dX12_worth_27 rfl ?_
        refine aw_ireturn dX12_worth_29 rfl ?_
        exact ⟨by first | rw [if_pos (by omega)] | rw [if_neg (by omega)] | rfl, rfl⟩
    · rw [if_neg q2] at e9
      subst e9
      refine aw_if_ne (tgt := 17) dX12_worth_11 rfl ⟨by decide, by decide⟩ (fun c9 => absurd rfl c9) (fun _ => ?_)
      refine aw_bipush dX12_worth_14 rfl ?_
      refine aw_ireturn dX12_worth_16 rfl ?_
      exact ⟨by first | rw [if_pos (by omega)] | rw [if_neg (by omega)] | rfl, rfl⟩
  · rw [if_neg q1] at e9
    subst e9
    refine aw_if_eq (tgt := 14) dX12_worth_4 rfl ⟨by decide, by decide⟩ (fun _ => ?_) (fun c9 => absurd (by decide) c9)
    refine aw_bipush dX12_worth_14 rfl ?_
    refine aw_ireturn dX12_worth_16 rfl ?_
    exact ⟨by first | rw [if_pos (by omega)] | rw [if_neg (by omega)] | rfl, rfl⟩
set_option maxHeartbeats 4000000 in
set_option maxRecDepth 100000 in
theorem ct_X11_worth (G : ab_G) (I : Nat → Nat → Int) (F : Nat → Nat → Nat) (hF : ab_FB F) (s k : Nat) (hs : s < 4) (hk : k < 4) (v : Int) (hv : 0 ≤ v ∧ v ≤ 99) : Ct G 2 0 0 YX11_worth [ab_r 1, ab_i (s : Int), ab_i (k : Int), ab_i v] (104, I, F) (fun r h => r = some (ab_i (I (4 + s) k)) ∧ h = (104, ab_u (ab_u I (4 + s) k v) 65 5 0, F)) := by
  refine Ct.ofW kX11_worth (ls := [some (ab_r 1), some (ab_i (s : Int)), some (ab_i (k : Int)), some (ab_i v), none]) (Nat.le_of_ble_eq_true rfl) rfl ?_
  refine aw_iload_n dX11_worth_0 rfl ?_
  refine aw_callS (as := [ab_i (s : Int)]) (rest := []) dX11_worth_1 (ct_X11_isSort G (104, I, F) (s : Int) (by first | assumption | (unfold ab_In at *; omega))) kX11_isSort sX11_isSort lX11_82 rfl (Nat.le_of_ble_eq_true rfl) (by decide) (by decide) (by decide) (by decide) ?_
  rintro r9 _ ⟨e9, rfl⟩
  rw [if_pos (by omega)] at e9
  subst e9
  refine aw_if_eq (tgt := 14) dX11_worth_4 rfl ⟨by decide, by decide⟩ (fun c9 => absurd c9 (by decide)) (fun _ => ?_)
  refine aw_iload_n dX11_worth_7 rfl ?_
  refine aw_callS (as := [ab_i (k : Int)]) (rest := []) dX11_worth_8 (ct_X11_isKind G (104, I, F) (k : Int) (by first | assumption | (unfold ab_In at *; omega))) kX11_isKind sX11_isKind lX11_86 rfl (Nat.le_of_ble_eq_true rfl) (by decide) (by decide) (by decide) (by decide) ?_
  rintro r9 _ ⟨e9, rfl⟩
  rw [if_pos (by omega)] at e9
  subst e9
  refine aw_if_ne (tgt := 17) dX11_worth_11 rfl ⟨by decide, by decide⟩ (fun _ => ?_) (fun c9 => absurd c9 (by decide))
  refine aw_iload_n dX11_worth_17 rfl ?_
  refine aw_iconst dX11_worth_18 ?_
  refine aw_bipush dX11_worth_19 rfl ?_
  refine aw_callS (as := [ab_i v, ab_i 0, ab_i 99]) (rest := []) dX11_worth_21 (ct_X11_within G (104, I, F) v 0 99 (by first | assumption | (unfold ab_In at *; omega)) (by first | assumption | (unfold ab_In at *; omega)) (by first | assumption | (unfold ab_In at *; omega))) kX11_within sX11_within lX11_89 rfl (Nat.le_of_ble_eq_true rfl) (by decide) (by decide) (by decide) (by decide) ?_
  rintro r9 _ ⟨e9, rfl⟩
  rw [if_pos (by omega)] at e9
  subst e9
  refine aw_if_ne (tgt := 30) dX11_worth_24 rfl ⟨by decide, by decide⟩ (fun _ => ?_) (fun c9 => absurd c9 (by decide))
  refine aw_aload_n dX11_worth_30 rfl (by decide) ?_
  refine aw_getrv (r := 2) dX11_worth_31 fX11_10 ⟨Nat.le_of_ble_eq_true rfl, Nat.le_of_ble_eq_true rfl⟩ rfl rfl (hF.at 1 0 2 rfl rfl rfl) ?_
  refine aw_getrv (r := 3) dX11_worth_34 fX11_93 ⟨Nat.le_of_ble_eq_true rfl, Nat.le_of_ble_eq_true rfl⟩ rfl rfl (hF.at 2 0 3 rfl rfl rfl) ?_
  refine aw_iload_n dX11_worth_37 rfl ?_
  refine aw_aaldv (r := 4 + s) dX11_worth_38 ⟨Nat.le_of_ble_eq_true rfl, Nat.le_of_ble_eq_true rfl⟩ rfl (by decide) (by omega) (by omega) (by decide) (hF.w hs) ?_
  refine aw_iload_n dX11_worth_39 rfl ?_
  refine aw_ialdq (q := k) (v := I (4 + s) k) dX11_worth_40 ⟨by omega, by omega⟩ (sh_w hs) (by omega) (by omega) (by decide) rfl rfl ?_
  refine aw_istore (ls' := [some (ab_r 1), some (ab_i (s : Int)), some (ab_i (k : Int)), some (ab_i v), some (ab_i (I (4 + s) k))]) dX11_worth_41 (by decide) rfl ?_
  refine aw_aload_n dX11_worth_43 rfl (by decide) ?_
  refine aw_getrv (r := 2) dX11_worth_44 fX11_10 ⟨Nat.le_of_ble_eq_true rfl, Nat.le_of_ble_eq_true rfl⟩ rfl rfl (hF.at 1 0 2 rfl rfl rfl) ?_
  refine aw_getrv (r := 3) dX11_worth_47 fX11_93 ⟨Nat.le_of_ble_eq_true rfl, Nat.le_of_ble_eq_true rfl⟩ rfl rfl (hF.at 2 0 3 rfl rfl rfl) ?_
  refine aw_iload_n dX11_worth_50 rfl ?_
  refine aw_aaldv (r := 4 + s) dX11_worth_51 ⟨Nat.le_of_ble_eq_true rfl, Nat.le_of_ble_eq_true rfl⟩ rfl (by decide) (by omega) (by omega) (by decide) (hF.w hs) ?_
  refine aw_iload_n dX11_worth_52 rfl ?_
  refine aw_iload_n dX11_worth_53 rfl ?_
  refine aw_iastv (q := k) dX11_worth_54 ⟨by omega, by omega⟩ (sh_w hs) (by omega) (by omega) (by decide) rfl ?_
  refine aw_aload_n dX11_worth_55 rfl (by decide) ?_
  refine aw_getrv (r := 65) dX11_worth_56 fX11_48 ⟨Nat.le_of_ble_eq_true rfl, Nat.le_of_ble_eq_true rfl⟩ rfl rfl (hF.at 1 6 65 rfl rfl rfl) ?_
  refine aw_callV (as := []) (rest := []) dX11_worth_59 (ct_X5_forget G (ab_u I (4 + s) k v) F) ⟨Nat.le_of_ble_eq_true rfl, Nat.le_of_ble_eq_true rfl⟩ rfl kc5 rfl kX5_forget iX5_forget eX5_forget lX11_97 rfl (Nat.le_of_ble_eq_true rfl) (by decide) (by decide) (by decide) (by decide) ?_
  rintro _ _ ⟨rfl, rfl⟩
  refine aw_iload dX11_worth_62 rfl ?_
  refine aw_ireturn dX11_worth_64 rfl ?_
  exact ⟨rfl, rfl⟩
set_option maxHeartbeats 4000000 in
set_option maxRecDepth 100000 in
theorem ct_X12_worth (G : ab_G) (I : Nat → Nat → Int) (F : Nat → Nat → Nat) (hF : ab_FB F) (s k : Nat) (hs : s < 4) (hk : k < 4) (v : Int) (hv : 0 ≤ v ∧ v ≤ 99) : Ct G 2 0 0 YX12_worth [ab_r 84, ab_i (s : Int), ab_i (k : Int), ab_i v] (104, I, F) (fun r h => r = some (ab_i (I 85 (4 * s + k))) ∧ h = (104, ab_u I 85 (4 * s + k) v, F)) := by
  refine Ct.ofW kX12_worth (ls := [some (ab_r 84), some (ab_i (s : Int)), some (ab_i (k : Int)), some (ab_i v), none]) (Nat.le_of_ble_eq_true rfl) rfl ?_
  refine aw_iload_n dX12_worth_0 rfl ?_
  refine aw_callS (as := [ab_i (s : Int)]) (rest := []) dX12_worth_1 (ct_X12_isFour G (104, I, F) (s : Int) (by first | assumption | (unfold ab_In at *; omega))) kX12_isFour sX12_isFour lX12_79 rfl (Nat.le_of_ble_eq_true rfl) (by decide) (by decide) (by decide) (by decide) ?_
  rintro r9 _ ⟨e9, rfl⟩
  rw [if_pos (by omega)] at e9
  subst e9
  refine aw_if_eq (tgt := 14) dX12_worth_4 rfl ⟨by decide, by decide⟩ (fun c9 => absurd c9 (by decide)) (fun _ => ?_)
  refine aw_iload_n dX12_worth_7 rfl ?_
  refine aw_callS (as := [ab_i (k : Int)]) (rest := []) dX12_worth_8 (ct_X12_isFour G (104, I, F) (k : Int) (by first | assumption | (unfold ab_In at *; omega))) kX12_isFour sX12_isFour lX12_79 rfl (Nat.le_of_ble_eq_true rfl) (by decide) (by decide) (by decide) (by decide) ?_
  rintro r9 _ ⟨e9, rfl⟩
  rw [if_pos (by omega)] at e9
  subst e9
  refine aw_if_ne (tgt := 17) dX12_worth_11 rfl ⟨by decide, by decide⟩ (fun _ => ?_) (fun c9 => absurd c9 (by decide))
  refine aw_iload_n dX12_worth_17 rfl ?_
  refine aw_iconst dX12_worth_18 ?_
  refine aw_bipush dX12_worth_19 rfl ?_
  refine aw_callS (as := [ab_i v, ab_i 0, ab_i 99]) (rest := []) dX12_worth_21 (ct_X12_in G (104, I, F) v 0 99 (by first | assumption | (unfold ab_In at *; omega)) (by first | assumption | (unfold ab_In at *; omega)) (by first | assumption | (unfold ab_In at *; omega))) kX12_in sX12_in lX12_75 rfl (Nat.le_of_ble_eq_true rfl) (by decide) (by decide) (by decide) (by decide) ?_
  rintro r9 _ ⟨e9, rfl⟩
  rw [if_pos (by omega)] at e9
  subst e9
  refine aw_if_ne (tgt := 30) dX12_worth_24 rfl ⟨by decide, by decide⟩ (fun _ => ?_) (fun c9 => absurd c9 (by decide))
  refine aw_aload_n dX12_worth_30 rfl (by decide) ?_
  refine aw_getrv (r := 85) dX12_worth_31 fX12_7 ⟨Nat.le_of_ble_eq_true rfl, Nat.le_of_ble_eq_true rfl⟩ rfl rfl (hF.at 84 0 85 rfl rfl rfl) ?_
  refine aw_iconst dX12_worth_34 ?_
  refine aw_iload_n dX12_worth_35 rfl ?_
  refine aw_imul dX12_worth_36 ?_
  refine aw_iload_n dX12_worth_37 rfl ?_
  refine aw_iadd dX12_worth_38 ?_
  refine aw_ialdq (q := (4 * s + k)) (v := I 85 (4 * s + k)) dX12_worth_39 ⟨Nat.le_of_ble_eq_true rfl, Nat.le_of_ble_eq_true rfl⟩ rfl (by omega) (by omega) (by decide) (by omega) rfl ?_
  refine aw_istore (ls' := [some (ab_r 84), some (ab_i (s : Int)), some (ab_i (k : Int)), some (ab_i v), some (ab_i (I 85 (4 * s + k)))]) dX12_worth_40 (by decide) rfl ?_
  refine aw_aload_n dX12_worth_42 rfl (by decide) ?_
  refine aw_getrv (r := 85) dX12_worth_43 fX12_7 ⟨Nat.le_of_ble_eq_true rfl, Nat.le_of_ble_eq_true rfl⟩ rfl rfl (hF.at 84 0 85 rfl rfl rfl) ?_
  refine aw_iconst dX12_worth_46 ?_
  refine aw_iload_n dX12_worth_47 rfl ?_
  refine aw_imul dX12_worth_48 ?_
  refine aw_iload_n dX12_worth_49 rfl ?_
  refine aw_iadd dX12_worth_50 ?_
  refine aw_iload_n dX12_worth_51 rfl ?_
  refine aw_iastv (q := (4 * s + k)) dX12_worth_52 ⟨Nat.le_of_ble_eq_true rfl, Nat.le_of_ble_eq_true rfl⟩ rfl (by omega) (by omega) (by decide) (by omega) ?_
  refine aw_iload dX12_worth_53 rfl ?_
  refine aw_ireturn dX12_worth_55 rfl ?_
  exact ⟨rfl, rfl⟩
set_option maxHeartbeats 4000000 in
set_option maxRecDepth 100000 in
theorem pr_worth (G : ab_G) (I : Nat → Nat → Int) (F : Nat → Nat → Nat) (c : Nat) (h : INV c I F) (hc : c ≤ 600) (a : Int) (ha : ab_In a) (b : Int) (hb : ab_In b) (v : Int) (hv : ab_In v) : Pair G 2 2 YX11_worth YX12_worth [ab_i a, ab_i b, ab_i v] ab_i c I F := by
  by_cases hv9 : (0 ≤ a ∧ a ≤ 3) ∧ (0 ≤ b ∧ b ≤ 3) ∧ (0 ≤ v ∧ v ≤ 99)
  · obtain ⟨s, rfl⟩ : ∃ s : Nat, a = s := ⟨a.toNat, by omega⟩
    obtain ⟨k, rfl⟩ : ∃ k : Nat, b = k := ⟨b.toNat, by omega⟩
    have hs : s < 4 := by omega
    have hk : k < 4 := by omega
    refine (ct_X11_worth G I F h.1 s k hs hk v hv9.2.2).mono ?_
    rintro _ _ ⟨rfl, rfl⟩
    refine ⟨_, _, _, rfl, rfl, ?_⟩
    refine (ct_X12_worth G _ F h.1 s k hs hk v hv9.2.2).mono ?_
    rintro _ _ ⟨rfl, rfl⟩
    refine ⟨?_, _, _, rfl, h.town (worth_TB h.2.1 hs hk hv9.2.2) (worth_IVt h.2.2.1 hs hk) ?_ (fun i b q => ?_)⟩
    · rw [ab_u_i (by decide), ab_u_i (by omega), h.2.2.1.2.1 s k hs hk]
    · rw [ab_u_i (by decide), ab_u_s]
    · rw [ab_u_o (by omega), ab_u_o (by omega), ab_u_o (by omega)]
  · refine (ct_X11_worth_bad G I F h.1 a ha b hb v hv hv9).mono ?_
    rintro _ _ ⟨rfl, rfl⟩
    refine ⟨_, _, _, rfl, rfl, ?_⟩
    refine (ct_X12_worth_bad G I F h.1 a ha b hb v hv hv9).mono ?_
    rintro _ _ ⟨rfl, rfl⟩
    exact ⟨rfl, _, _, rfl, h.up (by omega)⟩
set_option maxHeartbeats 4000000 in
set_option maxRecDepth 100000 in
theorem ct_X11_need_bad (G : ab_G) (I : Nat → Nat → Int) (F : Nat → Nat → Nat) (hF : ab_FB F) (a : Int) (ha : ab_In a) (v : Int) (hv : ab_In v)  (hbad : ¬ ((0 ≤ a ∧ a ≤ 3) ∧ (1 ≤ v ∧ v ≤ 9))) : Ct G 2 0 0 YX11_need [ab_r 1, ab_i a, ab_i v] (104, I, F) (fun r h => r = some (ab_i (if 0 ≤ a ∧ a ≤ 3 then -3 else -2)) ∧ h = (104, I, F)) := by
  refine Ct.ofW kX11_need (ls := [some (ab_r 1), some (ab_i a), some (ab_i v), none]) (Nat.le_of_ble_eq_true rfl) rfl ?_
  refine aw_iload_n dX11_need_0 rfl ?_
  refine aw_callS (as := [ab_i a]) (rest := []) dX11_need_1 (ct_X11_isSort G (104, I, F) a (by first | assumption | (unfold ab_In at *; omega))) kX11_isSort sX11_isSort lX11_82 rfl (Nat.le_of_ble_eq_true rfl) (by decide) (by decide) (by decide) (by decide) ?_
  rintro r9 _ ⟨e9, rfl⟩
  by_cases q1 : 0 ≤ a ∧ a ≤ 3
  · rw [if_pos q1] at e9
    subst e9
    refine aw_if_ne (tgt := 10) dX11_need_4 rfl ⟨by decide, by decide⟩ (fun _ => ?_) (fun c9 => absurd c9 (by decide))
    refine aw_iload_n dX11_need_10 rfl ?_
    refine aw_iconst dX11_need_11 ?_
    refine aw_bipush dX11_need_12 rfl ?_
    refine aw_callS (as := [ab_i v, ab_i 1, ab_i 9]) (rest := []) dX11_need_14 (ct_X11_within G (104, I, F) v 1 9 (by first | assumption | (unfold ab_In at *; omega)) (by first | assumption | (unfold ab_In at *; omega)) (by first | assumption | (unfold ab_In at *; omega))) kX11_within sX11_within lX11_89 rfl (Nat.le_of_ble_eq_true rfl) (by decide) (by decide) (by decide) (by decide) ?_
    rintro r9 _ ⟨e9, rfl⟩
    by_cases q3 : 1 ≤ v ∧ v ≤ 9
    · rw [if_pos q3] at e9
      subst e9
      refine aw_if_ne (tgt := 23) dX11_need_17 rfl ⟨by decide, by decide⟩ (fun _ => ?_) (fun c9 => absurd c9 (by decide))
      exfalso; omega
    · rw [if_neg q3] at e9
      subst e9
      refine aw_if_ne (tgt := 23) dX11_need_17 rfl ⟨by decide, by decide⟩ (fun c9 => absurd rfl c9) (fun _ => ?_)
      refine aw_bipush dX11_need_20 rfl ?_
      refine aw_ireturn dX11_need_22 rfl ?_
      exact ⟨by first | rw [if_pos (by omega)] | rw [if_neg (by omega)] | rfl, rfl⟩
  · rw [if_neg q1] at e9
    subst e9
    refine aw_if_ne (tgt := 10) dX11_need_4 rfl ⟨by decide, by decide⟩ (fun c9 => absurd rfl c9) (fun _ => ?_)
    refine aw_bipush dX11_need_7 rfl ?_
    refine aw_ireturn dX11_need_9 rfl ?_
    exact ⟨by first | rw [if_pos (by omega)] | rw [if_neg (by omega)] | rfl, rfl⟩
set_option maxHeartbeats 4000000 in
set_option maxRecDepth 100000 in
theorem ct_X12_need_bad (G : ab_G) (I : Nat → Nat → Int) (F : Nat → Nat → Nat) (hF : ab_FB F) (a : Int) (ha : ab_In a) (v : Int) (hv : ab_In v)  (hbad : ¬ ((0 ≤ a ∧ a ≤ 3) ∧ (1 ≤ v ∧ v ≤ 9))) : Ct G 2 0 0 YX12_need [ab_r 84, ab_i a, ab_i v] (104, I, F) (fun r h => r = some (ab_i (if 0 ≤ a ∧ a ≤ 3 then -3 else -2)) ∧ h = (104, I, F)) := by
  refine Ct.ofW kX12_need (ls := [some (ab_r 84), some (ab_i a), some (ab_i v), none]) (Nat.le_of_ble_eq_true rfl) rfl ?_
  refine aw_iload_n dX12_need_0 rfl ?_
  refine aw_callS (as := [ab_i a]) (rest := []) dX12_need_1 (ct_X12_isFour G (104, I, F) a (by first | assumption | (unfold ab_In at *; omega))) kX12_isFour sX12_isFour lX12_79 rfl (Nat.le_of_ble_eq_true rfl) (by decide) (by decide) (by decide) (by decide) ?_
  rintro r9 _ ⟨e9, rfl⟩
  by_cases q1 : 0 ≤ a ∧ a ≤ 3
  · rw [if_pos q1] at e9
    subst e9
    refine aw_if_ne (tgt := 10) dX12_need_4 rfl ⟨by decide, by decide⟩ (fun _ => ?_) (fun c9 => absurd c9 (by decide))
    refine aw_iload_n dX12_need_10 rfl ?_
    refine aw_iconst dX12_need_11 ?_
    refine aw_bipush dX12_need_12 rfl ?_
    refine aw_callS (as := [ab_i v, ab_i 1, ab_i 9]) (rest := []) dX12_need_14 (ct_X12_in G (104, I, F) v 1 9 (by first | assumption | (unfold ab_In at *; omega)) (by first | assumption | (unfold ab_In at *; omega)) (by first | assumption | (unfold ab_In at *; omega))) kX12_in sX12_in lX12_75 rfl (Nat.le_of_ble_eq_true rfl) (by decide) (by decide) (by decide) (by decide) ?_
    rintro r9 _ ⟨e9, rfl⟩
    by_cases q3 : 1 ≤ v ∧ v ≤ 9
    · rw [if_pos q3] at e9
      subst e9
      refine aw_if_ne (tgt := 23) dX12_need_17 rfl ⟨by decide, by decide⟩ (fun _ => ?_) (fun c9 => absurd c9 (by decide))
      exfalso; omega
    · rw [if_neg q3] at e9
      subst e9
      refine aw_if_ne (tgt := 23) dX12_need_17 rfl ⟨by decide, by decide⟩ (fun c9 => absurd rfl c9) (fun _ => ?_)
      refine aw_bipush dX12_need_20 rfl ?_
      refine aw_ireturn dX12_need_22 rfl ?_
      exact ⟨by first | rw [if_pos (by omega)] | rw [if_neg (by omega)] | rfl, rfl⟩
  · rw [if_neg q1] at e9
    subst e9
    refine aw_if_ne (tgt := 10) dX12_need_4 rfl ⟨by decide, by decide⟩ (fun c9 => absurd rfl c9) (fun _ => ?_)
    refine aw_bipush dX12_need_7 rfl ?_
    refine aw_ireturn dX12_need_9 rfl ?_
    exact ⟨by first | rw [if_pos (by omega)] | rw [if_neg (by omega)] | rfl, rfl⟩
set_option maxHeartbeats 4000000 in
set_option maxRecDepth 100000 in
theorem ct_X11_need (G : ab_G) (I : Nat → Nat → Int) (F : Nat → Nat → Nat) (hF : ab_FB F) (s : Nat) (hs : s < 4) (v : Int) (hv : 1 ≤ v ∧ v ≤ 9) : Ct G 2 0 0 YX11_need [ab_r 1, ab_i (s : Int), ab_i v] (104, I, F) (fun r h => r = some (ab_i (I 8 s)) ∧ h = (104, ab_u (ab_u I 8 s v) 65 5 0, F)) := by
  refine Ct.ofW kX11_need (ls := [some (ab_r 1), some (ab_i (s : Int)), some (ab_i v), none]) (Nat.le_of_ble_eq_true rfl) rfl ?_
  refine aw_iload_n dX11_need_0 rfl ?_
  refine aw_callS (as := [ab_i (s : Int)]) (rest := []) dX11_need_1 (ct_X11_isSort G (104, I, F) (s : Int) (by first | assumption | (unfold ab_In at *; omega))) kX11_isSort sX11_isSort lX11_82 rfl (Nat.le_of_ble_eq_true rfl) (by decide) (by decide) (by decide) (by decide) ?_
  rintro r9 _ ⟨e9, rfl⟩
  rw [if_pos (by omega)] at e9
  subst e9
  refine aw_if_ne (tgt := 10) dX11_need_4 rfl ⟨by decide, by decide⟩ (fun _ => ?_) (fun c9 => absurd c9 (by decide))
  refine aw_iload_n dX11_need_10 rfl ?_
  refine aw_iconst dX11_need_11 ?_
  refine aw_bipush dX11_need_12 rfl ?_
  refine aw_callS (as := [ab_i v, ab_i 1, ab_i 9]) (rest := []) dX11_need_14 (ct_X11_within G (104, I, F) v 1 9 (by first | assumption | (unfold ab_In at *; omega)) (by first | assumption | (unfold ab_In at *; omega)) (by first | assumption | (unfold ab_In at *; omega))) kX11_within sX11_within lX11_89 rfl (Nat.le_of_ble_eq_true rfl) (by decide) (by decide) (by decide) (by decide) ?_
  rintro r9 _ ⟨e9, rfl⟩
  rw [if_pos (by omega)] at e9
  subst e9
  refine aw_if_ne (tgt := 23) dX11_need_17 rfl ⟨by decide, by decide⟩ (fun _ => ?_) (fun c9 => absurd c9 (by decide))
  refine aw_aload_n dX11_need_23 rfl (by decide) ?_
  refine aw_getrv (r := 2) dX11_need_24 fX11_10 ⟨Nat.le_of_ble_eq_true rfl, Nat.le_of_ble_eq_true rfl⟩ rfl rfl (hF.at 1 0 2 rfl rfl rfl) ?_
  refine aw_getrv (r := 8) dX11_need_27 fX11_100 ⟨Nat.le_of_ble_eq_true rfl, Nat.le_of_ble_eq_true rfl⟩ rfl rfl (hF.at 2 1 8 rfl rfl rfl) ?_
  refine aw_iload_n dX11_need_30 rfl ?_
  refine aw_ialdq (q := s) (v := I 8 s) dX11_need_31 ⟨Nat.le_of_ble_eq_true rfl, Nat.le_of_ble_eq_true rfl⟩ rfl (by omega) (by omega) (by decide) rfl rfl ?_
  refine aw_istore_n (ls' := [some (ab_r 1), some (ab_i (s : Int)), some (ab_i v), some (ab_i (I 8 s))]) dX11_need_32 (by decide) rfl ?_
  refine aw_aload_n dX11_need_33 rfl (by decide) ?_
  refine aw_getrv (r := 2) dX11_need_34 fX11_10 ⟨Nat.le_of_ble_eq_true rfl, Nat.le_of_ble_eq_true rfl⟩ rfl rfl (hF.at 1 0 2 rfl rfl rfl) ?_
  refine aw_getrv (r := 8) dX11_need_37 fX11_100 ⟨Nat.le_of_ble_eq_true rfl, Nat.le_of_ble_eq_true rfl⟩ rfl rfl (hF.at 2 1 8 rfl rfl rfl) ?_
  refine aw_iload_n dX11_need_40 rfl ?_
  refine aw_iload_n dX11_need_41 rfl ?_
  refine aw_iastv (q := s) dX11_need_42 ⟨Nat.le_of_ble_eq_true rfl, Nat.le_of_ble_eq_true rfl⟩ rfl (by omega) (by omega) (by decide) rfl ?_
  refine aw_aload_n dX11_need_43 rfl (by decide) ?_
  refine aw_getrv (r := 65) dX11_need_44 fX11_48 ⟨Nat.le_of_ble_eq_true rfl, Nat.le_of_ble_eq_true rfl⟩ rfl rfl (hF.at 1 6 65 rfl rfl rfl) ?_
  refine aw_callV (as := []) (rest := []) dX11_need_47 (ct_X5_forget G (ab_u I 8 s v) F) ⟨Nat.le_of_ble_eq_true rfl, Nat.le_of_ble_eq_true rfl⟩ rfl kc5 rfl kX5_forget iX5_forget eX5_forget lX11_97 rfl (Nat.le_of_ble_eq_true rfl) (by decide) (by decide) (by decide) (by decide) ?_
  rintro _ _ ⟨rfl, rfl⟩
  refine aw_iload_n dX11_need_50 rfl ?_
  refine aw_ireturn dX11_need_51 rfl ?_
  exact ⟨rfl, rfl⟩
set_option maxHeartbeats 4000000 in
set_option maxRecDepth 100000 in
theorem ct_X12_need (G : ab_G) (I : Nat → Nat → Int) (F : Nat → Nat → Nat) (hF : ab_FB F) (s : Nat) (hs : s < 4) (v : Int) (hv : 1 ≤ v ∧ v ≤ 9) : Ct G 2 0 0 YX12_need [ab_r 84, ab_i (s : Int), ab_i v] (104, I, F) (fun r h => r = some (ab_i (I 86 s)) ∧ h = (104, ab_u I 86 s v, F)) := by
  refine Ct.ofW kX12_need (ls := [some (ab_r 84), some (ab_i (s : Int)), some (ab_i v), none]) (Nat.le_of_ble_eq_true rfl) rfl ?_
  refine aw_iload_n dX12_need_0 rfl ?_
  refine aw_callS (as := [ab_i (s : Int)]) (rest := []) dX12_need_1 (ct_X12_isFour G (104, I, F) (s : Int) (by first | assumption | (unfold ab_In at *; omega))) kX12_isFour sX12_isFour lX12_79 rfl (Nat.le_of_ble_eq_true rfl) (by decide) (by decide) (by decide) (by decide) ?_
  rintro r9 _ ⟨e9, rfl⟩
  rw [if_pos (by omega)] at e9
  subst e9
  refine aw_if_ne (tgt := 10) dX12_need_4 rfl ⟨by decide, by decide⟩ (fun _ => ?_) (fun c9 => absurd c9 (by decide))
  refine aw_iload_n dX12_need_10 rfl ?_
  refine aw_iconst dX12_need_11 ?_
  refine aw_bipush dX12_need_12 rfl ?_
  refine aw_callS (as := [ab_i v, ab_i 1, ab_i 9]) (rest := []) dX12_need_14 (ct_X12_in G (104, I, F) v 1 9 (by first | assumption | (unfold ab_In at *; omega)) (by first | assumption | (unfold ab_In at *; omega)) (by first | assumption | (unfold ab_In at *; omega))) kX12_in sX12_in lX12_75 rfl (Nat.le_of_ble_eq_true rfl) (by decide) (by decide) (by decide) (by decide) ?_
  rintro r9 _ ⟨e9, rfl⟩
  rw [if_pos (by omega)] at e9
  subst e9
  refine aw_if_ne (tgt := 23) dX12_need_17 rfl ⟨by decide, by decide⟩ (fun _ => ?_) (fun c9 => absurd c9 (by decide))
  refine aw_aload_n dX12_need_23 rfl (by decide) ?_
  refine aw_getrv (r := 86) dX12_need_24 fX12_13 ⟨Nat.le_of_ble_eq_true rfl, Nat.le_of_ble_eq_true rfl⟩ rfl rfl (hF.at 84 1 86 rfl rfl rfl) ?_
  refine aw_iload_n dX12_need_27 rfl ?_
  refine aw_ialdq (q := s) (v := I 86 s) dX12_need_28 ⟨Nat.le_of_ble_eq_true rfl, Nat.le_of_ble_eq_true rfl⟩ rfl (by omega) (by omega) (by decide) rfl rfl ?_
  refine aw_istore_n (ls' := [some (ab_r 84), some (ab_i (s : Int)), some (ab_i v), some (ab_i (I 86 s))]) dX12_need_29 (by decide) rfl ?_
  refine aw_aload_n dX12_need_30 rfl (by decide) ?_
  refine aw_getrv (r := 86) dX12_need_31 fX12_13 ⟨Nat.le_of_ble_eq_true rfl, Nat.le_of_ble_eq_true rfl⟩ rfl rfl (hF.at 84 1 86 rfl rfl rfl) ?_
  refine aw_iload_n dX12_need_34 rfl ?_
  refine aw_iload_n dX12_need_35 rfl ?_
  refine aw_iastv (q := s) dX12_need_36 ⟨Nat.le_of_ble_eq_true rfl, Nat.le_of_ble_eq_true rfl⟩ rfl (by omega) (by omega) (by decide) rfl ?_
  refine aw_iload_n dX12_need_37 rfl ?_
  refine aw_ireturn dX12_need_38 rfl ?_
  exact ⟨rfl, rfl⟩
set_option maxHeartbeats 4000000 in
set_option maxRecDepth 100000 in
theorem pr_need (G : ab_G) (I : Nat → Nat → Int) (F : Nat → Nat → Nat) (c : Nat) (h : INV c I F) (hc : c ≤ 600) (a : Int) (ha : ab_In a) (v : Int) (hv : ab_In v) : Pair G 2 2 YX11_need YX12_need [ab_i a, ab_i v] ab_i c I F := by
  by_cases hv9 : (0 ≤ a ∧ a ≤ 3) ∧ (1 ≤ v ∧ v ≤ 9)
  · obtain ⟨s, rfl⟩ : ∃ s : Nat, a = s := ⟨a.toNat, by omega⟩
    have hs : s < 4 := by omega
    refine (ct_X11_need G I F h.1 s hs v hv9.2).mono ?_
    rintro _ _ ⟨rfl, rfl⟩
    refine ⟨_, _, _, rfl, rfl, ?_⟩
    refine (ct_X12_need G _ F h.1 s hs v hv9.2).mono ?_
    rintro _ _ ⟨rfl, rfl⟩
    refine ⟨?_, _, _, rfl, h.town (need_TB h.2.1 hs hv9.2) (need_IVt h.2.2.1 hs) ?_ (fun i b q => ?_)⟩
    · rw [ab_u_i (by decide), ab_u_i (by omega), h.2.2.1.1 s hs]
    · rw [ab_u_i (by decide), ab_u_s]
    · rw [ab_u_o (by omega), ab_u_o (by omega), ab_u_o (by omega)]
  · refine (ct_X11_need_bad G I F h.1 a ha v hv hv9).mono ?_
    rintro _ _ ⟨rfl, rfl⟩
    refine ⟨_, _, _, rfl, rfl, ?_⟩
    refine (ct_X12_need_bad G I F h.1 a ha v hv hv9).mono ?_
    rintro _ _ ⟨rfl, rfl⟩
    exact ⟨rfl, _, _, rfl, h.up (by omega)⟩
set_option maxHeartbeats 4000000 in
set_option maxRecDepth 100000 in
theorem ct_X11_coming_bad (G : ab_G) (I : Nat → Nat → Int) (F : Nat → Nat → Nat) (hF : ab_FB F) (a : Int) (ha : ab_In a) (hr : 0 ≤ I 9 1 ∧ I 9 1 ≤ 24) (hbad : ¬ ((-1 ≤ a ∧ a ≤ 3) ∧ I 9 1 < 24)) : Ct G 2 0 0 YX11_coming [ab_r 1, ab_i a] (104, I, F) (fun r h => r = some (ab_i (if -1 ≤ a ∧ a ≤ 3 then -5 else -2)) ∧ h = (104, I, F)) := by
  refine Ct.ofW kX11_coming (ls := [some (ab_r 1), some (ab_i a)]) (Nat.le_of_ble_eq_true rfl) rfl ?_
  refine aw_iload_n dX11_coming_0 rfl ?_
  refine aw_iconst dX11_coming_1 ?_
  refine aw_icmp_eq (tgt := 15) dX11_coming_2 rfl (by first | assumption | (unfold ab_In at *; omega)) (by first | assumption | (unfold ab_In at *; omega)) (fun c_2 => ?_) (fun c_2 => ?_)
  · refine aw_aload_n dX11_coming_15 rfl (by decide) ?_
    refine aw_getrv (r := 2) dX11_coming_16 fX11_10 ⟨Nat.le_of_ble_eq_true rfl, Nat.le_of_ble_eq_true rfl⟩ rfl rfl (hF.at 1 0 2 rfl rfl rfl) ?_
    refine aw_getrv (r := 9) dX11_coming_19 fX11_104 ⟨Nat.le_of_ble_eq_true rfl, Nat.le_of_ble_eq_true rfl⟩ rfl rfl (hF.at 2 2 9 rfl rfl rfl) ?_
    refine aw_callV (as := []) (rest := []) dX11_coming_22 (ct_X6_isFull_9 G I F (by unfold ab_In; omega)) ⟨Nat.le_of_ble_eq_true rfl, Nat.le_of_ble_eq_true rfl⟩ rfl kc6 rfl kX6_isFull iX6_isFull eX6_isFull lX11_108 rfl (Nat.le_of_ble_eq_true rfl) (by decide) (by decide) (by decide) (by decide) ?_
    rintro r9 _ ⟨e9, rfl⟩
    by_cases q5 : 24 ≤ I 9 1
    · rw [if_pos q5] at e9
      subst e9
      refine aw_if_eq (tgt := 31) dX11_coming_25 rfl ⟨by decide, by decide⟩ (fun c9 => absurd c9 (by decide)) (fun _ => ?_)
      refine aw_bipush dX11_coming_28 rfl ?_
      refine aw_ireturn dX11_coming_30 rfl ?_
      exact ⟨by first | rw [if_pos (by omega)] | rw [if_neg (by omega)] | rfl, rfl⟩
    · rw [if_neg q5] at e9
      subst e9
      refine aw_if_eq (tgt := 31) dX11_coming_25 rfl ⟨by decide, by decide⟩ (fun _ => ?_) (fun c9 => absurd (by decide) c9)
      exfalso; omega
  · refine aw_iload_n dX11_coming_5 rfl ?_
    refine aw_callS (as := [ab_i a]) (rest := []) dX11_coming_6 (ct_X11_isKind G (104, I, F) a (by first | assumption | (unfold ab_In at *; omega))) kX11_isKind sX11_isKind lX11_86 rfl (Nat.le_of_ble_eq_true rfl) (by decide) (by decide) (by decide) (by decide) ?_
    rintro r9 _ ⟨e9, rfl⟩
    by_cases q1 : 0 ≤ a ∧ a ≤ 3
    · rw [if_pos q1] at e9
      subst e9
      refine aw_if_ne (tgt := 15) dX11_coming_9 rfl ⟨by decide, by decide⟩ (fun _ => ?_) (fun c9 => absurd c9 (by decide))
      refine aw_aload_n dX11_coming_15 rfl (by decide) ?_
      refine aw_getrv (r := 2) dX11_coming_16 fX11_10 ⟨Nat.le_of_ble_eq_true rfl, Nat.le_of_ble_eq_true rfl⟩ rfl rfl (hF.at 1 0 2 rfl rfl rfl) ?_
      refine aw_getrv (r := 9) dX11_coming_19 fX11_104 ⟨Nat.le_of_ble_eq_true rfl, Nat.le_of_ble_eq_true rfl⟩ rfl rfl (hF.at 2 2 9 rfl rfl rfl) ?_
      refine aw_callV (as := []) (rest := []) dX11_coming_22 (ct_X6_isFull_9 G I F (by unfold ab_In; omega)) ⟨Nat.le_of_ble_eq_true rfl, Nat.le_of_ble_eq_true rfl⟩ rfl kc6 rfl kX6_isFull iX6_isFull eX6_isFull lX11_108 rfl (Nat.le_of_ble_eq_true rfl) (by decide) (by decide) (by decide) (by decide) ?_
      rintro r9 _ ⟨e9, rfl⟩
      by_cases q5 : 24 ≤ I 9 1
      · rw [if_pos q5] at e9
        subst e9
        refine aw_if_eq (tgt := 31) dX11_coming_25 rfl ⟨by decide, by decide⟩ (fun c9 => absurd c9 (by decide)) (fun _ => ?_)
        refine aw_bipush dX11_coming_28 rfl ?_
        refine aw_ireturn dX11_coming_30 rfl ?_
        exact ⟨by first | rw [if_pos (by omega)] | rw [if_neg (by omega)] | rfl, rfl⟩
      · rw [if_neg q5] at e9
        subst e9
        refine aw_if_eq (tgt := 31) dX11_coming_25 rfl ⟨by decide, by decide⟩ (fun _ => ?_) (fun c9 => absurd (by decide) c9)
        exfalso; omega
    · rw [if_neg q1] at e9
      subst e9
      refine aw_if_ne (tgt := 15) dX11_coming_9 rfl ⟨by decide, by decide⟩ (fun c9 => absurd rfl c9) (fun _ => ?_)
      refine aw_bipush dX11_coming_12 rfl ?_
      refine aw_ireturn dX11_coming_14 rfl ?_
      exact ⟨by first | rw [if_pos (by omega)] | rw [if_neg (by omega)] | rfl, rfl⟩
set_option maxHeartbeats 4000000 in
set_option maxRecDepth 100000 in
theorem ct_X12_coming_bad (G : ab_G) (I : Nat → Nat → Int) (F : Nat → Nat → Nat) (hF : ab_FB F) (a : Int) (ha : ab_In a) (hr : 0 ≤ I 84 2 ∧ I 84 2 ≤ 24) (hbad : ¬ ((-1 ≤ a ∧ a ≤ 3) ∧ I 84 2 < 24)) : Ct G 2 0 0 YX12_coming [ab_r 84, ab_i a] (104, I, F) (fun r h => r = some (ab_i (if -1 ≤ a ∧ a ≤ 3 then -5 else -2)) ∧ h = (104, I, F)) := by
  refine Ct.ofW kX12_coming (ls := [some (ab_r 84), some (ab_i a)]) (Nat.le_of_ble_eq_true rfl) rfl ?_
  refine aw_iload_n dX12_coming_0 rfl ?_
  refine aw_iconst dX12_coming_1 ?_
  refine aw_iconst dX12_coming_2 ?_
  refine aw_callS (as := [ab_i a, ab_i (-1), ab_i 3]) (rest := []) dX12_coming_3 (ct_X12_in G (104, I, F) a (-1) 3 (by first | assumption | (unfold ab_In at *; omega)) (by first | assumption | (unfold ab_In at *; omega)) (by first | assumption | (unfold ab_In at *; omega))) kX12_in sX12_in lX12_75 rfl (Nat.le_of_ble_eq_true rfl) (by decide) (by decide) (by decide) (by decide) ?_
  rintro r9 _ ⟨e9, rfl⟩
  by_cases q1 : (-1) ≤ a ∧ a ≤ 3
  · rw [if_pos q1] at e9
    subst e9
    refine aw_if_ne (tgt := 12) dX12_coming_6 rfl ⟨by decide, by decide⟩ (fun _ => ?_) (fun c9 => absurd c9 (by decide))
    refine aw_aload_n dX12_coming_12 rfl (by decide) ?_
    refine aw_geti dX12_coming_13 fX12_83 ⟨Nat.le_of_ble_eq_true rfl, Nat.le_of_ble_eq_true rfl⟩ rfl rfl ?_
    refine aw_bipush dX12_coming_16 rfl ?_
    refine aw_icmp_ne (tgt := 24) dX12_coming_18 rfl (by first | assumption | (unfold ab_In at *; omega)) (by first | assumption | (unfold ab_In at *; omega)) (fun c_18 => ?_) (fun c_18 => ?_)
    · exfalso; omega
    · refine aw_bipush dX12_coming_21 rfl ?_
      refine aw_ireturn dX12_coming_23 rfl ?_
      exact ⟨by first | rw [if_pos (by omega)] | rw [if_neg (by omega)] | rfl, rfl⟩
  · rw [if_neg q1] at e9
    subst e9
    refine aw_if_ne (tgt := 12) dX12_coming_6 rfl ⟨by decide, by decide⟩ (fun c9 => absurd rfl c9) (fun _ => ?_)
    refine aw_bipush dX12_coming_9 rfl ?_
    refine aw_ireturn dX12_coming_11 rfl ?_
    exact ⟨by first | rw [if_pos (by omega)] | rw [if_neg (by omega)] | rfl, rfl⟩
set_option maxHeartbeats 4000000 in
set_option maxRecDepth 100000 in
theorem ct_X11_coming (G : ab_G) (I : Nat → Nat → Int) (F : Nat → Nat → Nat) (hF : ab_FB F) (a : Int) (ha : -1 ≤ a ∧ a ≤ 3) (hr : 0 ≤ I 9 1 ∧ I 9 1 < 24) : Ct G 2 0 0 YX11_coming [ab_r 1, ab_i a] (104, I, F) (fun r h => r = some (ab_i (I 9 1 + 1)) ∧ h = (104, ab_u (ab_u (ab_u I 65 5 0) 10 (I 9 1).toNat a) 9 1 (I 9 1 + 1), F)) := by
  refine Ct.ofW kX11_coming (ls := [some (ab_r 1), some (ab_i a)]) (Nat.le_of_ble_eq_true rfl) rfl ?_
  refine aw_iload_n dX11_coming_0 rfl ?_
  refine aw_iconst dX11_coming_1 ?_
  refine aw_icmp_eq (tgt := 15) dX11_coming_2 rfl (by first | assumption | (unfold ab_In at *; omega)) (by first | assumption | (unfold ab_In at *; omega)) (fun c_2 => ?_) (fun c_2 => ?_)
  · refine aw_aload_n dX11_coming_15 rfl (by decide) ?_
    refine aw_getrv (r := 2) dX11_coming_16 fX11_10 ⟨Nat.le_of_ble_eq_true rfl, Nat.le_of_ble_eq_true rfl⟩ rfl rfl (hF.at 1 0 2 rfl rfl rfl) ?_
    refine aw_getrv (r := 9) dX11_coming_19 fX11_104 ⟨Nat.le_of_ble_eq_true rfl, Nat.le_of_ble_eq_true rfl⟩ rfl rfl (hF.at 2 2 9 rfl rfl rfl) ?_
    refine aw_callV (as := []) (rest := []) dX11_coming_22 (ct_X6_isFull_9 G I F (by unfold ab_In; omega)) ⟨Nat.le_of_ble_eq_true rfl, Nat.le_of_ble_eq_true rfl⟩ rfl kc6 rfl kX6_isFull iX6_isFull eX6_isFull lX11_108 rfl (Nat.le_of_ble_eq_true rfl) (by decide) (by decide) (by decide) (by decide) ?_
    rintro r9 _ ⟨e9, rfl⟩
    rw [if_neg (by omega)] at e9
    subst e9
    refine aw_if_eq (tgt := 31) dX11_coming_25 rfl ⟨by decide, by decide⟩ (fun _ => ?_) (fun c9 => absurd (by decide) c9)
    refine aw_aload_n dX11_coming_31 rfl (by decide) ?_
    refine aw_getrv (r := 65) dX11_coming_32 fX11_48 ⟨Nat.le_of_ble_eq_true rfl, Nat.le_of_ble_eq_true rfl⟩ rfl rfl (hF.at 1 6 65 rfl rfl rfl) ?_
    refine aw_callV (as := []) (rest := []) dX11_coming_35 (ct_X5_forget G I F) ⟨Nat.le_of_ble_eq_true rfl, Nat.le_of_ble_eq_true rfl⟩ rfl kc5 rfl kX5_forget iX5_forget eX5_forget lX11_97 rfl (Nat.le_of_ble_eq_true rfl) (by decide) (by decide) (by decide) (by decide) ?_
    rintro _ _ ⟨rfl, rfl⟩
    refine aw_aload_n dX11_coming_38 rfl (by decide) ?_
    refine aw_getrv (r := 2) dX11_coming_39 fX11_10 ⟨Nat.le_of_ble_eq_true rfl, Nat.le_of_ble_eq_true rfl⟩ rfl rfl (hF.at 1 0 2 rfl rfl rfl) ?_
    refine aw_getrv (r := 9) dX11_coming_42 fX11_104 ⟨Nat.le_of_ble_eq_true rfl, Nat.le_of_ble_eq_true rfl⟩ rfl rfl (hF.at 2 2 9 rfl rfl rfl) ?_
    refine aw_iload_n dX11_coming_45 rfl ?_
    refine aw_callV (as := [ab_i a]) (rest := []) dX11_coming_46 (ct_X6_add_9 G (ab_u I 65 5 0) F hF a (by rw [ab_u_i (by decide)]; omega) (by rw [ab_u_i (by decide)]; omega)) ⟨Nat.le_of_ble_eq_true rfl, Nat.le_of_ble_eq_true rfl⟩ rfl kc6 rfl kX6_add iX6_add eX6_add lX11_114 rfl (Nat.le_of_ble_eq_true rfl) (by decide) (by decide) (by decide) (by decide) ?_
    rintro _ _ ⟨rfl, rfl⟩
    refine aw_ireturn dX11_coming_49 rfl ?_
    exact ⟨by rw [ab_u_i (by decide)], by rw [ab_u_i (by decide)]⟩
  · refine aw_iload_n dX11_coming_5 rfl ?_
    refine aw_callS (as := [ab_i a]) (rest := []) dX11_coming_6 (ct_X11_isKind G (104, I, F) a (by first | assumption | (unfold ab_In at *; omega))) kX11_isKind sX11_isKind lX11_86 rfl (Nat.le_of_ble_eq_true rfl) (by decide) (by decide) (by decide) (by decide) ?_
    rintro r9 _ ⟨e9, rfl⟩
    rw [if_pos (by omega)] at e9
    subst e9
    refine aw_if_ne (tgt := 15) dX11_coming_9 rfl ⟨by decide, by decide⟩ (fun _ => ?_) (fun c9 => absurd c9 (by decide))
    refine aw_aload_n dX11_coming_15 rfl (by decide) ?_
    refine aw_getrv (r := 2) dX11_coming_16 fX11_10 ⟨Nat.le_of_ble_eq_true rfl, Nat.le_of_ble_eq_true rfl⟩ rfl rfl (hF.at 1 0 2 rfl rfl rfl) ?_
    refine aw_getrv (r := 9) dX11_coming_19 fX11_104 ⟨Nat.le_of_ble_eq_true rfl, Nat.le_of_ble_eq_true rfl⟩ rfl rfl (hF.at 2 2 9 rfl rfl rfl) ?_
    refine aw_callV (as := []) (rest := []) dX11_coming_22 (ct_X6_isFull_9 G I F (by unfold ab_In; omega)) ⟨Nat.le_of_ble_eq_true rfl, Nat.le_of_ble_eq_true rfl⟩ rfl kc6 rfl kX6_isFull iX6_isFull eX6_isFull lX11_108 rfl (Nat.le_of_ble_eq_true rfl) (by decide) (by decide) (by decide) (by decide) ?_
    rintro r9 _ ⟨e9, rfl⟩
    rw [if_neg (by omega)] at e9
    subst e9
    refine aw_if_eq (tgt := 31) dX11_coming_25 rfl ⟨by decide, by decide⟩ (fun _ => ?_) (fun c9 => absurd (by decide) c9)
    refine aw_aload_n dX11_coming_31 rfl (by decide) ?_
    refine aw_getrv (r := 65) dX11_coming_32 fX11_48 ⟨Nat.le_of_ble_eq_true rfl, Nat.le_of_ble_eq_true rfl⟩ rfl rfl (hF.at 1 6 65 rfl rfl rfl) ?_
    refine aw_callV (as := []) (rest := []) dX11_coming_35 (ct_X5_forget G I F) ⟨Nat.le_of_ble_eq_true rfl, Nat.le_of_ble_eq_true rfl⟩ rfl kc5 rfl kX5_forget iX5_forget eX5_forget lX11_97 rfl (Nat.le_of_ble_eq_true rfl) (by decide) (by decide) (by decide) (by decide) ?_
    rintro _ _ ⟨rfl, rfl⟩
    refine aw_aload_n dX11_coming_38 rfl (by decide) ?_
    refine aw_getrv (r := 2) dX11_coming_39 fX11_10 ⟨Nat.le_of_ble_eq_true rfl, Nat.le_of_ble_eq_true rfl⟩ rfl rfl (hF.at 1 0 2 rfl rfl rfl) ?_
    refine aw_getrv (r := 9) dX11_coming_42 fX11_104 ⟨Nat.le_of_ble_eq_true rfl, Nat.le_of_ble_eq_true rfl⟩ rfl rfl (hF.at 2 2 9 rfl rfl rfl) ?_
    refine aw_iload_n dX11_coming_45 rfl ?_
    refine aw_callV (as := [ab_i a]) (rest := []) dX11_coming_46 (ct_X6_add_9 G (ab_u I 65 5 0) F hF a (by rw [ab_u_i (by decide)]; omega) (by rw [ab_u_i (by decide)]; omega)) ⟨Nat.le_of_ble_eq_true rfl, Nat.le_of_ble_eq_true rfl⟩ rfl kc6 rfl kX6_add iX6_add eX6_add lX11_114 rfl (Nat.le_of_ble_eq_true rfl) (by decide) (by decide) (by decide) (by decide) ?_
    rintro _ _ ⟨rfl, rfl⟩
    refine aw_ireturn dX11_coming_49 rfl ?_
    exact ⟨by rw [ab_u_i (by decide)], by rw [ab_u_i (by decide)]⟩
set_option maxHeartbeats 4000000 in
set_option maxRecDepth 100000 in
theorem ct_X12_coming (G : ab_G) (I : Nat → Nat → Int) (F : Nat → Nat → Nat) (hF : ab_FB F) (a : Int) (ha : -1 ≤ a ∧ a ≤ 3) (hr : 0 ≤ I 84 2 ∧ I 84 2 < 24) : Ct G 2 0 0 YX12_coming [ab_r 84, ab_i a] (104, I, F) (fun r h => r = some (ab_i (I 84 2 + 1)) ∧ h = (104, ab_u (ab_u I 87 (I 84 2).toNat a) 84 2 (I 84 2 + 1), F)) := by
  refine Ct.ofW kX12_coming (ls := [some (ab_r 84), some (ab_i a)]) (Nat.le_of_ble_eq_true rfl) rfl ?_
  refine aw_iload_n dX12_coming_0 rfl ?_
  refine aw_iconst dX12_coming_1 ?_
  refine aw_iconst dX12_coming_2 ?_
  refine aw_callS (as := [ab_i a, ab_i (-1), ab_i 3]) (rest := []) dX12_coming_3 (ct_X12_in G (104, I, F) a (-1) 3 (by first | assumption | (unfold ab_In at *; omega)) (by first | assumption | (unfold ab_In at *; omega)) (by first | assumption | (unfold ab_In at *; omega))) kX12_in sX12_in lX12_75 rfl (Nat.le_of_ble_eq_true rfl) (by decide) (by decide) (by decide) (by decide) ?_
  rintro r9 _ ⟨e9, rfl⟩
  rw [if_pos (by omega)] at e9
  subst e9
  refine aw_if_ne (tgt := 12) dX12_coming_6 rfl ⟨by decide, by decide⟩ (fun _ => ?_) (fun c9 => absurd c9 (by decide))
  refine aw_aload_n dX12_coming_12 rfl (by decide) ?_
  refine aw_geti dX12_coming_13 fX12_83 ⟨Nat.le_of_ble_eq_true rfl, Nat.le_of_ble_eq_true rfl⟩ rfl rfl ?_
  refine aw_bipush dX12_coming_16 rfl ?_
  refine aw_icmp_ne (tgt := 24) dX12_coming_18 rfl (by first | assumption | (unfold ab_In at *; omega)) (by first | assumption | (unfold ab_In at *; omega)) (fun c_18 => ?_) (fun c_18 => ?_)
  · refine aw_aload_n dX12_coming_24 rfl (by decide) ?_
    refine aw_getrv (r := 87) dX12_coming_25 fX12_16 ⟨Nat.le_of_ble_eq_true rfl, Nat.le_of_ble_eq_true rfl⟩ rfl rfl (hF.at 84 3 87 rfl rfl rfl) ?_
    refine aw_aload_n dX12_coming_28 rfl (by decide) ?_
    refine aw_geti dX12_coming_29 fX12_83 ⟨Nat.le_of_ble_eq_true rfl, Nat.le_of_ble_eq_true rfl⟩ rfl rfl ?_
    refine aw_iload_n dX12_coming_32 rfl ?_
    refine aw_iastv (q := (I 84 2).toNat) dX12_coming_33 ⟨Nat.le_of_ble_eq_true rfl, Nat.le_of_ble_eq_true rfl⟩ rfl (by omega) (by omega) (by decide) rfl ?_
    refine aw_aload_n dX12_coming_34 rfl (by decide) ?_
    refine aw_dup dX12_coming_35 rfl ?_
    refine aw_getiv (v := I 84 2) dX12_coming_36 fX12_83 ⟨Nat.le_of_ble_eq_true rfl, Nat.le_of_ble_eq_true rfl⟩ rfl rfl (ab_u_i (by decide)) ?_
    refine aw_iconst dX12_coming_39 ?_
    refine aw_iadd dX12_coming_40 ?_
    refine aw_puti dX12_coming_41 fX12_83 ⟨Nat.le_of_ble_eq_true rfl, Nat.le_of_ble_eq_true rfl⟩ rfl rfl ?_
    refine aw_aload_n dX12_coming_44 rfl (by decide) ?_
    refine aw_getiv (v := ((I 84 2) + 1)) dX12_coming_45 fX12_83 ⟨Nat.le_of_ble_eq_true rfl, Nat.le_of_ble_eq_true rfl⟩ rfl rfl ab_u_s ?_
    refine aw_ireturn dX12_coming_48 rfl ?_
    exact ⟨rfl, rfl⟩
  · exfalso; omega
set_option maxHeartbeats 4000000 in
set_option maxRecDepth 100000 in
theorem pr_coming (G : ab_G) (I : Nat → Nat → Int) (F : Nat → Nat → Nat) (c : Nat) (h : INV c I F) (hc : c ≤ 600) (a : Int) (ha : ab_In a) : Pair G 2 2 YX11_coming YX12_coming [ab_i a] ab_i c I F := by
  have hr := h.2.1.2.2.1
  have hI := h.2.2.1.2.2.1
  by_cases hv9 : (-1 ≤ a ∧ a ≤ 3) ∧ I 9 1 < 24
  · refine (ct_X11_coming G I F h.1 a hv9.1 ⟨hr.1, hv9.2⟩).mono ?_
    rintro _ _ ⟨rfl, rfl⟩
    refine ⟨_, _, _, rfl, rfl, ?_⟩
    have e84 : ab_u (ab_u (ab_u I 65 5 0) 10 (I 9 1).toNat a) 9 1 (I 9 1 + 1) 84 2 = I 9 1 := by rw [ab_u_i (by decide), ab_u_i (by decide), ab_u_i (by decide), hI]
    refine (ct_X12_coming G _ F h.1 a hv9.1 (by rw [e84]; omega)).mono ?_
    rintro _ _ ⟨rfl, rfl⟩
    rw [e84]
    refine ⟨rfl, _, _, rfl, h.town (coming_TB h.2.1 hv9.1 hv9.2) (coming_IVt h.2.2.1 hr.1 hv9.2) ?_ (fun i b q => ?_)⟩
    · rw [ab_u_i (by decide), ab_u_i (by decide), ab_u_i (by decide), ab_u_i (by decide), ab_u_s]
    · rw [ab_u_o (by omega), ab_u_o (by omega), ab_u_o (by omega), ab_u_o (by omega), ab_u_o (by omega)]
  · refine (ct_X11_coming_bad G I F h.1 a ha hr hv9).mono ?_
    rintro _ _ ⟨rfl, rfl⟩
    refine ⟨_, _, _, rfl, rfl, ?_⟩
    refine (ct_X12_coming_bad G I F h.1 a ha (by omega) (by omega)).mono ?_
    rintro _ _ ⟨rfl, rfl⟩
    exact ⟨rfl, _, _, rfl, h.up (by omega)⟩
set_option maxHeartbeats 4000000 in
set_option maxRecDepth 100000 in
theorem ct_X11_joining_bad (G : ab_G) (I : Nat → Nat → Int) (F : Nat → Nat → Nat) (hF : ab_FB F) (a : Int) (ha : ab_In a) (hr : 0 ≤ I 11 1 ∧ I 11 1 ≤ 24) (hbad : ¬ ((-1 ≤ a ∧ a ≤ 3) ∧ I 11 1 < 24)) : Ct G 2 0 0 YX11_joining [ab_r 1, ab_i a] (104, I, F) (fun r h => r = some (ab_i (if -1 ≤ a ∧ a ≤ 3 then -5 else -2)) ∧ h = (104, I, F)) := by
  refine Ct.ofW kX11_joining (ls := [some (ab_r 1), some (ab_i a)]) (Nat.le_of_ble_eq_true rfl) rfl ?_
  refine aw_iload_n dX11_joining_0 rfl ?_
  refine aw_iconst dX11_joining_1 ?_
  refine aw_icmp_eq (tgt := 15) dX11_joining_2 rfl (by first | assumption | (unfold ab_In at *; omega)) (by first | assumption | (unfold ab_In at *; omega)) (fun c_2 => ?_) (fun c_2 => ?_)
  · refine aw_aload_n dX11_joining_15 rfl (by decide) ?_
    refine aw_getrv (r := 2) dX11_joining_16 fX11_10 ⟨Nat.le_of_ble_eq_true rfl, Nat.le_of_ble_eq_true rfl⟩ rfl rfl (hF.at 1 0 2 rfl rfl rfl) ?_
    refine aw_getrv (r := 11) dX11_joining_19 fX11_118 ⟨Nat.le_of_ble_eq_true rfl, Nat.le_of_ble_eq_true rfl⟩ rfl rfl (hF.at 2 3 11 rfl rfl rfl) ?_
    refine aw_callV (as := []) (rest := []) dX11_joining_22 (ct_X6_isFull_11 G I F (by unfold ab_In; omega)) ⟨Nat.le_of_ble_eq_true rfl, Nat.le_of_ble_eq_true rfl⟩ rfl kc6 rfl kX6_isFull iX6_isFull eX6_isFull lX11_108 rfl (Nat.le_of_ble_eq_true rfl) (by decide) (by decide) (by decide) (by decide) ?_
    rintro r9 _ ⟨e9, rfl⟩
    by_cases q5 : 24 ≤ I 11 1
    · rw [if_pos q5] at e9
      subst e9
      refine aw_if_eq (tgt := 31) dX11_joining_25 rfl ⟨by decide, by decide⟩ (fun c9 => absurd c9 (by decide)) (fun _ => ?_)
      refine aw_bipush dX11_joining_28 rfl ?_
      refine aw_ireturn dX11_joining_30 rfl ?_
      exact ⟨by first | rw [if_pos (by omega)] | rw [if_neg (by omega)] | rfl, rfl⟩
    · rw [if_neg q5] at e9
      subst e9
      refine aw_if_eq (tgt := 31) dX11_joining_25 rfl ⟨by decide, by decide⟩ (fun _ => ?_) (fun c9 => absurd (by decide) c9)
      exfalso; omega
  · refine aw_iload_n dX11_joining_5 rfl ?_
    refine aw_callS (as := [ab_i a]) (rest := []) dX11_joining_6 (ct_X11_isSort G (104, I, F) a (by first | assumption | (unfold ab_In at *; omega))) kX11_isSort sX11_isSort lX11_82 rfl (Nat.le_of_ble_eq_true rfl) (by decide) (by decide) (by decide) (by decide) ?_
    rintro r9 _ ⟨e9, rfl⟩
    by_cases q1 : 0 ≤ a ∧ a ≤ 3
    · rw [if_pos q1] at e9
      subst e9
      refine aw_if_ne (tgt := 15) dX11_joining_9 rfl ⟨by decide, by decide⟩ (fun _ => ?_) (fun c9 => absurd c9 (by decide))
      refine aw_aload_n dX11_joining_15 rfl (by decide) ?_
      refine aw_getrv (r := 2) dX11_joining_16 fX11_10 ⟨Nat.le_of_ble_eq_true rfl, Nat.le_of_ble_eq_true rfl⟩ rfl rfl (hF.at 1 0 2 rfl rfl rfl) ?_
      refine aw_getrv (r := 11) dX11_joining_19 fX11_118 ⟨Nat.le_of_ble_eq_true rfl, Nat.le_of_ble_eq_true rfl⟩ rfl rfl (hF.at 2 3 11 rfl rfl rfl) ?_
      refine aw_callV (as := []) (rest := []) dX11_joining_22 (ct_X6_isFull_11 G I F (by unfold ab_In; omega)) ⟨Nat.le_of_ble_eq_true rfl, Nat.le_of_ble_eq_true rfl⟩ rfl kc6 rfl kX6_isFull iX6_isFull eX6_isFull lX11_108 rfl (Nat.le_of_ble_eq_true rfl) (by decide) (by decide) (by decide) (by decide) ?_
      rintro r9 _ ⟨e9, rfl⟩
      by_cases q5 : 24 ≤ I 11 1
      · rw [if_pos q5] at e9
        subst e9
        refine aw_if_eq (tgt := 31) dX11_joining_25 rfl ⟨by decide, by decide⟩ (fun c9 => absurd c9 (by decide)) (fun _ => ?_)
        refine aw_bipush dX11_joining_28 rfl ?_
        refine aw_ireturn dX11_joining_30 rfl ?_
        exact ⟨by first | rw [if_pos (by omega)] | rw [if_neg (by omega)] | rfl, rfl⟩
      · rw [if_neg q5] at e9
        subst e9
        refine aw_if_eq (tgt := 31) dX11_joining_25 rfl ⟨by decide, by decide⟩ (fun _ => ?_) (fun c9 => absurd (by decide) c9)
        exfalso; omega
    · rw [if_neg q1] at e9
      subst e9
      refine aw_if_ne (tgt := 15) dX11_joining_9 rfl ⟨by decide, by decide⟩ (fun c9 => absurd rfl c9) (fun _ => ?_)
      refine aw_bipush dX11_joining_12 rfl ?_
      refine aw_ireturn dX11_joining_14 rfl ?_
      exact ⟨by first | rw [if_pos (by omega)] | rw [if_neg (by omega)] | rfl, rfl⟩
set_option maxHeartbeats 4000000 in
set_option maxRecDepth 100000 in
theorem ct_X12_joining_bad (G : ab_G) (I : Nat → Nat → Int) (F : Nat → Nat → Nat) (hF : ab_FB F) (a : Int) (ha : ab_In a) (hr : 0 ≤ I 84 4 ∧ I 84 4 ≤ 24) (hbad : ¬ ((-1 ≤ a ∧ a ≤ 3) ∧ I 84 4 < 24)) : Ct G 2 0 0 YX12_joining [ab_r 84, ab_i a] (104, I, F) (fun r h => r = some (ab_i (if -1 ≤ a ∧ a ≤ 3 then -5 else -2)) ∧ h = (104, I, F)) := by
  refine Ct.ofW kX12_joining (ls := [some (ab_r 84), some (ab_i a)]) (Nat.le_of_ble_eq_true rfl) rfl ?_
  refine aw_iload_n dX12_joining_0 rfl ?_
  refine aw_iconst dX12_joining_1 ?_
  refine aw_iconst dX12_joining_2 ?_
  refine aw_callS (as := [ab_i a, ab_i (-1), ab_i 3]) (rest := []) dX12_joining_3 (ct_X12_in G (104, I, F) a (-1) 3 (by first | assumption | (unfold ab_In at *; omega)) (by first | assumption | (unfold ab_In at *; omega)) (by first | assumption | (unfold ab_In at *; omega))) kX12_in sX12_in lX12_75 rfl (Nat.le_of_ble_eq_true rfl) (by decide) (by decide) (by decide) (by decide) ?_
  rintro r9 _ ⟨e9, rfl⟩
  by_cases q1 : (-1) ≤ a ∧ a ≤ 3
  · rw [if_pos q1] at e9
    subst e9
    refine aw_if_ne (tgt := 12) dX12_joining_6 rfl ⟨by decide, by decide⟩ (fun _ => ?_) (fun c9 => absurd c9 (by decide))
    refine aw_aload_n dX12_joining_12 rfl (by decide) ?_
    refine aw_geti dX12_joining_13 fX12_87 ⟨Nat.le_of_ble_eq_true rfl, Nat.le_of_ble_eq_true rfl⟩ rfl rfl ?_
    refine aw_bipush dX12_joining_16 rfl ?_
    refine aw_icmp_ne (tgt := 24) dX12_joining_18 rfl (by first | assumption | (unfold ab_In at *; omega)) (by first | assumption | (unfold ab_In at *; omega)) (fun c_18 => ?_) (fun c_18 => ?_)
    · exfalso; omega
    · refine aw_bipush dX12_joining_21 rfl ?_
      refine aw_ireturn dX12_joining_23 rfl ?_
      exact ⟨by first | rw [if_pos (by omega)] | rw [if_neg (by omega)] | rfl, rfl⟩
  · rw [if_neg q1] at e9
    subst e9
    refine aw_if_ne (tgt := 12) dX12_joining_6 rfl ⟨by decide, by decide⟩ (fun c9 => absurd rfl c9) (fun _ => ?_)
    refine aw_bipush dX12_joining_9 rfl ?_
    refine aw_ireturn dX12_joining_11 rfl ?_
    exact ⟨by first | rw [if_pos (by omega)] | rw [if_neg (by omega)] | rfl, rfl⟩
set_option maxHeartbeats 4000000 in
set_option maxRecDepth 100000 in
theorem ct_X11_joining (G : ab_G) (I : Nat → Nat → Int) (F : Nat → Nat → Nat) (hF : ab_FB F) (a : Int) (ha : -1 ≤ a ∧ a ≤ 3) (hr : 0 ≤ I 11 1 ∧ I 11 1 < 24) : Ct G 2 0 0 YX11_joining [ab_r 1, ab_i a] (104, I, F) (fun r h => r = some (ab_i (I 11 1 + 1)) ∧ h = (104, ab_u (ab_u (ab_u I 65 5 0) 12 (I 11 1).toNat a) 11 1 (I 11 1 + 1), F)) := by
  refine Ct.ofW kX11_joining (ls := [some (ab_r 1), some (ab_i a)]) (Nat.le_of_ble_eq_true rfl) rfl ?_
  refine aw_iload_n dX11_joining_0 rfl ?_
  refine aw_iconst dX11_joining_1 ?_
  refine aw_icmp_eq (tgt := 15) dX11_joining_2 rfl (by first | assumption | (unfold ab_In at *; omega)) (by first | assumption | (unfold ab_In at *; omega)) (fun c_2 => ?_) (fun c_2 => ?_)
  · refine aw_aload_n dX11_joining_15 rfl (by decide) ?_
    refine aw_getrv (r := 2) dX11_joining_16 fX11_10 ⟨Nat.le_of_ble_eq_true rfl, Nat.le_of_ble_eq_true rfl⟩ rfl rfl (hF.at 1 0 2 rfl rfl rfl) ?_
    refine aw_getrv (r := 11) dX11_joining_19 fX11_118 ⟨Nat.le_of_ble_eq_true rfl, Nat.le_of_ble_eq_true rfl⟩ rfl rfl (hF.at 2 3 11 rfl rfl rfl) ?_
    refine aw_callV (as := []) (rest := []) dX11_joining_22 (ct_X6_isFull_11 G I F (by unfold ab_In; omega)) ⟨Nat.le_of_ble_eq_true rfl, Nat.le_of_ble_eq_true rfl⟩ rfl kc6 rfl kX6_isFull iX6_isFull eX6_isFull lX11_108 rfl (Nat.le_of_ble_eq_true rfl) (by decide) (by decide) (by decide) (by decide) ?_
    rintro r9 _ ⟨e9, rfl⟩
    rw [if_neg (by omega)] at e9
    subst e9
    refine aw_if_eq (tgt := 31) dX11_joining_25 rfl ⟨by decide, by decide⟩ (fun _ => ?_) (fun c9 => absurd (by decide) c9)
    refine aw_aload_n dX11_joining_31 rfl (by decide) ?_
    refine aw_getrv (r := 65) dX11_joining_32 fX11_48 ⟨Nat.le_of_ble_eq_true rfl, Nat.le_of_ble_eq_true rfl⟩ rfl rfl (hF.at 1 6 65 rfl rfl rfl) ?_
    refine aw_callV (as := []) (rest := []) dX11_joining_35 (ct_X5_forget G I F) ⟨Nat.le_of_ble_eq_true rfl, Nat.le_of_ble_eq_true rfl⟩ rfl kc5 rfl kX5_forget iX5_forget eX5_forget lX11_97 rfl (Nat.le_of_ble_eq_true rfl) (by decide) (by decide) (by decide) (by decide) ?_
    rintro _ _ ⟨rfl, rfl⟩
    refine aw_aload_n dX11_joining_38 rfl (by decide) ?_
    refine aw_getrv (r := 2) dX11_joining_39 fX11_10 ⟨Nat.le_of_ble_eq_true rfl, Nat.le_of_ble_eq_true rfl⟩ rfl rfl (hF.at 1 0 2 rfl rfl rfl) ?_
    refine aw_getrv (r := 11) dX11_joining_42 fX11_118 ⟨Nat.le_of_ble_eq_true rfl, Nat.le_of_ble_eq_true rfl⟩ rfl rfl (hF.at 2 3 11 rfl rfl rfl) ?_
    refine aw_iload_n dX11_joining_45 rfl ?_
    refine aw_callV (as := [ab_i a]) (rest := []) dX11_joining_46 (ct_X6_add_11 G (ab_u I 65 5 0) F hF a (by rw [ab_u_i (by decide)]; omega) (by rw [ab_u_i (by decide)]; omega)) ⟨Nat.le_of_ble_eq_true rfl, Nat.le_of_ble_eq_true rfl⟩ rfl kc6 rfl kX6_add iX6_add eX6_add lX11_114 rfl (Nat.le_of_ble_eq_true rfl) (by decide) (by decide) (by decide) (by decide) ?_
    rintro _ _ ⟨rfl, rfl⟩
    refine aw_ireturn dX11_joining_49 rfl ?_
    exact ⟨by rw [ab_u_i (by decide)], by rw [ab_u_i (by decide)]⟩
  · refine aw_iload_n dX11_joining_5 rfl ?_
    refine aw_callS (as := [ab_i a]) (rest := []) dX11_joining_6 (ct_X11_isSort G (104, I, F) a (by first | assumption | (unfold ab_In at *; omega))) kX11_isSort sX11_isSort lX11_82 rfl (Nat.le_of_ble_eq_true rfl) (by decide) (by decide) (by decide) (by decide) ?_
    rintro r9 _ ⟨e9, rfl⟩
    rw [if_pos (by omega)] at e9
    subst e9
    refine aw_if_ne (tgt := 15) dX11_joining_9 rfl ⟨by decide, by decide⟩ (fun _ => ?_) (fun c9 => absurd c9 (by decide))
    refine aw_aload_n dX11_joining_15 rfl (by decide) ?_
    refine aw_getrv (r := 2) dX11_joining_16 fX11_10 ⟨Nat.le_of_ble_eq_true rfl, Nat.le_of_ble_eq_true rfl⟩ rfl rfl (hF.at 1 0 2 rfl rfl rfl) ?_
    refine aw_getrv (r := 11) dX11_joining_19 fX11_118 ⟨Nat.le_of_ble_eq_true rfl, Nat.le_of_ble_eq_true rfl⟩ rfl rfl (hF.at 2 3 11 rfl rfl rfl) ?_
    refine aw_callV (as := []) (rest := []) dX11_joining_22 (ct_X6_isFull_11 G I F (by unfold ab_In; omega)) ⟨Nat.le_of_ble_eq_true rfl, Nat.le_of_ble_eq_true rfl⟩ rfl kc6 rfl kX6_isFull iX6_isFull eX6_isFull lX11_108 rfl (Nat.le_of_ble_eq_true rfl) (by decide) (by decide) (by decide) (by decide) ?_
    rintro r9 _ ⟨e9, rfl⟩
    rw [if_neg (by omega)] at e9
    subst e9
    refine aw_if_eq (tgt := 31) dX11_joining_25 rfl ⟨by decide, by decide⟩ (fun _ => ?_) (fun c9 => absurd (by decide) c9)
    refine aw_aload_n dX11_joining_31 rfl (by decide) ?_
    refine aw_getrv (r := 65) dX11_joining_32 fX11_48 ⟨Nat.le_of_ble_eq_true rfl, Nat.le_of_ble_eq_true rfl⟩ rfl rfl (hF.at 1 6 65 rfl rfl rfl) ?_
    refine aw_callV (as := []) (rest := []) dX11_joining_35 (ct_X5_forget G I F) ⟨Nat.le_of_ble_eq_true rfl, Nat.le_of_ble_eq_true rfl⟩ rfl kc5 rfl kX5_forget iX5_forget eX5_forget lX11_97 rfl (Nat.le_of_ble_eq_true rfl) (by decide) (by decide) (by decide) (by decide) ?_
    rintro _ _ ⟨rfl, rfl⟩
    refine aw_aload_n dX11_joining_38 rfl (by decide) ?_
    refine aw_getrv (r := 2) dX11_joining_39 fX11_10 ⟨Nat.le_of_ble_eq_true rfl, Nat.le_of_ble_eq_true rfl⟩ rfl rfl (hF.at 1 0 2 rfl rfl rfl) ?_
    refine aw_getrv (r := 11) dX11_joining_42 fX11_118 ⟨Nat.le_of_ble_eq_true rfl, Nat.le_of_ble_eq_true rfl⟩ rfl rfl (hF.at 2 3 11 rfl rfl rfl) ?_
    refine aw_iload_n dX11_joining_45 rfl ?_
    refine aw_callV (as := [ab_i a]) (rest := []) dX11_joining_46 (ct_X6_add_11 G (ab_u I 65 5 0) F hF a (by rw [ab_u_i (by decide)]; omega) (by rw [ab_u_i (by decide)]; omega)) ⟨Nat.le_of_ble_eq_true rfl, Nat.le_of_ble_eq_true rfl⟩ rfl kc6 rfl kX6_add iX6_add eX6_add lX11_114 rfl (Nat.le_of_ble_eq_true rfl) (by decide) (by decide) (by decide) (by decide) ?_
    rintro _ _ ⟨rfl, rfl⟩
    refine aw_ireturn dX11_joining_49 rfl ?_
    exact ⟨by rw [ab_u_i (by decide)], by rw [ab_u_i (by decide)]⟩
set_option maxHeartbeats 4000000 in
set_option maxRecDepth 100000 in
theorem ct_X12_joining (G : ab_G) (I : Nat → Nat → Int) (F : Nat → Nat → Nat) (hF : ab_FB F) (a : Int) (ha : -1 ≤ a ∧ a ≤ 3) (hr : 0 ≤ I 84 4 ∧ I 84 4 < 24) : Ct G 2 0 0 YX12_joining [ab_r 84, ab_i a] (104, I, F) (fun r h => r = some (ab_i (I 84 4 + 1)) ∧ h = (104, ab_u (ab_u I 88 (I 84 4).toNat a) 84 4 (I 84 4 + 1), F)) := by
  refine Ct.ofW kX12_joining (ls := [some (ab_r 84), some (ab_i a)]) (Nat.le_of_ble_eq_true rfl) rfl ?_
  refine aw_iload_n dX12_joining_0 rfl ?_
  refine aw_iconst dX12_joining_1 ?_
  refine aw_iconst dX12_joining_2 ?_
  refine aw_callS (as := [ab_i a, ab_i (-1), ab_i 3]) (rest := []) dX12_joining_3 (ct_X12_in G (104, I, F) a (-1) 3 (by first | assumption | (unfold ab_In at *; omega)) (by first | assumption | (unfold ab_In at *; omega)) (by first | assumption | (unfold ab_In at *; omega))) kX12_in sX12_in lX12_75 rfl (Nat.le_of_ble_eq_true rfl) (by decide) (by decide) (by decide) (by decide) ?_
  rintro r9 _ ⟨e9, rfl⟩
  rw [if_pos (by omega)] at e9
  subst e9
  refine aw_if_ne (tgt := 12) dX12_joining_6 rfl ⟨by decide, by decide⟩ (fun _ => ?_) (fun c9 => absurd c9 (by decide))
  refine aw_aload_n dX12_joining_12 rfl (by decide) ?_
  refine aw_geti dX12_joining_13 fX12_87 ⟨Nat.le_of_ble_eq_true rfl, Nat.le_of_ble_eq_true rfl⟩ rfl rfl ?_
  refine aw_bipush dX12_joining_16 rfl ?_
  refine aw_icmp_ne (tgt := 24) dX12_joining_18 rfl (by first | assumption | (unfold ab_In at *; omega)) (by first | assumption | (unfold ab_In at *; omega)) (fun c_18 => ?_) (fun c_18 => ?_)
  · refine aw_aload_n dX12_joining_24 rfl (by decide) ?_
    refine aw_getrv (r := 88) dX12_joining_25 fX12_19 ⟨Nat.le_of_ble_eq_true rfl, Nat.le_of_ble_eq_true rfl⟩ rfl rfl (hF.at 84 5 88 rfl rfl rfl) ?_
    refine aw_aload_n dX12_joining_28 rfl (by decide) ?_
    refine aw_geti dX12_joining_29 fX12_87 ⟨Nat.le_of_ble_eq_true rfl, Nat.le_of_ble_eq_true rfl⟩ rfl rfl ?_
    refine aw_iload_n dX12_joining_32 rfl ?_
    refine aw_iastv (q := (I 84 4).toNat) dX12_joining_33 ⟨Nat.le_of_ble_eq_true rfl, Nat.le_of_ble_eq_true rfl⟩ rfl (by omega) (by omega) (by decide) rfl ?_
    refine aw_aload_n dX12_joining_34 rfl (by decide) ?_
    refine aw_dup dX12_joining_35 rfl ?_
    refine aw_getiv (v := I 84 4) dX12_joining_36 fX12_87 ⟨Nat.le_of_ble_eq_true rfl, Nat.le_of_ble_eq_true rfl⟩ rfl rfl (ab_u_i (by decide)) ?_
    refine aw_iconst dX12_joining_39 ?_
    refine aw_iadd dX12_joining_40 ?_
    refine aw_puti dX12_joining_41 fX12_87 ⟨Nat.le_of_ble_eq_true rfl, Nat.le_of_ble_eq_true rfl⟩ rfl rfl ?_
    refine aw_aload_n dX12_joining_44 rfl (by decide) ?_
    refine aw_getiv (v := ((I 84 4) + 1)) dX12_joining_45 fX12_87 ⟨Nat.le_of_ble_eq_true rfl, Nat.le_of_ble_eq_true rfl⟩ rfl rfl ab_u_s ?_
    refine aw_ireturn dX12_joining_48 rfl ?_
    exact ⟨rfl, rfl⟩
  · exfalso; omega
set_option maxHeartbeats 4000000 in
set_option maxRecDepth 100000 in
theorem pr_joining (G : ab_G) (I : Nat → Nat → Int) (F : Nat → Nat → Nat) (c : Nat) (h : INV c I F) (hc : c ≤ 600) (a : Int) (ha : ab_In a) : Pair G 2 2 YX11_joining YX12_joining [ab_i a] ab_i c I F := by
  have hr := h.2.1.2.2.2.2.1
  have hI := h.2.2.1.2.2.2.2.1
  by_cases hv9 : (-1 ≤ a ∧ a ≤ 3) ∧ I 11 1 < 24
  · refine (ct_X11_joining G I F h.1 a hv9.1 ⟨hr.1, hv9.2⟩).mono ?_
    rintro _ _ ⟨rfl, rfl⟩
    refine ⟨_, _, _, rfl, rfl, ?_⟩
    have e84 : ab_u (ab_u (ab_u I 65 5 0) 12 (I 11 1).toNat a) 11 1 (I 11 1 + 1) 84 4 = I 11 1 := by rw [ab_u_i (by decide), ab_u_i (by decide), ab_u_i (by decide), hI]
    refine (ct_X12_joining G _ F h.1 a hv9.1 (by rw [e84]; omega)).mono ?_
    rintro _ _ ⟨rfl, rfl⟩
    rw [e84]
    refine ⟨rfl, _, _, rfl, h.town (joining_TB h.2.1 hv9.1 hv9.2) (joining_IVt h.2.2.1 hr.1 hv9.2) ?_ (fun i b q => ?_)⟩
    · rw [ab_u_i (by decide), ab_u_i (by decide), ab_u_i (by decide), ab_u_i (by decide), ab_u_s]
    · rw [ab_u_o (by omega), ab_u_o (by omega), ab_u_o (by omega), ab_u_o (by omega), ab_u_o (by omega)]
  · refine (ct_X11_joining_bad G I F h.1 a ha hr hv9).mono ?_
    rintro _ _ ⟨rfl, rfl⟩
    refine ⟨_, _, _, rfl, rfl, ?_⟩
    refine (ct_X12_joining_bad G I F h.1 a ha (by omega) (by omega)).mono ?_
    rintro _ _ ⟨rfl, rfl⟩
    exact ⟨rfl, _, _, rfl, h.up (by omega)⟩
