theorem amK_congr {w c c' : Nat → Int} : ∀ n, (∀ j, j < n → c j = c' j) → amK w c n = amK w c' n
  | 0, _ => rfl
  | n + 1, h => by rw [amK, amK, amK_congr n (fun j hj => h j (by omega)), h n (by omega)]
theorem rC_congr {wx : Nat → Nat → Int} {m pl : Nat} {kd : Int} : ∀ (e : Nat) (pre : List Nat) (c c' : Nat → Int), (∀ j, j < 4 → c j = c' j) → rC wx m pl kd e pre c = rC wx m pl kd e pre c'
  | 0, _, _, _, _ => rfl
  | e + 1, pre, c, c', h => by
    rw [rC, rC]
    apply smX_congr
    intro y _ _
    have ht : tkL wx y c = tkL wx y c' := amK_congr 4 h
    rw [ht, rC_congr e (pre ++ [y]) (dcK c (tkL wx y c')) (dcK c' (tkL wx y c')) (fun j hj => by unfold dcK; rw [h j hj])]
theorem amK_w {w w' c : Nat → Int} : ∀ n, (∀ k, k < n → w k = w' k) → amK w c n = amK w' c n
  | 0, _ => rfl
  | n + 1, h => by
    rw [amK, amK, amK_w n (fun j hj => h j (by omega)), h n (by omega)]
    rcases amK_bd w' c n with e | ⟨k, e, hk⟩
    · rw [e]; simp
    · rw [e, show ((k : Int)).toNat = k from rfl, h k (by omega)]
theorem rC_wx {wx wx' : Nat → Nat → Int} {m pl : Nat} {kd : Int} (h : ∀ x k, k < 4 → wx x k = wx' x k) : ∀ (e : Nat) (pre : List Nat) (c : Nat → Int), rC wx m pl kd e pre c = rC wx' m pl kd e pre c
  | 0, _, _ => rfl
  | e + 1, pre, c => by
    rw [rC, rC]
    apply smX_congr
    intro y _ _
    have ht : tkL wx y c = tkL wx' y c := amK_w 4 (fun k hk => h y k hk)
    rw [ht, rC_wx h e (pre ++ [y])]
set_option maxHeartbeats 4000000 in
set_option maxRecDepth 100000 in
theorem ct_X11_lot_bad (G : ab_G) (I : Nat → Nat → Int) (F : Nat → Nat → Nat) (hF : ab_FB F) (a : Int) (ha : ab_In a) (hs9 : Int) (hhs9 : ab_In hs9) (b : Int) (hb : ab_In b) (kd : Int) (hkd : ab_In kd) (wc : Int) (hwc : ab_In wc) (hr : 0 ≤ I 23 2 ∧ I 23 2 ≤ 12) (mm : Int) (hmm : mm = if 6 < I 23 2 then 6 else I 23 2) (hbad : ¬ (((0 ≤ a ∧ a ≤ mm - 1) ∧ (-1 ≤ kd ∧ kd ≤ 3)) ∧ (1 ≤ b ∧ b ≤ 4) ∧ (0 ≤ wc ∧ wc ≤ 1))) : Ct G 10 0 0 YX11_lot [ab_r 1, ab_i a, ab_i hs9, ab_i b, ab_i kd, ab_i wc] (104, I, F) (fun r h => r = some (ab_i (if (0 ≤ a ∧ a ≤ mm - 1) ∧ (-1 ≤ kd ∧ kd ≤ 3) then -3 else -2)) ∧ h = (104, I, F)) := by
  refine Ct.ofW kX11_lot (ls := [some (ab_r 1), some (ab_i a), some (ab_i hs9), some (ab_i b), some (ab_i kd), some (ab_i wc), none]) (Nat.le_of_ble_eq_true rfl) rfl ?_
  have hmb : 0 ≤ mm ∧ mm ≤ 6 := by rw [hmm]; split <;> omega
  refine aw_aload_n dX11_lot_0 rfl (by decide) ?_
  refine aw_getrv (r := 23) dX11_lot_1 fX11_38 ⟨Nat.le_of_ble_eq_true rfl, Nat.le_of_ble_eq_true rfl⟩ rfl rfl (hF.at 1 4 23 rfl rfl rfl) ?_
  refine aw_geti dX11_lot_4 fX11_125 ⟨Nat.le_of_ble_eq_true rfl, Nat.le_of_ble_eq_true rfl⟩ rfl rfl ?_
  refine aw_bipush dX11_lot_7 rfl ?_
  refine aw_mmin dX11_lot_9 lX11_227 (by first | assumption | (unfold ab_In at *; omega)) (by first | assumption | (unfold ab_In at *; omega)) (Nat.le_of_ble_eq_true rfl) (by decide) (by decide) (by decide) (by decide) ?_
  refine aw_to (z := mm) (by rw [hmm]) ?_
  refine aw_istore (ls' := [some (ab_r 1), some (ab_i a), some (ab_i hs9), some (ab_i b), some (ab_i kd), some (ab_i wc), some (ab_i mm)]) dX11_lot_12 (by decide) rfl ?_
  refine aw_iload_n dX11_lot_14 rfl ?_
  refine aw_iconst dX11_lot_15 ?_
  refine aw_iload dX11_lot_16 rfl ?_
  refine aw_iconst dX11_lot_18 ?_
  refine aw_isub dX11_lot_19 ?_
  refine aw_callS (as := [ab_i a, ab_i 0, ab_i (mm - 1)]) (rest := []) dX11_lot_20 (ct_X11_within G (104, I, F) a 0 (mm - 1) (by first | assumption | (unfold ab_In at *; omega)) (by first | assumption | (unfold ab_In at *; omega)) (by first | assumption | (unfold ab_In at *; omega))) kX11_within sX11_within lX11_89 rfl (Nat.le_of_ble_eq_true rfl) (by decide) (by decide) (by decide) (by decide) ?_
  rintro r9 _ ⟨e9, rfl⟩
  by_cases q1 : 0 ≤ a ∧ a ≤ (mm - 1)
  · rw [if_pos q1] at e9
    subst e9
    refine aw_if_eq (tgt := 40) dX11_lot_23 rfl ⟨by decide, by decide⟩ (fun c9 => absurd c9 (by decide)) (fun _ => ?_)
    refine aw_iload dX11_lot_26 rfl ?_
    refine aw_iconst dX11_lot_28 ?_
    refine aw_icmp_eq (tgt := 43) dX11_lot_29 rfl (by first | assumption | (unfold ab_In at *; omega)) (by first | assumption | (unfold ab_In at *; omega)) (fun c_29 => ?_) (fun c_29 => ?_)
    · refine aw_iload_n dX11_lot_43 rfl ?_
      refine aw_iconst dX11_lot_44 ?_
      refine aw_iconst dX11_lot_45 ?_
      refine aw_callS (as := [ab_i b, ab_i 1, ab_i 4]) (rest := []) dX11_lot_46 (ct_X11_within G (104, I, F) b 1 4 (by first | assumption | (unfold ab_In at *; omega)) (by first | assumption | (unfold ab_In at *; omega)) (by first | assumption | (unfold ab_In at *; omega))) kX11_within sX11_within lX11_89 rfl (Nat.le_of_ble_eq_true rfl) (by decide) (by decide) (by decide) (by decide) ?_
      rintro r9 _ ⟨e9, rfl⟩
      by_cases q3 : 1 ≤ b ∧ b ≤ 4
      · rw [if_pos q3] at e9
        subst e9
        refine aw_if_eq (tgt := 62) dX11_lot_49 rfl ⟨by decide, by decide⟩ (fun c9 => absurd c9 (by decide)) (fun _ => ?_)
        refine aw_iload dX11_lot_52 rfl ?_
        refine aw_iconst dX11_lot_54 ?_
        refine aw_iconst dX11_lot_55 ?_
        refine aw_callS (as := [ab_i wc, ab_i 0, ab_i 1]) (rest := []) dX11_lot_56 (ct_X11_within G (104, I, F) wc 0 1 (by first | assumption | (unfold ab_In at *; omega)) (by first | assumption | (unfold ab_In at *; omega)) (by first | assumption | (unfold ab_In at *; omega))) kX11_within sX11_within lX11_89 rfl (Nat.le_of_ble_eq_true rfl) (by decide) (by decide) (by decide) (by decide) ?_
        rintro r9 _ ⟨e9, rfl⟩
        by_cases q4 : 0 ≤ wc ∧ wc ≤ 1
        · rw [if_pos q4] at e9
          subst e9
          refine aw_if_ne (tgt := 65) dX11_lot_59 rfl ⟨by decide, by decide⟩ (fun _ => ?_) (fun c9 => absurd c9 (by decide))
          exfalso; omega
        · rw [if_neg q4] at e9
          subst e9
          refine aw_if_ne (tgt := 65) dX11_lot_59 rfl ⟨by decide, by decide⟩ (fun c9 => absurd rfl c9) (fun _ => ?_)
          refine aw_bipush dX11_lot_62 rfl ?_
          refine aw_ireturn dX11_lot_64 rfl ?_
          exact ⟨by first | rw [if_pos (by omega)] | rw [if_neg (by omega)] | rfl, rfl⟩
      · rw [if_neg q3] at e9
        subst e9
        refine aw_if_eq (tgt := 62) dX11_lot_49 rfl ⟨by decide, by decide⟩ (fun _ => ?_) (fun c9 => absurd (by decide) c9)
        refine aw_bipush dX11_lot_62 rfl ?_
        refine aw_ireturn dX11_lot_64 rfl ?_
        exact ⟨by first | rw [if_pos (by omega)] | rw [if_neg (by omega)] | rfl, rfl⟩
    · refine aw_iload dX11_lot_32 rfl ?_
      refine aw_callS (as := [ab_i kd]) (rest := []) dX11_lot_34 (ct_X11_isKind G (104, I, F) kd (by first | assumption | (unfold ab_In at *; omega))) kX11_isKind sX11_isKind lX11_86 rfl (Nat.le_of_ble_eq_true rfl) (by decide) (by decide) (by decide) (by decide) ?_
      rintro r9 _ ⟨e9, rfl⟩
      by_cases q2 : 0 ≤ kd ∧ kd ≤ 3
      · rw [if_pos q2] at e9
        subst e9
        refine aw_if_ne (tgt := 43) dX11_lot_37 rfl ⟨by decide, by decide⟩ (fun _ => ?_) (fun c9 => absurd c9 (by decide))
        refine aw_iload_n dX11_lot_43 rfl ?_
        refine aw_iconst dX11_lot_44 ?_
        refine aw_iconst dX11_lot_45 ?_
        refine aw_callS (as := [ab_i b, ab_i 1, ab_i 4]) (rest := []) dX11_lot_46 (ct_X11_within G (104, I, F) b 1 4 (by first | assumption | (unfold ab_In at *; omega)) (by first | assumption | (unfold ab_In at *; omega)) (by first | assumption | (unfold ab_In at *; omega))) kX11_within sX11_within lX11_89 rfl (Nat.le_of_ble_eq_true rfl) (by decide) (by decide) (by decide) (by decide) ?_
        rintro r9 _ ⟨e9, rfl⟩
        by_cases q3 : 1 ≤ b ∧ b ≤ 4
        · rw [if_pos q3] at e9
          subst e9
          refine aw_if_eq (tgt := 62) dX11_lot_49 rfl ⟨by decide, by decide⟩ (fun c9 => absurd c9 (by decide)) (fun _ => ?_)
          refine aw_iload dX11_lot_52 rfl ?_
          refine aw_iconst dX11_lot_54 ?_
          refine aw_iconst dX11_lot_55 ?_
          refine aw_callS (as := [ab_i wc, ab_i 0, ab_i 1]) (rest := []) dX11_lot_56 (ct_X11_within G (104, I, F) wc 0 1 (by first | assumption | (unfold ab_In at *; omega)) (by first | assumption | (unfold ab_In at *; omega)) (by first | assumption | (unfold ab_In at *; omega))) kX11_within sX11_within lX11_89 rfl (Nat.le_of_ble_eq_true rfl) (by decide) (by decide) (by decide) (by decide) ?_
          rintro r9 _ ⟨e9, rfl⟩
          by_cases q4 : 0 ≤ wc ∧ wc ≤ 1
          · rw [if_pos q4] at e9
            subst e9
            refine aw_if_ne (tgt := 65) dX11_lot_59 rfl ⟨by decide, by decide⟩ (fun _ => ?_) (fun c9 => absurd c9 (by decide))
            exfalso; omega
          · rw [if_neg q4] at e9
            subst e9
            refine aw_if_ne (tgt := 65) dX11_lot_59 rfl ⟨by decide, by decide⟩ (fun c9 => absurd rfl c9) (fun _ => ?_)
            refine aw_bipush dX11_lot_62 rfl ?_
            refine aw_ireturn dX11_lot_64 rfl ?_
            exact ⟨by first | rw [if_pos (by omega)] | rw [if_neg (by omega)] | rfl, rfl⟩
        · rw [if_neg q3] at e9
          subst e9
          refine aw_if_eq (tgt := 62) dX11_lot_49 rfl ⟨by decide, by decide⟩ (fun _ => ?_) (fun c9 => absurd (by decide) c9)
          refine aw_bipush dX11_lot_62 rfl ?_
          refine aw_ireturn dX11_lot_64 rfl ?_
          exact ⟨by first | rw [if_pos (by omega)] | rw [if_neg (by omega)] | rfl, rfl⟩
      · rw [if_neg q2] at e9
        subst e9
        refine aw_if_ne (tgt := 43) dX11_lot_37 rfl ⟨by decide, by decide⟩ (fun c9 => absurd rfl c9) (fun _ => ?_)
        refine aw_bipush dX11_lot_40 rfl ?_
        refine aw_ireturn dX11_lot_42 rfl ?_
        exact ⟨by first | rw [if_pos (by omega)] | rw [if_neg (by omega)] | rfl, rfl⟩
  · rw [if_neg q1] at e9
    subst e9
    refine aw_if_eq (tgt := 40) dX11_lot_23 rfl ⟨by decide, by decide⟩ (fun _ => ?_) (fun c9 => absurd (by decide) c9)
    refine aw_bipush dX11_lot_40 rfl ?_
    refine aw_ireturn dX11_lot_42 rfl ?_
    exact ⟨by first | rw [if_pos (by omega)] | rw [if_neg (by omega)] | rfl, rfl⟩
set_option maxHeartbeats 4000000 in
set_option maxRecDepth 100000 in
theorem ct_X12_lot_bad (G : ab_G) (I : Nat → Nat → Int) (F : Nat → Nat → Nat) (hF : ab_FB F) (a : Int) (ha : ab_In a) (hs9 : Int) (hhs9 : ab_In hs9) (b : Int) (hb : ab_In b) (kd : Int) (hkd : ab_In kd) (wc : Int) (hwc : ab_In wc) (hr : 0 ≤ I 89 84 ∧ I 89 84 ≤ 12) (mm : Int) (hmm : mm = if 6 < I 89 84 then 6 else I 89 84) (hbad : ¬ (((0 ≤ a ∧ a ≤ mm - 1) ∧ (-1 ≤ kd ∧ kd ≤ 3)) ∧ (1 ≤ b ∧ b ≤ 4) ∧ (0 ≤ wc ∧ wc ≤ 1))) : Ct G 2 0 0 YX12_lot [ab_r 84, ab_i a, ab_i hs9, ab_i b, ab_i kd, ab_i wc] (104, I, F) (fun r h => r = some (ab_i (if (0 ≤ a ∧ a ≤ mm - 1) ∧ (-1 ≤ kd ∧ kd ≤ 3) then -3 else -2)) ∧ h = (104, I, F)) := by
  refine Ct.ofW kX12_lot (ls := [some (ab_r 84), some (ab_i a), some (ab_i hs9), some (ab_i b), some (ab_i kd), some (ab_i wc), none, none, none, none, none, none, none, none]) (Nat.le_of_ble_eq_true rfl) rfl ?_
  have hmb : 0 ≤ mm ∧ mm ≤ 6 := by rw [hmm]; split <;> omega
  refine aw_aload_n dX12_lot_0 rfl (by decide) ?_
  refine aw_getrv (r := 89) dX12_lot_1 fX12_22 ⟨Nat.le_of_ble_eq_true rfl, Nat.le_of_ble_eq_true rfl⟩ rfl rfl (hF.at 84 6 89 rfl rfl rfl) ?_
  refine aw_bipush dX12_lot_4 rfl ?_
  refine aw_ialdq (q := 84) (v := I 89 84) dX12_lot_6 ⟨Nat.le_of_ble_eq_true rfl, Nat.le_of_ble_eq_true rfl⟩ rfl (by omega) (by omega) (by decide) rfl rfl ?_
  refine aw_bipush dX12_lot_7 rfl ?_
  refine aw_icmp_le (tgt := 17) dX12_lot_9 rfl (by first | assumption | (unfold ab_In at *; omega)) (by first | assumption | (unfold ab_In at *; omega)) (fun c_9 => ?_) (fun c_9 => ?_)
  · refine aw_aload_n dX12_lot_17 rfl (by decide) ?_
    refine aw_getrv (r := 89) dX12_lot_18 fX12_22 ⟨Nat.le_of_ble_eq_true rfl, Nat.le_of_ble_eq_true rfl⟩ rfl rfl (hF.at 84 6 89 rfl rfl rfl) ?_
    refine aw_bipush dX12_lot_21 rfl ?_
    refine aw_ialdq (q := 84) (v := I 89 84) dX12_lot_23 ⟨Nat.le_of_ble_eq_true rfl, Nat.le_of_ble_eq_true rfl⟩ rfl (by omega) (by omega) (by decide) rfl rfl ?_
    refine aw_to (z := mm) (by rw [hmm]; first | rw [if_pos (by omega)] | rw [if_neg (by omega)]) ?_
    refine aw_istore (ls' := [some (ab_r 84), some (ab_i a), some (ab_i hs9), some (ab_i b), some (ab_i kd), some (ab_i wc), some (ab_i mm), none, none, none, none, none, none, none]) dX12_lot_24 (by decide) rfl ?_
    refine aw_iload_n dX12_lot_26 rfl ?_
    refine aw_iconst dX12_lot_27 ?_
    refine aw_iload dX12_lot_28 rfl ?_
    refine aw_iconst dX12_lot_30 ?_
    refine aw_isub dX12_lot_31 ?_
    refine aw_callS (as := [ab_i a, ab_i 0, ab_i (mm - 1)]) (rest := []) dX12_lot_32 (ct_X12_in G (104, I, F) a 0 (mm - 1) (by first | assumption | (unfold ab_In at *; omega)) (by first | assumption | (unfold ab_In at *; omega)) (by first | assumption | (unfold ab_In at *; omega))) kX12_in sX12_in lX12_75 rfl (Nat.le_of_ble_eq_true rfl) (by decide) (by decide) (by decide) (by decide) ?_
    rintro r9 _ ⟨e9, rfl⟩
    by_cases q1 : 0 ≤ a ∧ a ≤ (mm - 1)
    · rw [if_pos q1] at e9
      subst e9
      refine aw_if_eq (tgt := 48) dX12_lot_35 rfl ⟨by decide, by decide⟩ (fun c9 => absurd c9 (by decide)) (fun _ => ?_)
      refine aw_iload dX12_lot_38 rfl ?_
      refine aw_iconst dX12_lot_40 ?_
      refine aw_iconst dX12_lot_41 ?_
      refine aw_callS (as := [ab_i kd, ab_i (-1), ab_i 3]) (rest := []) dX12_lot_42 (ct_X12_in G (104, I, F) kd (-1) 3 (by first | assumption | (unfold ab_In at *; omega)) (by first | assumption | (unfold ab_In at *; omega)) (by first | assumption | (unfold ab_In at *; omega))) kX12_in sX12_in lX12_75 rfl (Nat.le_of_ble_eq_true rfl) (by decide) (by decide) (by decide) (by decide) ?_
      rintro r9 _ ⟨e9, rfl⟩
      by_cases q2 : (-1) ≤ kd ∧ kd ≤ 3
      · rw [if_pos q2] at e9
        subst e9
        refine aw_if_ne (tgt := 51) dX12_lot_45 rfl ⟨by decide, by decide⟩ (fun _ => ?_) (fun c9 => absurd c9 (by decide))
        refine aw_iload_n dX12_lot_51 rfl ?_
        refine aw_iconst dX12_lot_52 ?_
        refine aw_iconst dX12_lot_53 ?_
        refine aw_callS (as := [ab_i b, ab_i 1, ab_i 4]) (rest := []) dX12_lot_54 (ct_X12_in G (104, I, F) b 1 4 (by first | assumption | (unfold ab_In at *; omega)) (by first | assumption | (unfold ab_In at *; omega)) (by first | assumption | (unfold ab_In at *; omega))) kX12_in sX12_in lX12_75 rfl (Nat.le_of_ble_eq_true rfl) (by decide) (by decide) (by decide) (by decide) ?_
        rintro r9 _ ⟨e9, rfl⟩
        by_cases q3 : 1 ≤ b ∧ b ≤ 4
        · rw [if_pos q3] at e9
          subst e9
          refine aw_if_eq (tgt := 70) dX12_lot_57 rfl ⟨by decide, by decide⟩ (fun c9 => absurd c9 (by decide)) (fun _ => ?_)
          refine aw_iload dX12_lot_60 rfl ?_
          refine aw_iconst dX12_lot_62 ?_
          refine aw_iconst dX12_lot_63 ?_
          refine aw_callS (as := [ab_i wc, ab_i 0, ab_i 1]) (rest := []) dX12_lot_64 (ct_X12_in G (104, I, F) wc 0 1 (by first | assumption | (unfold ab_In at *; omega)) (by first | assumption | (unfold ab_In at *; omega)) (by first | assumption | (unfold ab_In at *; omega))) kX12_in sX12_in lX12_75 rfl (Nat.le_of_ble_eq_true rfl) (by decide) (by decide) (by decide) (by decide) ?_
          rintro r9 _ ⟨e9, rfl⟩
          by_cases q4 : 0 ≤ wc ∧ wc ≤ 1
          · rw [if_pos q4] at e9
            subst e9
            refine aw_if_ne (tgt := 73) dX12_lot_67 rfl ⟨by decide, by decide⟩ (fun _ => ?_) (fun c9 => absurd c9 (by decide))
            exfalso; omega
          · rw [if_neg q4] at e9
            subst e9
            refine aw_if_ne (tgt := 73) dX12_lot_67 rfl ⟨by decide, by decide⟩ (fun c9 => absurd rfl c9) (fun _ => ?_)
            refine aw_bipush dX12_lot_70 rfl ?_
            refine aw_ireturn dX12_lot_72 rfl ?_
            exact ⟨by first | rw [if_pos (by omega)] | rw [if_neg (by omega)] | rfl, rfl⟩
        · rw [if_neg q3] at e9
          subst e9
          refine aw_if_eq (tgt := 70) dX12_lot_57 rfl ⟨by decide, by decide⟩ (fun _ => ?_) (fun c9 => absurd (by decide) c9)
          refine aw_bipush dX12_lot_70 rfl ?_
          refine aw_ireturn dX12_lot_72 rfl ?_
          exact ⟨by first | rw [if_pos (by omega)] | rw [if_neg (by omega)] | rfl, rfl⟩
      · rw [if_neg q2] at e9
        subst e9
        refine aw_if_ne (tgt := 51) dX12_lot_45 rfl ⟨by decide, by decide⟩ (fun c9 => absurd rfl c9) (fun _ => ?_)
        refine aw_bipush dX12_lot_48 rfl ?_
        refine aw_ireturn dX12_lot_50 rfl ?_
        exact ⟨by first | rw [if_pos (by omega)] | rw [if_neg (by omega)] | rfl, rfl⟩
    · rw [if_neg q1] at e9
      subst e9
      refine aw_if_eq (tgt := 48) dX12_lot_35 rfl ⟨by decide, by decide⟩ (fun _ => ?_) (fun c9 => absurd (by decide) c9)
      refine aw_bipush dX12_lot_48 rfl ?_
      refine aw_ireturn dX12_lot_50 rfl ?_
      exact ⟨by first | rw [if_pos (by omega)] | rw [if_neg (by omega)] | rfl, rfl⟩
  · refine aw_bipush dX12_lot_12 rfl ?_
    refine aw_goto (tgt := 24) dX12_lot_14 rfl ?_
    refine aw_to (z := mm) (by rw [hmm]; first | rw [if_pos (by omega)] | rw [if_neg (by omega)]) ?_
    refine aw_istore (ls' := [some (ab_r 84), some (ab_i a), some (ab_i hs9), some (ab_i b), some (ab_i kd), some (ab_i wc), some (ab_i mm), none, none, none, none, none, none, none]) dX12_lot_24 (by decide) rfl ?_
    refine aw_iload_n dX12_lot_26 rfl ?_
    refine aw_iconst dX12_lot_27 ?_
    refine aw_iload dX12_lot_28 rfl ?_
    refine aw_iconst dX12_lot_30 ?_
    refine aw_isub dX12_lot_31 ?_
    refine aw_callS (as := [ab_i a, ab_i 0, ab_i (mm - 1)]) (rest := []) dX12_lot_32 (ct_X12_in G (104, I, F) a 0 (mm - 1) (by first | assumption | (unfold ab_In at *; omega)) (by first | assumption | (unfold ab_In at *; omega)) (by first | assumption | (unfold ab_In at *; omega))) kX12_in sX12_in lX12_75 rfl (Nat.le_of_ble_eq_true rfl) (by decide) (by decide) (by decide) (by decide) ?_
    rintro r9 _ ⟨e9, rfl⟩
    by_cases q1 : 0 ≤ a ∧ a ≤ (mm - 1)
    · rw [if_pos q1] at e9
      subst e9
      refine aw_if_eq (tgt := 48) dX12_lot_35 rfl ⟨by decide, by decide⟩ (fun c9 => absurd c9 (by decide)) (fun _ => ?_)
      refine aw_iload dX12_lot_38 rfl ?_
      refine aw_iconst dX12_lot_40 ?_
      refine aw_iconst dX12_lot_41 ?_
      refine aw_callS (as := [ab_i kd, ab_i (-1), ab_i 3]) (rest := []) dX12_lot_42 (ct_X12_in G (104, I, F) kd (-1) 3 (by first | assumption | (unfold ab_In at *; omega)) (by first | assumption | (unfold ab_In at *; omega)) (by first | assumption | (unfold ab_In at *; omega))) kX12_in sX12_in lX12_75 rfl (Nat.le_of_ble_eq_true rfl) (by decide) (by decide) (by decide) (by decide) ?_
      rintro r9 _ ⟨e9, rfl⟩
      by_cases q2 : (-1) ≤ kd ∧ kd ≤ 3
      · rw [if_pos q2] at e9
        subst e9
        refine aw_if_ne (tgt := 51) dX12_lot_45 rfl ⟨by decide, by decide⟩ (fun _ => ?_) (fun c9 => absurd c9 (by decide))
        refine aw_iload_n dX12_lot_51 rfl ?_
        refine aw_iconst dX12_lot_52 ?_
        refine aw_iconst dX12_lot_53 ?_
        refine aw_callS (as := [ab_i b, ab_i 1, ab_i 4]) (rest := []) dX12_lot_54 (ct_X12_in G (104, I, F) b 1 4 (by first | assumption | (unfold ab_In at *; omega)) (by first | assumption | (unfold ab_In at *; omega)) (by first | assumption | (unfold ab_In at *; omega))) kX12_in sX12_in lX12_75 rfl (Nat.le_of_ble_eq_true rfl) (by decide) (by decide) (by decide) (by decide) ?_
        rintro r9 _ ⟨e9, rfl⟩
        by_cases q3 : 1 ≤ b ∧ b ≤ 4
        · rw [if_pos q3] at e9
          subst e9
          refine aw_if_eq (tgt := 70) dX12_lot_57 rfl ⟨by decide, by decide⟩ (fun c9 => absurd c9 (by decide)) (fun _ => ?_)
          refine aw_iload dX12_lot_60 rfl ?_
          refine aw_iconst dX12_lot_62 ?_
          refine aw_iconst dX12_lot_63 ?_
          refine aw_callS (as := [ab_i wc, ab_i 0, ab_i 1]) (rest := []) dX12_lot_64 (ct_X12_in G (104, I, F) wc 0 1 (by first | assumption | (unfold ab_In at *; omega)) (by first | assumption | (unfold ab_In at *; omega)) (by first | assumption | (unfold ab_In at *; omega))) kX12_in sX12_in lX12_75 rfl (Nat.le_of_ble_eq_true rfl) (by decide) (by decide) (by decide) (by decide) ?_
          rintro r9 _ ⟨e9, rfl⟩
          by_cases q4 : 0 ≤ wc ∧ wc ≤ 1
          · rw [if_pos q4] at e9
            subst e9
            refine aw_if_ne (tgt := 73) dX12_lot_67 rfl ⟨by decide, by decide⟩ (fun _ => ?_) (fun c9 => absurd c9 (by decide))
            exfalso; omega
          · rw [if_neg q4] at e9
            subst e9
            refine aw_if_ne (tgt := 73) dX12_lot_67 rfl ⟨by decide, by decide⟩ (fun c9 => absurd rfl c9) (fun _ => ?_)
            refine aw_bipush dX12_lot_70 rfl ?_
            refine aw_ireturn dX12_lot_72 rfl ?_
            exact ⟨by first | rw [if_pos (by omega)] | rw [if_neg (by omega)] | rfl, rfl⟩
        · rw [if_neg q3] at e9
          subst e9
          refine aw_if_eq (tgt := 70) dX12_lot_57 rfl ⟨by decide, by decide⟩ (fun _ => ?_) (fun c9 => absurd (by decide) c9)
          refine aw_bipush dX12_lot_70 rfl ?_
          refine aw_ireturn dX12_lot_72 rfl ?_
          exact ⟨by first | rw [if_pos (by omega)] | rw [if_neg (by omega)] | rfl, rfl⟩
      · rw [if_neg q2] at e9
        subst e9
        refine aw_if_ne (tgt := 51) dX12_lot_45 rfl ⟨by decide, by decide⟩ (fun c9 => absurd rfl c9) (fun _ => ?_)
        refine aw_bipush dX12_lot_48 rfl ?_
        refine aw_ireturn dX12_lot_50 rfl ?_
        exact ⟨by first | rw [if_pos (by omega)] | rw [if_neg (by omega)] | rfl, rfl⟩
    · rw [if_neg q1] at e9
      subst e9
      refine aw_if_eq (tgt := 48) dX12_lot_35 rfl ⟨by decide, by decide⟩ (fun _ => ?_) (fun c9 => absurd (by decide) c9)
      refine aw_bipush dX12_lot_48 rfl ?_
      refine aw_ireturn dX12_lot_50 rfl ?_
      exact ⟨by first | rw [if_pos (by omega)] | rw [if_neg (by omega)] | rfl, rfl⟩
set_option maxHeartbeats 4000000 in
set_option maxRecDepth 100000 in
theorem ct_X11_lot (G : ab_G) (I : Nat → Nat → Int) (F : Nat → Nat → Nat) (hF : ab_FB F) (N m pl n : Nat) (hb : ∀ p, 32 ≤ p → p ≤ 43 → PB 6000 100000 (tup I p)) (hn9 : ∀ s, s < 4 → 1 ≤ I 8 s ∧ I 8 s ≤ 9) (ho : ab_In (I 13 0)) (hN : I 23 2 = N) (hN12 : N ≤ 12) (hP : ∀ j, j < 12 → 32 ≤ F 24 j ∧ F 24 j ≤ 43) (hmN : (m : Int) = if 6 < (N : Int) then 6 else (N : Int)) (hpl : pl < m) (hn1 : 1 ≤ n) (hn4 : n ≤ 4) (hs9 kd wc : Int) (hkd : -1 ≤ kd ∧ kd ≤ 3) (hwc : 0 ≤ wc ∧ wc ≤ 1) (sr : Nat → Nat) (hsr : ∀ x, sr x < 4) (hsx : ∀ x, x < m → I ((rw_ F 24 (sd (fun a b => ah (I 13 0) (n4 (I 8)) (tup I a) (tup I b)) (F 24) N)) 24 x) 0 = (sr x : Int)) (hw : ∀ s k, s < 4 → k < 4 → 0 ≤ I (4 + s) k ∧ I (4 + s) k ≤ 99) : Ct G 10 0 0 YX11_lot [ab_r 1, ab_i (pl : Int), ab_i hs9, ab_i (n : Int), ab_i kd, ab_i wc] (104, I, F) (fun r h => r = some (ab_i (ab_l2i (((if wc = 0 then rC (fun x k => I (4 + sr x) k) m pl kd m [] (cK (hkL hs9) n) else fct m) / Nat.gcd (rC (fun x k => I (4 + sr x) k) m pl kd m [] (cK (hkL hs9) n)) (fct m) : Nat) : Int))) ∧ ∃ J : Nat → Nat → Int, h = (104, J, (rw_ F 24 (sd (fun a b => ah (I 13 0) (n4 (I 8)) (tup I a) (tup I b)) (F 24) N))) ∧ ∀ i b, ¬ (i = 73 ∧ b = 2) → i ≠ 74 → i ≠ 75 → J i b = I i b) := by
  refine Ct.ofW kX11_lot (ls := [some (ab_r 1), some (ab_i (pl : Int)), some (ab_i hs9), some (ab_i (n : Int)), some (ab_i kd), some (ab_i wc), none]) (Nat.le_of_ble_eq_true rfl) rfl ?_
  have hm6 : m ≤ 6 := by split at hmN <;> omega
  have hmle : m ≤ N := by split at hmN <;> omega
  have hfm := (fct_fac ⟨m, by omega⟩).2
  simp only [] at hfm
  have hfac : ab_fac ((m : Int)).toNat = (fct m : Int) := (fct_fac ⟨m, by omega⟩).1
  have hF2 : ab_FB (rw_ F 24 (sd (fun a b => ah (I 13 0) (n4 (I 8)) (tup I a) (tup I b)) (F 24) N)) := hF.rw 24 _ (Or.inl rfl)
  have hP2 : ∀ j, j < 12 → 32 ≤ (rw_ F 24 (sd (fun a b => ah (I 13 0) (n4 (I 8)) (tup I a) (tup I b)) (F 24) N)) 24 j ∧ (rw_ F 24 (sd (fun a b => ah (I 13 0) (n4 (I 8)) (tup I a) (tup I b)) (F 24) N)) 24 j ≤ 43 := fun j hj => by rw [rw_s]; exact sd_all _ (fun x => 32 ≤ x ∧ x ≤ 43) hP N hN12 j hj
  refine aw_aload_n dX11_lot_0 rfl (by decide) ?_
  refine aw_getrv (r := 23) dX11_lot_1 fX11_38 ⟨Nat.le_of_ble_eq_true rfl, Nat.le_of_ble_eq_true rfl⟩ rfl rfl (by first | exact (hF.at 1 4 23 rfl rfl rfl) | exact (hF2.at 1 4 23 rfl rfl rfl)) ?_
  refine aw_getiv (v := (N : Int)) dX11_lot_4 fX11_125 ⟨Nat.le_of_ble_eq_true rfl, Nat.le_of_ble_eq_true rfl⟩ rfl rfl hN ?_
  refine aw_bipush dX11_lot_7 rfl ?_
  refine aw_mmin dX11_lot_9 lX11_227 (by first | assumption | (unfold ab_In at *; omega)) (by first | assumption | (unfold ab_In at *; omega)) (Nat.le_of_ble_eq_true rfl) (by decide) (by decide) (by decide) (by decide) ?_
  refine aw_to (z := (m : Int)) (by rw [hmN]) ?_
  refine aw_istore (ls' := [some (ab_r 1), some (ab_i (pl : Int)), some (ab_i hs9), some (ab_i (n : Int)), some (ab_i kd), some (ab_i wc), some (ab_i (m : Int))]) dX11_lot_12 (by decide) rfl ?_
  refine aw_iload_n dX11_lot_14 rfl ?_
  refine aw_iconst dX11_lot_15 ?_
  refine aw_iload dX11_lot_16 rfl ?_
  refine aw_iconst dX11_lot_18 ?_
  refine aw_isub dX11_lot_19 ?_
  refine aw_callS (as := [ab_i (pl : Int), ab_i 0, ab_i ((m : Int) - 1)]) (rest := []) dX11_lot_20 (ct_X11_within G (104, I, F) (pl : Int) 0 ((m : Int) - 1) (by first | assumption | (unfold ab_In at *; omega)) (by first | assumption | (unfold ab_In at *; omega)) (by first | assumption | (unfold ab_In at *; omega))) kX11_within sX11_within lX11_89 rfl (Nat.le_of_ble_eq_true rfl) (by decide) (by decide) (by decide) (by decide) ?_
  rintro r9 _ ⟨e9, rfl⟩
  rw [if_pos (by omega)] at e9
  subst e9
  refine aw_if_eq (tgt := 40) dX11_lot_23 rfl ⟨by decide, by decide⟩ (fun c9 => absurd c9 (by decide)) (fun _ => ?_)
  refine aw_iload dX11_lot_26 rfl ?_
  refine aw_iconst dX11_lot_28 ?_
  refine aw_icmp_eq (tgt := 43) dX11_lot_29 rfl (by first | assumption | (unfold ab_In at *; omega)) (by first | assumption | (unfold ab_In at *; omega)) (fun c_29 => ?_) (fun c_29 => ?_)
  · refine aw_iload_n dX11_lot_43 rfl ?_
    refine aw_iconst dX11_lot_44 ?_
    refine aw_iconst dX11_lot_45 ?_
    refine aw_callS (as := [ab_i (n : Int), ab_i 1, ab_i 4]) (rest := []) dX11_lot_46 (ct_X11_within G (104, I, F) (n : Int) 1 4 (by first | assumption | (unfold ab_In at *; omega)) (by first | assumption | (unfold ab_In at *; omega)) (by first | assumption | (unfold ab_In at *; omega))) kX11_within sX11_within lX11_89 rfl (Nat.le_of_ble_eq_true rfl) (by decide) (by decide) (by decide) (by decide) ?_
    rintro r9 _ ⟨e9, rfl⟩
    rw [if_pos (by omega)] at e9
    subst e9
    refine aw_if_eq (tgt := 62) dX11_lot_49 rfl ⟨by decide, by decide⟩ (fun c9 => absurd c9 (by decide)) (fun _ => ?_)
    refine aw_iload dX11_lot_52 rfl ?_
    refine aw_iconst dX11_lot_54 ?_
    refine aw_iconst dX11_lot_55 ?_
    refine aw_callS (as := [ab_i wc, ab_i 0, ab_i 1]) (rest := []) dX11_lot_56 (ct_X11_within G (104, I, F) wc 0 1 (by first | assumption | (unfold ab_In at *; omega)) (by first | assumption | (unfold ab_In at *; omega)) (by first | assumption | (unfold ab_In at *; omega))) kX11_within sX11_within lX11_89 rfl (Nat.le_of_ble_eq_true rfl) (by decide) (by decide) (by decide) (by decide) ?_
    rintro r9 _ ⟨e9, rfl⟩
    rw [if_pos (by omega)] at e9
    subst e9
    refine aw_if_ne (tgt := 65) dX11_lot_59 rfl ⟨by decide, by decide⟩ (fun _ => ?_) (fun c9 => absurd c9 (by decide))
    refine aw_aload_n dX11_lot_65 rfl (by decide) ?_
    refine aw_getrv (r := 23) dX11_lot_66 fX11_38 ⟨Nat.le_of_ble_eq_true rfl, Nat.le_of_ble_eq_true rfl⟩ rfl rfl (by first | exact (hF.at 1 4 23 rfl rfl rfl) | exact (hF2.at 1 4 23 rfl rfl rfl)) ?_
    refine aw_aload_n dX11_lot_69 rfl (by decide) ?_
    refine aw_getrv (r := 13) dX11_lot_70 fX11_19 ⟨Nat.le_of_ble_eq_true rfl, Nat.le_of_ble_eq_true rfl⟩ rfl rfl (by first | exact (hF.at 1 1 13 rfl rfl rfl) | exact (hF2.at 1 1 13 rfl rfl rfl)) ?_
    refine aw_geti dX11_lot_73 fX11_136 ⟨Nat.le_of_ble_eq_true rfl, Nat.le_of_ble_eq_true rfl⟩ rfl rfl ?_
    refine aw_callV (as := [ab_i (I 13 0)]) (rest := []) dX11_lot_76 (ct_X1_stand_23 G I F hF 6000 100000 hb (by omega) (by omega) hn9 (I 13 0) ho N hN hN12 hP) ⟨Nat.le_of_ble_eq_true rfl, Nat.le_of_ble_eq_true rfl⟩ rfl kc1 rfl kX1_stand iX1_stand eX1_stand lX11_139 rfl (Nat.le_of_ble_eq_true rfl) (by decide) (by decide) (by decide) (by decide) ?_
    rintro _ _ ⟨rfl, rfl⟩
    generalize hF2e : (rw_ F 24 (sd (fun a b => ah (I 13 0) (n4 (I 8)) (tup I a) (tup I b)) (F 24) N)) = F2 at *
    refine aw_aload_n dX11_lot_79 rfl (by decide) ?_
    refine aw_getrv (r := 73) dX11_lot_80 fX11_55 ⟨Nat.le_of_ble_eq_true rfl, Nat.le_of_ble_eq_true rfl⟩ rfl rfl (by first | exact (hF.at 1 7 73 rfl rfl rfl) | exact (hF2.at 1 7 73 rfl rfl rfl)) ?_
    refine aw_aload_n dX11_lot_83 rfl (by decide) ?_
    refine aw_getrv (r := 23) dX11_lot_84 fX11_38 ⟨Nat.le_of_ble_eq_true rfl, Nat.le_of_ble_eq_true rfl⟩ rfl rfl (by first | exact (hF.at 1 4 23 rfl rfl rfl) | exact (hF2.at 1 4 23 rfl rfl rfl)) ?_
    refine aw_iload dX11_lot_87 rfl ?_
    refine aw_callV (as := [ab_r 23, ab_i (m : Int)]) (rest := []) dX11_lot_89 (ct_X3_gather G I F2 hF2 N m hN hmle hm6 hN12 hP2) ⟨Nat.le_of_ble_eq_true rfl, Nat.le_of_ble_eq_true rfl⟩ rfl kc3 rfl kX3_gather iX3_gather eX3_gather lX11_233 rfl (Nat.le_of_ble_eq_true rfl) (by decide) (by decide) (by decide) (by decide) ?_
    rintro _ _ ⟨rfl, J1, rfl, g73, g74, gfr⟩
    refine aw_aload_n dX11_lot_92 rfl (by decide) ?_
    refine aw_getrv (r := 73) dX11_lot_93 fX11_55 ⟨Nat.le_of_ble_eq_true rfl, Nat.le_of_ble_eq_true rfl⟩ rfl rfl (by first | exact (hF.at 1 7 73 rfl rfl rfl) | exact (hF2.at 1 7 73 rfl rfl rfl)) ?_
    refine aw_iload_n dX11_lot_96 rfl ?_
    refine aw_iload_n dX11_lot_97 rfl ?_
    refine aw_callV (as := [ab_i hs9, ab_i (n : Int)]) (rest := []) dX11_lot_98 (ct_X3_lay G J1 F2 hF2 hs9 n hn4) ⟨Nat.le_of_ble_eq_true rfl, Nat.le_of_ble_eq_true rfl⟩ rfl kc3 rfl kX3_lay iX3_lay eX3_lay lX11_237 rfl (Nat.le_of_ble_eq_true rfl) (by decide) (by decide) (by decide) (by decide) ?_
    rintro _ _ ⟨rfl, J2, rfl, l75, lfr⟩
    have hfr : ∀ i b, ¬ (i = 73 ∧ b = 2) → i ≠ 74 → i ≠ 75 → J2 i b = I i b := fun i b q1 q2 q3 => (lfr i b q3).trans (gfr i b q1 q2)
    have hrb := rC_bd (wx := (fun x k => I (4 + sr x) k)) (kd := kd) (c0 := cK (hkL hs9) n) hm6 hpl
    have hrf := ct_X3_rowsFor G J2 F2 hF2 m hm6 sr hsr ((lfr 73 2 (by decide)).trans g73) (fun x hx => by rw [lfr 74 x (by decide), g74 x hx]; exact hsx x hx) (fun s k hs hk => by rw [hfr (4 + s) k (by omega) (by omega) (by omega)]; exact hw s k hs hk) pl hpl kd (by unfold ab_In; omega) (fun j hj => by rw [l75 j hj]; have := cnK_pos (f := hkL hs9) (j := (j : Int)) n; unfold cK; omega)
    have ewx : (fun x k => J2 (4 + sr x) k) = (fun x k => I (4 + sr x) k) := by funext x k; have := hsr x; exact hfr (4 + sr x) k (by omega) (by omega) (by omega)
    rw [ewx, rC_congr m [] (J2 75) (cK (hkL hs9) n) l75] at hrf
    generalize hrce : rC (fun x k => I (4 + sr x) k) m pl kd m [] (cK (hkL hs9) n) = rc at hrf hrb
    have hrb1 := hrb.1
    refine aw_aload_n dX11_lot_101 rfl (by decide) ?_
    refine aw_getrv (r := 73) dX11_lot_102 fX11_55 ⟨Nat.le_of_ble_eq_true rfl, Nat.le_of_ble_eq_true rfl⟩ rfl rfl (by first | exact (hF.at 1 7 73 rfl rfl rfl) | exact (hF2.at 1 7 73 rfl rfl rfl)) ?_
    refine aw_iload_n dX11_lot_105 rfl ?_
    refine aw_iload dX11_lot_106 rfl ?_
    refine aw_callV (as := [ab_i (pl : Int), ab_i kd]) (rest := []) dX11_lot_108 hrf ⟨Nat.le_of_ble_eq_true rfl, Nat.le_of_ble_eq_true rfl⟩ rfl kc3 rfl kX3_rowsFor iX3_rowsFor eX3_rowsFor lX11_241 rfl (Nat.le_of_ble_eq_true rfl) (by decide) (by decide) (by decide) (by decide) ?_
    rintro _ _ ⟨rfl, rfl⟩
    refine aw_i2l dX11_lot_111 ?_
    refine aw_toL (z := (rc : Int)) (i2l_in (by unfold ab_In; omega)) ?_
    refine aw_gets dX11_lot_112 ab_zfac gX11_244 ?_
    refine aw_iload dX11_lot_115 rfl ?_
    refine aw_ifac dX11_lot_117 (by omega) (by omega) ?_
    refine aw_to (z := (fct m : Int)) hfac ?_
    refine aw_i2l dX11_lot_118 ?_
    refine aw_toL (z := (fct m : Int)) (i2l_in (by unfold ab_In; omega)) ?_
    refine aw_iload dX11_lot_119 rfl ?_
    refine aw_callS (as := [ab_l (rc : Int), ab_l (fct m : Int), ab_i wc]) (rest := []) dX11_lot_121 (ct_X11_lowest G (104, J2, F2) rc (fct m) (by omega) (by omega) hfm.2 wc (by unfold ab_In; omega)) kX11_lowest sX11_lowest lX11_247 rfl (Nat.le_of_ble_eq_true rfl) (by decide) (by decide) (by decide) (by decide) ?_
    rintro _ _ ⟨rfl, rfl⟩
    refine aw_l2i dX11_lot_124 ?_
    refine aw_ireturn dX11_lot_125 rfl ?_
    exact ⟨rfl, J2, rfl, hfr⟩
  · refine aw_iload dX11_lot_32 rfl ?_
    refine aw_callS (as := [ab_i kd]) (rest := []) dX11_lot_34 (ct_X11_isKind G (104, I, F) kd (by first | assumption | (unfold ab_In at *; omega))) kX11_isKind sX11_isKind lX11_86 rfl (Nat.le_of_ble_eq_true rfl) (by decide) (by decide) (by decide) (by decide) ?_
    rintro r9 _ ⟨e9, rfl⟩
    rw [if_pos (by omega)] at e9
    subst e9
    refine aw_if_ne (tgt := 43) dX11_lot_37 rfl ⟨by decide, by decide⟩ (fun _ => ?_) (fun c9 => absurd c9 (by decide))
    refine aw_iload_n dX11_lot_43 rfl ?_
    refine aw_iconst dX11_lot_44 ?_
    refine aw_iconst dX11_lot_45 ?_
    refine aw_callS (as := [ab_i (n : Int), ab_i 1, ab_i 4]) (rest := []) dX11_lot_46 (ct_X11_within G (104, I, F) (n : Int) 1 4 (by first | assumption | (unfold ab_In at *; omega)) (by first | assumption | (unfold ab_In at *; omega)) (by first | assumption | (unfold ab_In at *; omega))) kX11_within sX11_within lX11_89 rfl (Nat.le_of_ble_eq_true rfl) (by decide) (by decide) (by decide) (by decide) ?_
    rintro r9 _ ⟨e9, rfl⟩
    rw [if_pos (by omega)] at e9
    subst e9
    refine aw_if_eq (tgt := 62) dX11_lot_49 rfl ⟨by decide, by decide⟩ (fun c9 => absurd c9 (by decide)) (fun _ => ?_)
    refine aw_iload dX11_lot_52 rfl ?_
    refine aw_iconst dX11_lot_54 ?_
    refine aw_iconst dX11_lot_55 ?_
    refine aw_callS (as := [ab_i wc, ab_i 0, ab_i 1]) (rest := []) dX11_lot_56 (ct_X11_within G (104, I, F) wc 0 1 (by first | assumption | (unfold ab_In at *; omega)) (by first | assumption | (unfold ab_In at *; omega)) (by first | assumption | (unfold ab_In at *; omega))) kX11_within sX11_within lX11_89 rfl (Nat.le_of_ble_eq_true rfl) (by decide) (by decide) (by decide) (by decide) ?_
    rintro r9 _ ⟨e9, rfl⟩
    rw [if_pos (by omega)] at e9
    subst e9
    refine aw_if_ne (tgt := 65) dX11_lot_59 rfl ⟨by decide, by decide⟩ (fun _ => ?_) (fun c9 => absurd c9 (by decide))
    refine aw_aload_n dX11_lot_65 rfl (by decide) ?_
    refine aw_getrv (r := 23) dX11_lot_66 fX11_38 ⟨Nat.le_of_ble_eq_true rfl, Nat.le_of_ble_eq_true rfl⟩ rfl rfl (by first | exact (hF.at 1 4 23 rfl rfl rfl) | exact (hF2.at 1 4 23 rfl rfl rfl)) ?_
    refine aw_aload_n dX11_lot_69 rfl (by decide) ?_
    refine aw_getrv (r := 13) dX11_lot_70 fX11_19 ⟨Nat.le_of_ble_eq_true rfl, Nat.le_of_ble_eq_true rfl⟩ rfl rfl (by first | exact (hF.at 1 1 13 rfl rfl rfl) | exact (hF2.at 1 1 13 rfl rfl rfl)) ?_
    refine aw_geti dX11_lot_73 fX11_136 ⟨Nat.le_of_ble_eq_true rfl, Nat.le_of_ble_eq_true rfl⟩ rfl rfl ?_
    refine aw_callV (as := [ab_i (I 13 0)]) (rest := []) dX11_lot_76 (ct_X1_stand_23 G I F hF 6000 100000 hb (by omega) (by omega) hn9 (I 13 0) ho N hN hN12 hP) ⟨Nat.le_of_ble_eq_true rfl, Nat.le_of_ble_eq_true rfl⟩ rfl kc1 rfl kX1_stand iX1_stand eX1_stand lX11_139 rfl (Nat.le_of_ble_eq_true rfl) (by decide) (by decide) (by decide) (by decide) ?_
    rintro _ _ ⟨rfl, rfl⟩
    generalize hF2e : (rw_ F 24 (sd (fun a b => ah (I 13 0) (n4 (I 8)) (tup I a) (tup I b)) (F 24) N)) = F2 at *
    refine aw_aload_n dX11_lot_79 rfl (by decide) ?_
    refine aw_getrv (r := 73) dX11_lot_80 fX11_55 ⟨Nat.le_of_ble_eq_true rfl, Nat.le_of_ble_eq_true rfl⟩ rfl rfl (by first | exact (hF.at 1 7 73 rfl rfl rfl) | exact (hF2.at 1 7 73 rfl rfl rfl)) ?_
    refine aw_aload_n dX11_lot_83 rfl (by decide) ?_
    refine aw_getrv (r := 23) dX11_lot_84 fX11_38 ⟨Nat.le_of_ble_eq_true rfl, Nat.le_of_ble_eq_true rfl⟩ rfl rfl (by first | exact (hF.at 1 4 23 rfl rfl rfl) | exact (hF2.at 1 4 23 rfl rfl rfl)) ?_
    refine aw_iload dX11_lot_87 rfl ?_
    refine aw_callV (as := [ab_r 23, ab_i (m : Int)]) (rest := []) dX11_lot_89 (ct_X3_gather G I F2 hF2 N m hN hmle hm6 hN12 hP2) ⟨Nat.le_of_ble_eq_true rfl, Nat.le_of_ble_eq_true rfl⟩ rfl kc3 rfl kX3_gather iX3_gather eX3_gather lX11_233 rfl (Nat.le_of_ble_eq_true rfl) (by decide) (by decide) (by decide) (by decide) ?_
    rintro _ _ ⟨rfl, J1, rfl, g73, g74, gfr⟩
    refine aw_aload_n dX11_lot_92 rfl (by decide) ?_
    refine aw_getrv (r := 73) dX11_lot_93 fX11_55 ⟨Nat.le_of_ble_eq_true rfl, Nat.le_of_ble_eq_true rfl⟩ rfl rfl (by first | exact (hF.at 1 7 73 rfl rfl rfl) | exact (hF2.at 1 7 73 rfl rfl rfl)) ?_
    refine aw_iload_n dX11_lot_96 rfl ?_
    refine aw_iload_n dX11_lot_97 rfl ?_
    refine aw_callV (as := [ab_i hs9, ab_i (n : Int)]) (rest := []) dX11_lot_98 (ct_X3_lay G J1 F2 hF2 hs9 n hn4) ⟨Nat.le_of_ble_eq_true rfl, Nat.le_of_ble_eq_true rfl⟩ rfl kc3 rfl kX3_lay iX3_lay eX3_lay lX11_237 rfl (Nat.le_of_ble_eq_true rfl) (by decide) (by decide) (by decide) (by decide) ?_
    rintro _ _ ⟨rfl, J2, rfl, l75, lfr⟩
    have hfr : ∀ i b, ¬ (i = 73 ∧ b = 2) → i ≠ 74 → i ≠ 75 → J2 i b = I i b := fun i b q1 q2 q3 => (lfr i b q3).trans (gfr i b q1 q2)
    have hrb := rC_bd (wx := (fun x k => I (4 + sr x) k)) (kd := kd) (c0 := cK (hkL hs9) n) hm6 hpl
    have hrf := ct_X3_rowsFor G J2 F2 hF2 m hm6 sr hsr ((lfr 73 2 (by decide)).trans g73) (fun x hx => by rw [lfr 74 x (by decide), g74 x hx]; exact hsx x hx) (fun s k hs hk => by rw [hfr (4 + s) k (by omega) (by omega) (by omega)]; exact hw s k hs hk) pl hpl kd (by unfold ab_In; omega) (fun j hj => by rw [l75 j hj]; have := cnK_pos (f := hkL hs9) (j := (j : Int)) n; unfold cK; omega)
    have ewx : (fun x k => J2 (4 + sr x) k) = (fun x k => I (4 + sr x) k) := by funext x k; have := hsr x; exact hfr (4 + sr x) k (by omega) (by omega) (by omega)
    rw [ewx, rC_congr m [] (J2 75) (cK (hkL hs9) n) l75] at hrf
    generalize hrce : rC (fun x k => I (4 + sr x) k) m pl kd m [] (cK (hkL hs9) n) = rc at hrf hrb
    have hrb1 := hrb.1
    refine aw_aload_n dX11_lot_101 rfl (by decide) ?_
    refine aw_getrv (r := 73) dX11_lot_102 fX11_55 ⟨Nat.le_of_ble_eq_true rfl, Nat.le_of_ble_eq_true rfl⟩ rfl rfl (by first | exact (hF.at 1 7 73 rfl rfl rfl) | exact (hF2.at 1 7 73 rfl rfl rfl)) ?_
    refine aw_iload_n dX11_lot_105 rfl ?_
    refine aw_iload dX11_lot_106 rfl ?_
    refine aw_callV (as := [ab_i (pl : Int), ab_i kd]) (rest := []) dX11_lot_108 hrf ⟨Nat.le_of_ble_eq_true rfl, Nat.le_of_ble_eq_true rfl⟩ rfl kc3 rfl kX3_rowsFor iX3_rowsFor eX3_rowsFor lX11_241 rfl (Nat.le_of_ble_eq_true rfl) (by decide) (by decide) (by decide) (by decide) ?_
    rintro _ _ ⟨rfl, rfl⟩
    refine aw_i2l dX11_lot_111 ?_
    refine aw_toL (z := (rc : Int)) (i2l_in (by unfold ab_In; omega)) ?_
    refine aw_gets dX11_lot_112 ab_zfac gX11_244 ?_
    refine aw_iload dX11_lot_115 rfl ?_
    refine aw_ifac dX11_lot_117 (by omega) (by omega) ?_
    refine aw_to (z := (fct m : Int)) hfac ?_
    refine aw_i2l dX11_lot_118 ?_
    refine aw_toL (z := (fct m : Int)) (i2l_in (by unfold ab_In; omega)) ?_
    refine aw_iload dX11_lot_119 rfl ?_
    refine aw_callS (as := [ab_l (rc : Int), ab_l (fct m : Int), ab_i wc]) (rest := []) dX11_lot_121 (ct_X11_lowest G (104, J2, F2) rc (fct m) (by omega) (by omega) hfm.2 wc (by unfold ab_In; omega)) kX11_lowest sX11_lowest lX11_247 rfl (Nat.le_of_ble_eq_true rfl) (by decide) (by decide) (by decide) (by decide) ?_
    rintro _ _ ⟨rfl, rfl⟩
    refine aw_l2i dX11_lot_124 ?_
    refine aw_ireturn dX11_lot_125 rfl ?_
    exact ⟨rfl, J2, rfl, hfr⟩
set_option maxHeartbeats 4000000 in
set_option maxRecDepth 100000 in
theorem pr_lot (G : ab_G) (I : Nat → Nat → Int) (F : Nat → Nat → Nat) (c : Nat) (h : INV c I F) (hc : c ≤ 600) (a : Int) (ha : ab_In a) (hs9 : Int) (hhs9 : ab_In hs9) (b : Int) (hb : ab_In b) (kd : Int) (hkd : ab_In kd) (wc : Int) (hwc : ab_In wc) : Pair G 10 2 YX11_lot YX12_lot [ab_i a, ab_i hs9, ab_i b, ab_i kd, ab_i wc] ab_i c I F := by
  obtain ⟨L, M, wk, nx, hC, hM⟩ := id h.2.2.2.2.2.2.2.2
  obtain ⟨c1, c2, c3, c4, c5, c6, c7, c8⟩ := id hC
  have hl := c3.length_eq
  have hL12 := c1.1
  have e2 : I 23 2 = (L.length : Int) := c1.2.1.1
  have e3 : I 89 84 = (L.length : Int) := by rw [c2.2.1.1, hl]
  have hro := h.2.2.2.1.1
  have hrm := h.rbm.1
  have hOrd : ∀ J : Nat → Nat → Int, (∀ i b, i ≠ 91 → i ≠ 98 → i ≠ 99 → ¬ (i = 73 ∧ b = 2) → i ≠ 74 → i ≠ 75 → J i b = I i b) → INV (c + 1) J (rw_ F 24 (sd (fun a b => ah (I 13 0) (n4 (I 8)) (tup I a) (tup I b)) (F 24) L.length)) := fun J hJ => h.order (fun i b q => hJ i b (by omega) (by omega) (by omega) (by omega) (by omega) (by omega)) (h.2.2.2.2.2.2.2.1.of (fun i b q => hJ i b (by omega) (by omega) (by omega) (by omega) (by omega) (by omega))) (fun i b q => rw_n q) (fun L9 wk9 nx9 W9 h9 hq9 => ⟨srt (I 13 0) (n4 (I 8)) L9, srt_perm _ _ _, (show L9.length = L.length by have := h9.2.1.1; omega) ▸ CS_sd h9 hq9 _ _⟩)
  obtain ⟨m, hmN⟩ : ∃ m : Nat, (m : Int) = if 6 < (L.length : Int) then 6 else (L.length : Int) := by
    by_cases q : 6 < (L.length : Int)
    · exact ⟨6, by rw [if_pos q]; rfl⟩
    · exact ⟨L.length, by rw [if_neg q]⟩
  have hmL : m ≤ L.length := by split at hmN <;> omega
  have hm6 : m ≤ 6 := by split at hmN <;> omega
  by_cases hv9 : ((0 ≤ a ∧ a ≤ (m : Int) - 1) ∧ (-1 ≤ kd ∧ kd ≤ 3)) ∧ (1 ≤ b ∧ b ≤ 4) ∧ (0 ≤ wc ∧ wc ≤ 1)
  · obtain ⟨pl, rfl⟩ : ∃ pl : Nat, a = pl := ⟨a.toNat, by omega⟩
    obtain ⟨nn, rfl⟩ : ∃ nn : Nat, b = nn := ⟨b.toNat, by omega⟩
    have hpx : ∀ x, x < 12 → 32 ≤ (sd (fun a b => ah (I 13 0) (n4 (I 8)) (tup I a) (tup I b)) (F 24) L.length) x ∧ (sd (fun a b => ah (I 13 0) (n4 (I 8)) (tup I a) (tup I b)) (F 24) L.length) x ≤ 43 := fun x hx => sd_all _ (fun y => 32 ≤ y ∧ y ≤ 43) c1.2.2.1 L.length hL12 x hx
    have hsb : ∀ x, x < m → 0 ≤ I ((sd (fun a b => ah (I 13 0) (n4 (I 8)) (tup I a) (tup I b)) (F 24) L.length) x) 0 ∧ I ((sd (fun a b => ah (I 13 0) (n4 (I 8)) (tup I a) (tup I b)) (F 24) L.length) x) 0 ≤ 3 := fun x hx => (c1.2.2.2.2.2.2 _ (hpx x (by omega)).1 (hpx x (by omega)).2).1
    have hsr : ∀ x, (fun x => if x < m then (I ((sd (fun a b => ah (I 13 0) (n4 (I 8)) (tup I a) (tup I b)) (F 24) L.length) x) 0).toNat else 0) x < 4 := fun x => by
      show (if x < m then (I ((sd (fun a b => ah (I 13 0) (n4 (I 8)) (tup I a) (tup I b)) (F 24) L.length) x) 0).toNat else 0) < 4
      split
      · rename_i q; have := hsb x q; omega
      · omega
    have hsv : ∀ x, x < m → (((fun x => if x < m then (I ((sd (fun a b => ah (I 13 0) (n4 (I 8)) (tup I a) (tup I b)) (F 24) L.length) x) 0).toNat else 0) x : Nat) : Int) = I ((sd (fun a b => ah (I 13 0) (n4 (I 8)) (tup I a) (tup I b)) (F 24) L.length) x) 0 := fun x hx => by
      show (((if x < m then (I ((sd (fun a b => ah (I 13 0) (n4 (I 8)) (tup I a) (tup I b)) (F 24) L.length) x) 0).toNat else 0 : Nat)) : Int) = _
      rw [if_pos hx]; have := hsb x hx; omega
    refine (ct_X11_lot G I F h.1 L.length m pl nn c1.2.2.2.2.2.2 h.2.1.1 (by unfold ab_In; omega) e2 hL12 c1.2.2.1 hmN (by omega) (by omega) (by omega) hs9 kd wc (by omega) (by omega) (fun x => if x < m then (I ((sd (fun a b => ah (I 13 0) (n4 (I 8)) (tup I a) (tup I b)) (F 24) L.length) x) 0).toNat else 0) hsr (fun x hx => by rw [rw_s]; exact (hsv x hx).symm) h.2.1.2.1).mono ?_
    rintro _ _ ⟨rfl, J, rfl, hfr⟩
    refine ⟨_, _, _, rfl, rfl, ?_⟩
    have hF2 : ab_FB (rw_ F 24 (sd (fun a b => ah (I 13 0) (n4 (I 8)) (tup I a) (tup I b)) (F 24) L.length)) := h.1.rw 24 _ (Or.inl rfl)
    have hnm : ∀ a b, a < L.length → b < L.length → a ≠ b → I 89 (12 + a) ≠ I 89 (12 + b) := fun a b ha hb2 hab e => by have hq9 := (c4.perm c3).1; rw [c2.tup] at hq9; exact hab ((List.getElem_inj (i := a) (j := b) (h₀ := by simp; omega) (h₁ := by simp; omega) hq9).mp (by simpa [rt] using e))
    have j89 : J 89 = I 89 := funext fun b => hfr 89 b (by omega) (by omega) (by omega)
    have j86 : J 86 = I 86 := funext fun b => hfr 86 b (by omega) (by omega) (by omega)
    have j95 : J 95 0 = I 13 0 := by rw [hfr 95 0 (by omega) (by omega) (by omega)]; exact h.2.2.2.2.1.1.1.symm
    have j85 : ∀ b, J 85 b = I 85 b := fun b => hfr 85 b (by omega) (by omega) (by omega)
    have hn86 : n4 (I 86) = n4 (I 8) := (n4_congr h.2.2.1.1).symm
    have hlot := ct_X12_lot G J (rw_ F 24 (sd (fun a b => ah (I 13 0) (n4 (I 8)) (tup I a) (tup I b)) (F 24) L.length)) hF2 L.length (2 * wk) nx (fun p hp => by rw [j89]; exact c2.2.2.2 _ (List.mem_of_getElem? (c2.2.2.1 p (by omega)))) (by omega) (by omega) hL12 (fun s hs => by rw [j86]; exact h.tbm.1 s hs) (by rw [j95]; unfold ab_In; omega) (by rw [j89]; exact e3) (fun a b ha hb2 hab => by rw [j89]; exact hnm a b ha hb2 hab) m pl nn (by rw [hmN]; simp only [show ((6 : Int) < (L.length : Int)) ↔ 6 < L.length by omega]) (by omega) (by omega) (by omega) hs9 kd wc (by omega) (by omega) (fun x => if x < m then (I ((sd (fun a b => ah (I 13 0) (n4 (I 8)) (tup I a) (tup I b)) (F 24) L.length) x) 0).toNat else 0) hsr (fun x hx => by
      rw [j89, j86, j95, hn86, hsv x hx]
      have h9 := pl_at (place_eq c1 c2 c3 c4 (I 13 0) (n4 (I 8)) (show x < L.length by omega)) (w := 0) (by omega)
      rw [Nat.mul_zero, Nat.zero_add] at h9
      exact h9) (fun s k hs hk => by rw [j85, ← h.2.2.1.2.1 s k hs hk]; exact h.2.1.2.1 s k hs hk)
    refine hlot.mono ?_
    rintro _ _ ⟨rfl, J2, rfl, hfr2⟩
    have ewx : (fun x k => J 85 (4 * (fun x => if x < m then (I ((sd (fun a b => ah (I 13 0) (n4 (I 8)) (tup I a) (tup I b)) (F 24) L.length) x) 0).toNat else 0) x + k)) = fun x k => J 85 (4 * (fun x => if x < m then (I ((sd (fun a b => ah (I 13 0) (n4 (I 8)) (tup I a) (tup I b)) (F 24) L.length) x) 0).toNat else 0) x + k) := rfl
    have hg := (rC_bd (wx := fun x k => J 85 (4 * (fun x => if x < m then (I ((sd (fun a b => ah (I 13 0) (n4 (I 8)) (tup I a) (tup I b)) (F 24) L.length) x) 0).toNat else 0) x + k)) (m := m) (pl := pl) (kd := kd) (c0 := cK (hkL hs9) nn) hm6 (by omega)).2
    have hrc : rC (fun x k => J 85 (4 * (fun x => if x < m then (I ((sd (fun a b => ah (I 13 0) (n4 (I 8)) (tup I a) (tup I b)) (F 24) L.length) x) 0).toNat else 0) x + k)) m pl kd m [] (cK (hkL hs9) nn) = rC (fun x k => I (4 + (fun x => if x < m then (I ((sd (fun a b => ah (I 13 0) (n4 (I 8)) (tup I a) (tup I b)) (F 24) L.length) x) 0).toNat else 0) x) k) m pl kd m [] (cK (hkL hs9) nn) := rC_wx (fun x k hk => by rw [j85, ← h.2.2.1.2.1 _ k (hsr x) hk]) m [] _
    rw [hg, hrc]
    exact ⟨rfl, _, _, rfl, hOrd J2 (fun i b q1 q2 q3 q4 q5 q6 => (hfr2 i b q1 q2 q3).trans (hfr i b q4 q5 q6))⟩
  · refine (ct_X11_lot_bad G I F h.1 a ha hs9 hhs9 b hb kd hkd wc hwc (by omega) (m : Int) (by rw [hmN, e2]) hv9).mono ?_
    rintro _ _ ⟨rfl, rfl⟩
    refine ⟨_, _, _, rfl, rfl, ?_⟩
    refine (ct_X12_lot_bad G I F h.1 a ha hs9 hhs9 b hb kd hkd wc hwc (by omega) (m : Int) (by rw [hmN, e3]) hv9).mono ?_
    rintro _ _ ⟨rfl, rfl⟩
    exact ⟨rfl, _, _, rfl, h.up (by omega)⟩
