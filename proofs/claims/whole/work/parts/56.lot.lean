theorem tkL_bd (wx : Nat → Nat → Int) (x : Nat) (c : Nat → Int) : -1 ≤ tkL wx x c ∧ tkL wx x c ≤ 3 := by
  by_cases h : tkL wx x c = -1
  · omega
  · obtain ⟨k, h1, h2, _⟩ := tkL_at h
    omega
theorem gtT_bd {wx : Nat → Nat → Int} {pl : Nat} : ∀ (l : List Nat) (c : Nat → Int), -1 ≤ gtT wx pl c l ∧ gtT wx pl c l ≤ 3
  | [], c => by rw [gtT]; omega
  | x :: t, c => by
    rw [gtT]
    split
    · exact tkL_bd wx x c
    · exact gtT_bd t _
theorem RLs.at {f : Nat → Int} {l : List Nat} (h : RLs f l) {i x : Nat} (hx : l[i]? = some x) : f i = (x : Int) := by
  have hi : i < l.length := (List.getElem?_eq_some_iff.mp hx).1
  have := h i hi
  rw [hx] at this
  exact (Option.some.inj this).symm
def frL (pre : List Nat) (x k : Nat) : Int := if x ∈ pre.take k then 0 else 1
theorem frL_s {pre : List Nat} {x k y : Nat} (hy : pre[k]? = some y) : frL pre x (k + 1) = if frL pre x k = 0 then 0 else if y = x then 0 else 1 := by
  unfold frL
  rw [List.take_succ, hy]
  have hm : x ∈ List.take k pre ++ (some y).toList ↔ x ∈ List.take k pre ∨ x = y := by simp
  by_cases e : x ∈ List.take k pre
  · rw [if_pos (hm.mpr (Or.inl e)), if_pos e, if_pos rfl]
  · rw [if_neg e]
    by_cases e2 : y = x
    · rw [if_pos (hm.mpr (Or.inr e2.symm)), if_neg (show ¬ (1 : Int) = 0 by decide), if_pos e2]
    · rw [if_neg (fun q => (hm.mp q).elim e (fun r => e2 r.symm)), if_neg (show ¬ (1 : Int) = 0 by decide), if_neg e2]
theorem frL_n {pre : List Nat} {x : Nat} : frL pre x pre.length = if x ∈ pre then 0 else 1 := by
  unfold frL; rw [List.take_length]
theorem frL_bd (pre : List Nat) (x k : Nat) : frL pre x k = 0 ∨ frL pre x k = 1 := by unfold frL; split <;> simp
theorem cK_congr {f g : Nat → Int} {n : Nat} (h : ∀ q, q < n → f q = g q) : cK f n = cK g n := funext fun j => cnK_congr n h
set_option maxHeartbeats 4000000 in
set_option maxRecDepth 100000 in
theorem ct_X12_part (G : ab_G) (h0 : ab_H) (a b : Nat) (ha : a < 1000000) (hb : b < 1000000) (hb0 : 0 < b) (c : Int) (hc : ab_In c) : Ct G 1 0 0 YX12_part [ab_r 84, ab_l (a : Int), ab_l (b : Int), ab_i c] h0 (fun r h => r = some (ab_i (ab_l2i (((if c = 0 then a else b) / Nat.gcd a b : Nat) : Int))) ∧ h = h0) := by
  refine Ct.ofW kX12_part (ls := [some (ab_r 84), some (ab_l (a : Int)), none, some (ab_l (b : Int)), none, some (ab_i c), none, none]) (Nat.le_of_ble_eq_true rfl) rfl ?_
  refine aw_lload_n dX12_part_0 rfl ?_
  refine aw_lload_n dX12_part_1 rfl ?_
  refine aw_callS (as := [ab_l (a : Int), ab_l (b : Int)]) (rest := []) dX12_part_2 (ct_X12_divisor G h0 a b (by omega) (by omega)) kX12_divisor sX12_divisor lX12_226 rfl (Nat.le_of_ble_eq_true rfl) (by decide) (by decide) (by decide) (by decide) ?_
  rintro _ _ ⟨rfl, rfl⟩
  have hg0 : 0 < Nat.gcd a b := Nat.gcd_pos_of_pos_right _ hb0
  have hgb : Nat.gcd a b ≤ b := Nat.gcd_le_right _ hb0
  generalize Nat.gcd a b = g at *
  refine aw_lstore (ls' := [some (ab_r 84), some (ab_l (a : Int)), none, some (ab_l (b : Int)), none, some (ab_i c), some (ab_l (g : Int)), none]) dX12_part_5 (by decide) rfl ?_
  refine aw_iload dX12_part_7 rfl ?_
  refine aw_if_ne (tgt := 16) dX12_part_9 rfl (by first | assumption | (unfold ab_In at *; omega)) (fun c_9 => ?_) (fun c_9 => ?_)
  · refine aw_lload_n dX12_part_16 rfl ?_
    refine aw_lload dX12_part_17 rfl ?_
    refine aw_ldiv dX12_part_19 (by unfold ab_Il; omega) (by omega) ?_
    refine aw_toL (z := ((b / g : Nat) : Int)) (ldiv_n (by omega) (by omega) (by omega)) ?_
    refine aw_l2i dX12_part_20 ?_
    refine aw_ireturn dX12_part_21 rfl ?_
    exact ⟨by first | rw [if_pos (by omega)] | rw [if_neg (by omega)], rfl⟩
  · refine aw_lload_n dX12_part_12 rfl ?_
    refine aw_goto (tgt := 17) dX12_part_13 rfl ?_
    refine aw_lload dX12_part_17 rfl ?_
    refine aw_ldiv dX12_part_19 (by unfold ab_Il; omega) (by omega) ?_
    refine aw_toL (z := ((a / g : Nat) : Int)) (ldiv_n (by omega) (by omega) (by omega)) ?_
    refine aw_l2i dX12_part_20 ?_
    refine aw_ireturn dX12_part_21 rfl ?_
    exact ⟨by first | rw [if_pos (by omega)] | rw [if_neg (by omega)], rfl⟩
set_option maxHeartbeats 4000000 in
set_option maxRecDepth 100000 in
theorem ct_X12_lotOf (G : ab_G) (I : Nat → Nat → Int) (F : Nat → Nat → Nat) (hF : ab_FB F) (m pl n : Nat) (hm6 : m ≤ 6) (hpl : pl < m) (hn4 : n ≤ 4) (sr od : Nat → Nat) (hsr : ∀ x, sr x < 4) (hod : ∀ x, x < m → I 91 x = (od x : Int) ∧ od x < 12 ∧ I 89 (od x) = (sr x : Int)) (hw : ∀ s k, s < 4 → k < 4 → 0 ≤ I 85 (4 * s + k) ∧ I 85 (4 * s + k) ≤ 99) (l : List Nat) (hl : l.length = m) (hlm : ∀ x, x ∈ l → x < m) (hrl : RLs (I 98) l) (hlf : ∀ q, q < n → -1 ≤ I 99 q ∧ I 99 q ≤ 3) : Ct G 0 0 0 YX12_lotOf [ab_r 84, ab_i (m : Int), ab_i (pl : Int), ab_i (n : Int)] (104, I, F) (fun r h => r = some (ab_i (gtT (fun x k => I 85 (4 * sr x + k)) pl (cK (I 99) n) l)) ∧ ∃ J : Nat → Nat → Int, h = (104, J, F) ∧ ∀ i b, i ≠ 99 → J i b = I i b) := by
  refine Ct.ofW kX12_lotOf (ls := [some (ab_r 84), some (ab_i (m : Int)), some (ab_i (pl : Int)), some (ab_i (n : Int)), none, none, none, none, none]) (Nat.le_of_ble_eq_true rfl) rfl ?_
  generalize hRS : gtT (fun x k => I 85 (4 * sr x + k)) pl (cK (I 99) n) l = RS
  have hRb : -1 ≤ RS ∧ RS ≤ 3 := by rw [← hRS]; exact gtT_bd _ _
  generalize hZ : ab_Z G (fun r h => r = some (ab_i RS) ∧ ∃ J : Nat → Nat → Int, h = (104, J, F) ∧ ∀ i b, i ≠ 99 → J i b = I i b) 0 0 = Z
  have lp : ∀ (rest done : List Nat) (k : Nat) (J : Nat → Nat → Int), done ++ rest = l → done.length = k → (∀ i b, i ≠ 99 → J i b = I i b) → (∀ q, q < n → -1 ≤ J 99 q ∧ J 99 q ≤ 3) → gtT (fun x k => I 85 (4 * sr x + k)) pl (cK (J 99) n) rest = RS → aW G YX12_lotOf (ab_rm 0 0 0) Z 0 0 (104, J, F) 3 [some (ab_r 84), some (ab_i (m : Int)), some (ab_i (pl : Int)), some (ab_i (n : Int)), some (ab_i (k : Int)), none, none, none, none] [] := by
    intro rest
    induction rest with
    | nil =>
      intro done k J hdl hk hfr hjb hg
      have hkm : k = m := by rw [← hk, ← hl, ← hdl, List.append_nil]
      have hR1 : RS = -1 := hg.symm
      refine aw_iload dX12_lotOf_3 rfl ?_
      refine aw_iload_n dX12_lotOf_5 rfl ?_
      refine aw_icmp_ge (tgt := 201) dX12_lotOf_6 rfl (by first | assumption | (unfold ab_In at *; omega)) (by first | assumption | (unfold ab_In at *; omega)) (fun c_6 => ?_) (fun c_6 => ?_)
      · refine aw_iconst dX12_lotOf_201 ?_
        rw [← hZ]
        refine aw_ireturn dX12_lotOf_202 rfl ?_
        exact ⟨by rw [hR1], J, rfl, hfr⟩
      · exfalso; omega
    | cons x rest ihr =>
      intro done k J hdl hk hfr hjb hg
      have hkm : k < m := by rw [← hk, ← hl, ← hdl, List.length_append, List.length_cons]; omega
      have hxl : l[k]? = some x := by rw [← hdl, List.getElem?_append_right (by omega), hk, Nat.sub_self]; rfl
      have hxm := hlm x (List.mem_of_getElem? hxl)
      have e98 : J 98 k = (x : Int) := (hfr 98 k (by decide)).trans (hrl.at hxl)
      obtain ⟨o1, o2, o3⟩ := hod x hxm
      have e91 : J 91 x = (od x : Int) := (hfr 91 x (by decide)).trans o1
      have e89 : J 89 (od x) = (sr x : Int) := (hfr 89 _ (by decide)).trans o3
      have hs := hsr x
      obtain ⟨s, hse⟩ : ∃ s, sr x = s := ⟨_, rfl⟩
      rw [hse] at e89 hs
      obtain ⟨o, hoe⟩ : ∃ o, od x = o := ⟨_, rfl⟩
      rw [hoe] at e91 e89 o2
      have ew : ∀ b, J 85 b = I 85 b := fun b => hfr 85 b (by decide)
      have hwx : (fun x k => I 85 (4 * sr x + k)) x = fun k => I 85 (4 * s + k) := by funext k9; show I 85 (4 * sr x + k9) = I 85 (4 * s + k9); rw [hse]
      have hgx : (if x = pl then tkL (fun x k => I 85 (4 * sr x + k)) x (cK (J 99) n) else gtT (fun x k => I 85 (4 * sr x + k)) pl (dcK (cK (J 99) n) (tkL (fun x k => I 85 (4 * sr x + k)) x (cK (J 99) n))) rest) = RS := hg
      have nx : ∀ (J2 : Nat → Nat → Int), (∀ i b, i ≠ 99 → J2 i b = I i b) → (∀ q, q < n → -1 ≤ J2 99 q ∧ J2 99 q ≤ 3) → gtT (fun x k => I 85 (4 * sr x + k)) pl (cK (J2 99) n) rest = RS → aW G YX12_lotOf (ab_rm 0 0 0) Z 0 0 (104, J2, F) 3 [some (ab_r 84), some (ab_i (m : Int)), some (ab_i (pl : Int)), some (ab_i (n : Int)), some (ab_i ((k + 1 : Nat) : Int)), none, none, none, none] [] := fun J2 h1 h2 h3 => ihr (done ++ [x]) (k + 1) J2 (by rw [List.append_assoc]; exact hdl) (by rw [List.length_append, hk]; rfl) h1 h2 h3
      have ip : ∀ (d h : Nat) (b : Int), h + d = n → RbL ((fun x k => I 85 (4 * sr x + k)) x) (J 99) h b → aW G YX12_lotOf (ab_rm 0 0 0) Z 0 0 (104, J, F) 36 [some (ab_r 84), some (ab_i (m : Int)), some (ab_i (pl : Int)), some (ab_i (n : Int)), some (ab_i (k : Int)), some (ab_i (s : Int)), some (ab_i b), some (ab_i (h : Int)), none] [] := by
        intro d
        induction d with
        | zero =>
          intro h b hh hb
          have hhn : h = n := by omega
          rw [hhn] at hb
          rcases hb.fin (wx := (fun x k => I 85 (4 * sr x + k))) hjb with ⟨hb1, ht⟩ | ⟨c, hb1, hcn, hcf, ht⟩
          · subst hb1
            rw [ht] at hgx
            by_cases hxp : x = pl
            · rw [if_pos hxp] at hgx
              refine aw_iload dX12_lotOf_36 rfl ?_
              refine aw_iload_n dX12_lotOf_38 rfl ?_
              refine aw_icmp_ge (tgt := 148) dX12_lotOf_39 rfl (by first | assumption | (unfold ab_In at *; omega)) (by first | assumption | (unfold ab_In at *; omega)) (fun c_39 => ?_) (fun c_39 => ?_)
              · refine aw_iload dX12_lotOf_148 rfl ?_
                refine aw_iconst dX12_lotOf_150 ?_
                refine aw_icmp_ne (tgt := 158) dX12_lotOf_151 rfl ⟨by decide, by decide⟩ ⟨by decide, by decide⟩ (fun c9 => absurd rfl c9) (fun _ => ?_)
                refine aw_iconst dX12_lotOf_154 ?_
                refine aw_goto (tgt := 165) dX12_lotOf_155 rfl ?_
                refine aw_istore (ls' := [some (ab_r 84), some (ab_i (m : Int)), some (ab_i (pl : Int)), some (ab_i (n : Int)), some (ab_i (k : Int)), some (ab_i (s : Int)), some (ab_i (-1)), some (ab_i (-1)), none]) dX12_lotOf_165 (by decide) rfl ?_
                refine aw_aload_n dX12_lotOf_167 rfl (by decide) ?_
                refine aw_getrv (r := 98) dX12_lotOf_168 fX12_50 ⟨Nat.le_of_ble_eq_true rfl, Nat.le_of_ble_eq_true rfl⟩ rfl rfl (hF.at 84 23 98 rfl rfl rfl) ?_
                refine aw_iload dX12_lotOf_171 rfl ?_
                refine aw_ialdq (q := k) (v := (x : Int)) dX12_lotOf_173 ⟨Nat.le_of_ble_eq_true rfl, Nat.le_of_ble_eq_true rfl⟩ rfl (by omega) (by omega) (by decide) rfl e98 ?_
                refine aw_iload_n dX12_lotOf_174 rfl ?_
                refine aw_icmp_ne (tgt := 181) dX12_lotOf_175 rfl (by first | assumption | (unfold ab_In at *; omega)) (by first | assumption | (unfold ab_In at *; omega)) (fun c_175 => ?_) (fun c_175 => ?_)
                · exfalso; omega
                · refine aw_iload dX12_lotOf_178 rfl ?_
                  rw [← hZ]
                  refine aw_ireturn dX12_lotOf_180 rfl ?_
                  exact ⟨by rw [← hgx], J, rfl, hfr⟩
              · exfalso; omega
            · rw [if_neg hxp] at hgx
              refine aw_iload dX12_lotOf_36 rfl ?_
              refine aw_iload_n dX12_lotOf_38 rfl ?_
              refine aw_icmp_ge (tgt := 148) dX12_lotOf_39 rfl (by first | assumption | (unfold ab_In at *; omega)) (by first | assumption | (unfold ab_In at *; omega)) (fun c_39 => ?_) (fun c_39 => ?_)
              · refine aw_iload dX12_lotOf_148 rfl ?_
                refine aw_iconst dX12_lotOf_150 ?_
                refine aw_icmp_ne (tgt := 158) dX12_lotOf_151 rfl ⟨by decide, by decide⟩ ⟨by decide, by decide⟩ (fun c9 => absurd rfl c9) (fun _ => ?_)
                refine aw_iconst dX12_lotOf_154 ?_
                refine aw_goto (tgt := 165) dX12_lotOf_155 rfl ?_
                refine aw_istore (ls' := [some (ab_r 84), some (ab_i (m : Int)), some (ab_i (pl : Int)), some (ab_i (n : Int)), some (ab_i (k : Int)), some (ab_i (s : Int)), some (ab_i (-1)), some (ab_i (-1)), none]) dX12_lotOf_165 (by decide) rfl ?_
                refine aw_aload_n dX12_lotOf_167 rfl (by decide) ?_
                refine aw_getrv (r := 98) dX12_lotOf_168 fX12_50 ⟨Nat.le_of_ble_eq_true rfl, Nat.le_of_ble_eq_true rfl⟩ rfl rfl (hF.at 84 23 98 rfl rfl rfl) ?_
                refine aw_iload dX12_lotOf_171 rfl ?_
                refine aw_ialdq (q := k) (v := (x : Int)) dX12_lotOf_173 ⟨Nat.le_of_ble_eq_true rfl, Nat.le_of_ble_eq_true rfl⟩ rfl (by omega) (by omega) (by decide) rfl e98 ?_
                refine aw_iload_n dX12_lotOf_174 rfl ?_
                refine aw_icmp_ne (tgt := 181) dX12_lotOf_175 rfl (by first | assumption | (unfold ab_In at *; omega)) (by first | assumption | (unfold ab_In at *; omega)) (fun c_175 => ?_) (fun c_175 => ?_)
                · refine aw_iload dX12_lotOf_181 rfl ?_
                  refine aw_iconst dX12_lotOf_183 ?_
                  refine aw_icmp_eq (tgt := 195) dX12_lotOf_184 rfl ⟨by decide, by decide⟩ ⟨by decide, by decide⟩ (fun _ => ?_) (fun c9 => absurd (by decide) c9)
                  refine aw_iinc (ls' := [some (ab_r 84), some (ab_i (m : Int)), some (ab_i (pl : Int)), some (ab_i (n : Int)), some (ab_i ((k : Int) + 1)), some (ab_i (s : Int)), some (ab_i (-1)), some (ab_i (-1)), none]) dX12_lotOf_195 (by decide) rfl rfl ?_
                  refine aw_goto (tgt := 3) dX12_lotOf_198 rfl ?_
                  exact aw_le (ab_le_c (ab_le_c (ab_le_c (ab_le_c (ab_le_c (ab_le_n (ab_le_n (ab_le_n (ab_le_c ab_le_nil))))))))) (nx J hfr hjb (by rw [← hgx, dcK_m]))
                · exfalso; omega
              · exfalso; omega
          · subst hb1
            have hcb := hjb c hcn
            obtain ⟨g, hg9⟩ : ∃ g : Nat, J 99 c = g := ⟨(J 99 c).toNat, by omega⟩
            rw [ht] at hgx
            by_cases hxp : x = pl
            · rw [if_pos hxp, hg9] at hgx
              refine aw_iload dX12_lotOf_36 rfl ?_
              refine aw_iload_n dX12_lotOf_38 rfl ?_
              refine aw_icmp_ge (tgt := 148) dX12_lotOf_39 rfl (by first | assumption | (unfold ab_In at *; omega)) (by first | assumption | (unfold ab_In at *; omega)) (fun c_39 => ?_) (fun c_39 => ?_)
              · refine aw_iload dX12_lotOf_148 rfl ?_
                refine aw_iconst dX12_lotOf_150 ?_
                refine aw_icmp_ne (tgt := 158) dX12_lotOf_151 rfl (by first | assumption | (unfold ab_In at *; omega)) (by first | assumption | (unfold ab_In at *; omega)) (fun c_151 => ?_) (fun c_151 => ?_)
                · refine aw_aload_n dX12_lotOf_158 rfl (by decide) ?_
                  refine aw_getrv (r := 99) dX12_lotOf_159 fX12_53 ⟨Nat.le_of_ble_eq_true rfl, Nat.le_of_ble_eq_true rfl⟩ rfl rfl (hF.at 84 24 99 rfl rfl rfl) ?_
                  refine aw_iload dX12_lotOf_162 rfl ?_
                  refine aw_ialdq (q := c) (v := (g : Int)) dX12_lotOf_164 ⟨Nat.le_of_ble_eq_true rfl, Nat.le_of_ble_eq_true rfl⟩ rfl (by omega) (by omega) (by decide) rfl hg9 ?_
                  refine aw_istore (ls' := [some (ab_r 84), some (ab_i (m : Int)), some (ab_i (pl : Int)), some (ab_i (n : Int)), some (ab_i (k : Int)), some (ab_i (s : Int)), some (ab_i (c : Int)), some (ab_i (g : Int)), none]) dX12_lotOf_165 (by decide) rfl ?_
                  refine aw_aload_n dX12_lotOf_167 rfl (by decide) ?_
                  refine aw_getrv (r := 98) dX12_lotOf_168 fX12_50 ⟨Nat.le_of_ble_eq_true rfl, Nat.le_of_ble_eq_true rfl⟩ rfl rfl (hF.at 84 23 98 rfl rfl rfl) ?_
                  refine aw_iload dX12_lotOf_171 rfl ?_
                  refine aw_ialdq (q := k) (v := (x : Int)) dX12_lotOf_173 ⟨Nat.le_of_ble_eq_true rfl, Nat.le_of_ble_eq_true rfl⟩ rfl (by omega) (by omega) (by decide) rfl e98 ?_
                  refine aw_iload_n dX12_lotOf_174 rfl ?_
                  refine aw_icmp_ne (tgt := 181) dX12_lotOf_175 rfl (by first | assumption | (unfold ab_In at *; omega)) (by first | assumption | (unfold ab_In at *; omega)) (fun c_175 => ?_) (fun c_175 => ?_)
                  · exfalso; omega
                  · refine aw_iload dX12_lotOf_178 rfl ?_
                    rw [← hZ]
                    refine aw_ireturn dX12_lotOf_180 rfl ?_
                    exact ⟨by rw [← hgx], J, rfl, hfr⟩
                · exfalso; omega
              · exfalso; omega
            · rw [if_neg hxp] at hgx
              refine aw_iload dX12_lotOf_36 rfl ?_
              refine aw_iload_n dX12_lotOf_38 rfl ?_
              refine aw_icmp_ge (tgt := 148) dX12_lotOf_39 rfl (by first | assumption | (unfold ab_In at *; omega)) (by first | assumption | (unfold ab_In at *; omega)) (fun c_39 => ?_) (fun c_39 => ?_)
              · refine aw_iload dX12_lotOf_148 rfl ?_
                refine aw_iconst dX12_lotOf_150 ?_
                refine aw_icmp_ne (tgt := 158) dX12_lotOf_151 rfl (by first | assumption | (unfold ab_In at *; omega)) (by first | assumption | (unfold ab_In at *; omega)) (fun c_151 => ?_) (fun c_151 => ?_)
                · refine aw_aload_n dX12_lotOf_158 rfl (by decide) ?_
                  refine aw_getrv (r := 99) dX12_lotOf_159 fX12_53 ⟨Nat.le_of_ble_eq_true rfl, Nat.le_of_ble_eq_true rfl⟩ rfl rfl (hF.at 84 24 99 rfl rfl rfl) ?_
                  refine aw_iload dX12_lotOf_162 rfl ?_
                  refine aw_ialdq (q := c) (v := (g : Int)) dX12_lotOf_164 ⟨Nat.le_of_ble_eq_true rfl, Nat.le_of_ble_eq_true rfl⟩ rfl (by omega) (by omega) (by decide) rfl hg9 ?_
                  refine aw_istore (ls' := [some (ab_r 84), some (ab_i (m : Int)), some (ab_i (pl : Int)), some (ab_i (n : Int)), some (ab_i (k : Int)), some (ab_i (s : Int)), some (ab_i (c : Int)), some (ab_i (g : Int)), none]) dX12_lotOf_165 (by decide) rfl ?_
                  refine aw_aload_n dX12_lotOf_167 rfl (by decide) ?_
                  refine aw_getrv (r := 98) dX12_lotOf_168 fX12_50 ⟨Nat.le_of_ble_eq_true rfl, Nat.le_of_ble_eq_true rfl⟩ rfl rfl (hF.at 84 23 98 rfl rfl rfl) ?_
                  refine aw_iload dX12_lotOf_171 rfl ?_
                  refine aw_ialdq (q := k) (v := (x : Int)) dX12_lotOf_173 ⟨Nat.le_of_ble_eq_true rfl, Nat.le_of_ble_eq_true rfl⟩ rfl (by omega) (by omega) (by decide) rfl e98 ?_
                  refine aw_iload_n dX12_lotOf_174 rfl ?_
                  refine aw_icmp_ne (tgt := 181) dX12_lotOf_175 rfl (by first | assumption | (unfold ab_In at *; omega)) (by first | assumption | (unfold ab_In at *; omega)) (fun c_175 => ?_) (fun c_175 => ?_)
                  · refine aw_iload dX12_lotOf_181 rfl ?_
                    refine aw_iconst dX12_lotOf_183 ?_
                    refine aw_icmp_eq (tgt := 195) dX12_lotOf_184 rfl (by first | assumption | (unfold ab_In at *; omega)) (by first | assumption | (unfold ab_In at *; omega)) (fun c_184 => ?_) (fun c_184 => ?_)
                    · exfalso; omega
                    · refine aw_aload_n dX12_lotOf_187 rfl (by decide) ?_
                      refine aw_getrv (r := 99) dX12_lotOf_188 fX12_53 ⟨Nat.le_of_ble_eq_true rfl, Nat.le_of_ble_eq_true rfl⟩ rfl rfl (hF.at 84 24 99 rfl rfl rfl) ?_
                      refine aw_iload dX12_lotOf_191 rfl ?_
                      refine aw_iconst dX12_lotOf_193 ?_
                      refine aw_iastv (q := c) dX12_lotOf_194 ⟨Nat.le_of_ble_eq_true rfl, Nat.le_of_ble_eq_true rfl⟩ rfl (by omega) (by omega) (by decide) rfl ?_
                      refine aw_iinc (ls' := [some (ab_r 84), some (ab_i (m : Int)), some (ab_i (pl : Int)), some (ab_i (n : Int)), some (ab_i ((k : Int) + 1)), some (ab_i (s : Int)), some (ab_i (c : Int)), some (ab_i (g : Int)), none]) dX12_lotOf_195 (by decide) rfl rfl ?_
                      refine aw_goto (tgt := 3) dX12_lotOf_198 rfl ?_
                      exact aw_le (ab_le_c (ab_le_c (ab_le_c (ab_le_c (ab_le_c (ab_le_n (ab_le_n (ab_le_n (ab_le_c ab_le_nil))))))))) (nx _ (fun i b q => by rw [ab_u_i q]; exact hfr i b q) (fun q hq => by
  by_cases e9 : q = c
  · rw [e9, ab_u_s]; omega
  · rw [ab_u_j e9]; exact hjb q hq) (by rw [← hgx, cK_off hcn ab_u_s (fun q hq => ab_u_j hq)]))
                  · exfalso; omega
                · exfalso; omega
              · exfalso; omega
        | succ d ihd =>
          intro h b hh hb
          have hhb := hjb h (by omega)
          by_cases hf : J 99 h = -1
          · refine aw_iload dX12_lotOf_36 rfl ?_
            refine aw_iload_n dX12_lotOf_38 rfl ?_
            refine aw_icmp_ge (tgt := 148) dX12_lotOf_39 rfl (by first | assumption | (unfold ab_In at *; omega)) (by first | assumption | (unfold ab_In at *; omega)) (fun c_39 => ?_) (fun c_39 => ?_)
            · exfalso; omega
            · refine aw_aload_n dX12_lotOf_42 rfl (by decide) ?_
              refine aw_getrv (r := 99) dX12_lotOf_43 fX12_53 ⟨Nat.le_of_ble_eq_true rfl, Nat.le_of_ble_eq_true rfl⟩ rfl rfl (hF.at 84 24 99 rfl rfl rfl) ?_
              refine aw_iload dX12_lotOf_46 rfl ?_
              refine aw_ialdq (q := h) (v := (-1)) dX12_lotOf_48 ⟨Nat.le_of_ble_eq_true rfl, Nat.le_of_ble_eq_true rfl⟩ rfl (by omega) (by omega) (by decide) rfl hf ?_
              refine aw_iconst dX12_lotOf_49 ?_
              refine aw_icmp_eq (tgt := 142) dX12_lotOf_50 rfl ⟨by decide, by decide⟩ ⟨by decide, by decide⟩ (fun _ => ?_) (fun c9 => absurd (by decide) c9)
              refine aw_iinc (ls' := [some (ab_r 84), some (ab_i (m : Int)), some (ab_i (pl : Int)), some (ab_i (n : Int)), some (ab_i (k : Int)), some (ab_i (s : Int)), some (ab_i b), some (ab_i ((h : Int) + 1)), none]) dX12_lotOf_142 (by decide) rfl rfl ?_
              refine aw_goto (tgt := 36) dX12_lotOf_145 rfl ?_
              exact aw_le (ab_le_c (ab_le_c (ab_le_c (ab_le_c (ab_le_c (ab_le_c (ab_le_c (ab_le_c (ab_le_c ab_le_nil))))))))) (ihd (h + 1) b (by omega) (hb.skip hf))
          · obtain ⟨kh, hkh⟩ : ∃ kh : Nat, J 99 h = kh := ⟨(J 99 h).toNat, by omega⟩
            have hkh4 : kh < 4 := by omega
            rcases hb.bd with hb1 | ⟨c, hb1, hcn, hcf⟩
            · subst hb1
              refine aw_iload dX12_lotOf_36 rfl ?_
              refine aw_iload_n dX12_lotOf_38 rfl ?_
              refine aw_icmp_ge (tgt := 148) dX12_lotOf_39 rfl (by first | assumption | (unfold ab_In at *; omega)) (by first | assumption | (unfold ab_In at *; omega)) (fun c_39 => ?_) (fun c_39 => ?_)
              · exfalso; omega
              · refine aw_aload_n dX12_lotOf_42 rfl (by decide) ?_
                refine aw_getrv (r := 99) dX12_lotOf_43 fX12_53 ⟨Nat.le_of_ble_eq_true rfl, Nat.le_of_ble_eq_true rfl⟩ rfl rfl (hF.at 84 24 99 rfl rfl rfl) ?_
                refine aw_iload dX12_lotOf_46 rfl ?_
                refine aw_ialdq (q := h) (v := (kh : Int)) dX12_lotOf_48 ⟨Nat.le_of_ble_eq_true rfl, Nat.le_of_ble_eq_true rfl⟩ rfl (by omega) (by omega) (by decide) rfl hkh ?_
                refine aw_iconst dX12_lotOf_49 ?_
                refine aw_icmp_eq (tgt := 142) dX12_lotOf_50 rfl (by first | assumption | (unfold ab_In at *; omega)) (by first | assumption | (unfold ab_In at *; omega)) (fun c_50 => ?_) (fun c_50 => ?_)
                · exfalso; omega
                · refine aw_iload dX12_lotOf_53 rfl ?_
                  refine aw_iconst dX12_lotOf_55 ?_
                  refine aw_icmp_ne (tgt := 63) dX12_lotOf_56 rfl ⟨by decide, by decide⟩ ⟨by decide, by decide⟩ (fun c9 => absurd rfl c9) (fun _ => ?_)
                  refine aw_iconst dX12_lotOf_59 ?_
                  refine aw_goto (tgt := 98) dX12_lotOf_60 rfl ?_
                  refine aw_istore (ls' := [some (ab_r 84), some (ab_i (m : Int)), some (ab_i (pl : Int)), some (ab_i (n : Int)), some (ab_i (k : Int)), some (ab_i (s : Int)), some (ab_i (-1)), some (ab_i (h : Int)), some (ab_i 0)]) dX12_lotOf_98 (by decide) rfl ?_
                  refine aw_iload dX12_lotOf_100 rfl ?_
                  refine aw_iconst dX12_lotOf_102 ?_
                  refine aw_icmp_eq (tgt := 133) dX12_lotOf_103 rfl ⟨by decide, by decide⟩ ⟨by decide, by decide⟩ (fun _ => ?_) (fun c9 => absurd (by decide) c9)
                  refine aw_iload dX12_lotOf_133 rfl ?_
                  refine aw_goto (tgt := 140) dX12_lotOf_135 rfl ?_
                  refine aw_istore (ls' := [some (ab_r 84), some (ab_i (m : Int)), some (ab_i (pl : Int)), some (ab_i (n : Int)), some (ab_i (k : Int)), some (ab_i (s : Int)), some (ab_i (h : Int)), some (ab_i (h : Int)), some (ab_i 0)]) dX12_lotOf_140 (by decide) rfl ?_
                  refine aw_iinc (ls' := [some (ab_r 84), some (ab_i (m : Int)), some (ab_i (pl : Int)), some (ab_i (n : Int)), some (ab_i (k : Int)), some (ab_i (s : Int)), some (ab_i (h : Int)), some (ab_i ((h : Int) + 1)), some (ab_i 0)]) dX12_lotOf_142 (by decide) rfl rfl ?_
                  refine aw_goto (tgt := 36) dX12_lotOf_145 rfl ?_
                  exact aw_le (ab_le_c (ab_le_c (ab_le_c (ab_le_c (ab_le_c (ab_le_c (ab_le_c (ab_le_c (ab_le_n ab_le_nil))))))))) (ihd (h + 1) _ (by omega) (hb.first hf))
            · subst hb1
              have hcb := hjb c (by omega)
              obtain ⟨kc, hkc⟩ : ∃ kc : Nat, J 99 c = kc := ⟨(J 99 c).toNat, by omega⟩
              have hkc4 : kc < 4 := by omega
              have hw1 := hw s kh hs hkh4
              have hw2 := hw s kc hs hkc4
              have ew1 := ew (4 * s + kh)
              have ew2 := ew (4 * s + kc)
              refine aw_iload dX12_lotOf_36 rfl ?_
              refine aw_iload_n dX12_lotOf_38 rfl ?_
              refine aw_icmp_ge (tgt := 148) dX12_lotOf_39 rfl (by first | assumption | (unfold ab_In at *; omega)) (by first | assumption | (unfold ab_In at *; omega)) (fun c_39 => ?_) (fun c_39 => ?_)
              · exfalso; omega
              · refine aw_aload_n dX12_lotOf_42 rfl (by decide) ?_
                refine aw_getrv (r := 99) dX12_lotOf_43 fX12_53 ⟨Nat.le_of_ble_eq_true rfl, Nat.le_of_ble_eq_true rfl⟩ rfl rfl (hF.at 84 24 99 rfl rfl rfl) ?_
                refine aw_iload dX12_lotOf_46 rfl ?_
                refine aw_ialdq (q := h) (v := (kh : Int)) dX12_lotOf_48 ⟨Nat.le_of_ble_eq_true rfl, Nat.le_of_ble_eq_true rfl⟩ rfl (by omega) (by omega) (by decide) rfl hkh ?_
                refine aw_iconst dX12_lotOf_49 ?_
                refine aw_icmp_eq (tgt := 142) dX12_lotOf_50 rfl (by first | assumption | (unfold ab_In at *; omega)) (by first | assumption | (unfold ab_In at *; omega)) (fun c_50 => ?_) (fun c_50 => ?_)
                · exfalso; omega
                · refine aw_iload dX12_lotOf_53 rfl ?_
                  refine aw_iconst dX12_lotOf_55 ?_
                  refine aw_icmp_ne (tgt := 63) dX12_lotOf_56 rfl (by first | assumption | (unfold ab_In at *; omega)) (by first | assumption | (unfold ab_In at *; omega)) (fun c_56 => ?_) (fun c_56 => ?_)
                  · refine aw_aload_n dX12_lotOf_63 rfl (by decide) ?_
                    refine aw_getrv (r := 85) dX12_lotOf_64 fX12_7 ⟨Nat.le_of_ble_eq_true rfl, Nat.le_of_ble_eq_true rfl⟩ rfl rfl (hF.at 84 0 85 rfl rfl rfl) ?_
                    refine aw_iconst dX12_lotOf_67 ?_
                    refine aw_iload dX12_lotOf_68 rfl ?_
                    refine aw_imul dX12_lotOf_70 ?_
                    refine aw_aload_n dX12_lotOf_71 rfl (by decide) ?_
                    refine aw_getrv (r := 99) dX12_lotOf_72 fX12_53 ⟨Nat.le_of_ble_eq_true rfl, Nat.le_of_ble_eq_true rfl⟩ rfl rfl (hF.at 84 24 99 rfl rfl rfl) ?_
                    refine aw_iload dX12_lotOf_75 rfl ?_
                    refine aw_ialdq (q := h) (v := (kh : Int)) dX12_lotOf_77 ⟨Nat.le_of_ble_eq_true rfl, Nat.le_of_ble_eq_true rfl⟩ rfl (by omega) (by omega) (by decide) rfl hkh ?_
                    refine aw_iadd dX12_lotOf_78 ?_
                    refine aw_ialdq (q := (4 * s + kh)) (v := I 85 (4 * s + kh)) dX12_lotOf_79 ⟨Nat.le_of_ble_eq_true rfl, Nat.le_of_ble_eq_true rfl⟩ rfl (by omega) (by omega) (by decide) (by omega) ew1 ?_
                    refine aw_aload_n dX12_lotOf_80 rfl (by decide) ?_
                    refine aw_getrv (r := 85) dX12_lotOf_81 fX12_7 ⟨Nat.le_of_ble_eq_true rfl, Nat.le_of_ble_eq_true rfl⟩ rfl rfl (hF.at 84 0 85 rfl rfl rfl) ?_
                    refine aw_iconst dX12_lotOf_84 ?_
                    refine aw_iload dX12_lotOf_85 rfl ?_
                    refine aw_imul dX12_lotOf_87 ?_
                    refine aw_aload_n dX12_lotOf_88 rfl (by decide) ?_
                    refine aw_getrv (r := 99) dX12_lotOf_89 fX12_53 ⟨Nat.le_of_ble_eq_true rfl, Nat.le_of_ble_eq_true rfl⟩ rfl rfl (hF.at 84 24 99 rfl rfl rfl) ?_
                    refine aw_iload dX12_lotOf_92 rfl ?_
                    refine aw_ialdq (q := c) (v := (kc : Int)) dX12_lotOf_94 ⟨Nat.le_of_ble_eq_true rfl, Nat.le_of_ble_eq_true rfl⟩ rfl (by omega) (by omega) (by decide) rfl hkc ?_
                    refine aw_iadd dX12_lotOf_95 ?_
                    refine aw_ialdq (q := (4 * s + kc)) (v := I 85 (4 * s + kc)) dX12_lotOf_96 ⟨Nat.le_of_ble_eq_true rfl, Nat.le_of_ble_eq_true rfl⟩ rfl (by omega) (by omega) (by decide) (by omega) ew2 ?_
                    refine aw_isub dX12_lotOf_97 ?_
                    refine aw_istore (ls' := [some (ab_r 84), some (ab_i (m : Int)), some (ab_i (pl : Int)), some (ab_i (n : Int)), some (ab_i (k : Int)), some (ab_i (s : Int)), some (ab_i (c : Int)), some (ab_i (h : Int)), some (ab_i ((I 85 (4 * s + kh)) - (I 85 (4 * s + kc))))]) dX12_lotOf_98 (by decide) rfl ?_
                    refine aw_iload dX12_lotOf_100 rfl ?_
                    refine aw_iconst dX12_lotOf_102 ?_
                    refine aw_icmp_eq (tgt := 133) dX12_lotOf_103 rfl (by first | assumption | (unfold ab_In at *; omega)) (by first | assumption | (unfold ab_In at *; omega)) (fun c_103 => ?_) (fun c_103 => ?_)
                    · exfalso; omega
                    · refine aw_iload dX12_lotOf_106 rfl ?_
                      refine aw_if_gt (tgt := 133) dX12_lotOf_108 rfl (by first | assumption | (unfold ab_In at *; omega)) (fun c_108 => ?_) (fun c_108 => ?_)
                      · refine aw_iload dX12_lotOf_133 rfl ?_
                        refine aw_goto (tgt := 140) dX12_lotOf_135 rfl ?_
                        refine aw_istore (ls' := [some (ab_r 84), some (ab_i (m : Int)), some (ab_i (pl : Int)), some (ab_i (n : Int)), some (ab_i (k : Int)), some (ab_i (s : Int)), some (ab_i (h : Int)), some (ab_i (h : Int)), some (ab_i ((I 85 (4 * s + kh)) - (I 85 (4 * s + kc))))]) dX12_lotOf_140 (by decide) rfl ?_
                        refine aw_iinc (ls' := [some (ab_r 84), some (ab_i (m : Int)), some (ab_i (pl : Int)), some (ab_i (n : Int)), some (ab_i (k : Int)), some (ab_i (s : Int)), some (ab_i (h : Int)), some (ab_i ((h : Int) + 1)), some (ab_i ((I 85 (4 * s + kh)) - (I 85 (4 * s + kc))))]) dX12_lotOf_142 (by decide) rfl rfl ?_
                        refine aw_goto (tgt := 36) dX12_lotOf_145 rfl ?_
                        exact aw_le (ab_le_c (ab_le_c (ab_le_c (ab_le_c (ab_le_c (ab_le_c (ab_le_c (ab_le_c (ab_le_n ab_le_nil))))))))) (ihd (h + 1) _ (by omega) (hb.yes hf (by rw [hwx, hkh, hkc]; show I 85 (4 * s + kc) < I 85 (4 * s + kh) ∨ (I 85 (4 * s + kh) = I 85 (4 * s + kc) ∧ (kh : Int) < kc); omega)))
                      · refine aw_iload dX12_lotOf_111 rfl ?_
                        refine aw_if_ne (tgt := 138) dX12_lotOf_113 rfl (by first | assumption | (unfold ab_In at *; omega)) (fun c_113 => ?_) (fun c_113 => ?_)
                        · refine aw_iload dX12_lotOf_138 rfl ?_
                          refine aw_istore (ls' := [some (ab_r 84), some (ab_i (m : Int)), some (ab_i (pl : Int)), some (ab_i (n : Int)), some (ab_i (k : Int)), some (ab_i (s : Int)), some (ab_i (c : Int)), some (ab_i (h : Int)), some (ab_i ((I 85 (4 * s + kh)) - (I 85 (4 * s + kc))))]) dX12_lotOf_140 (by decide) rfl ?_
                          refine aw_iinc (ls' := [some (ab_r 84), some (ab_i (m : Int)), some (ab_i (pl : Int)), some (ab_i (n : Int)), some (ab_i (k : Int)), some (ab_i (s : Int)), some (ab_i (c : Int)), some (ab_i ((h : Int) + 1)), some (ab_i ((I 85 (4 * s + kh)) - (I 85 (4 * s + kc))))]) dX12_lotOf_142 (by decide) rfl rfl ?_
                          refine aw_goto (tgt := 36) dX12_lotOf_145 rfl ?_
                          exact aw_le (ab_le_c (ab_le_c (ab_le_c (ab_le_c (ab_le_c (ab_le_c (ab_le_c (ab_le_c (ab_le_n ab_le_nil))))))))) (ihd (h + 1) _ (by omega) (hb.keep (by rw [hwx, hkh, hkc]; show ¬ (I 85 (4 * s + kc) < I 85 (4 * s + kh) ∨ (I 85 (4 * s + kh) = I 85 (4 * s + kc) ∧ (kh : Int) < kc)); omega)))
                        · refine aw_aload_n dX12_lotOf_116 rfl (by decide) ?_
                          refine aw_getrv (r := 99) dX12_lotOf_117 fX12_53 ⟨Nat.le_of_ble_eq_true rfl, Nat.le_of_ble_eq_true rfl⟩ rfl rfl (hF.at 84 24 99 rfl rfl rfl) ?_
                          refine aw_iload dX12_lotOf_120 rfl ?_
                          refine aw_ialdq (q := h) (v := (kh : Int)) dX12_lotOf_122 ⟨Nat.le_of_ble_eq_true rfl, Nat.le_of_ble_eq_true rfl⟩ rfl (by omega) (by omega) (by decide) rfl hkh ?_
                          refine aw_aload_n dX12_lotOf_123 rfl (by decide) ?_
                          refine aw_getrv (r := 99) dX12_lotOf_124 fX12_53 ⟨Nat.le_of_ble_eq_true rfl, Nat.le_of_ble_eq_true rfl⟩ rfl rfl (hF.at 84 24 99 rfl rfl rfl) ?_
                          refine aw_iload dX12_lotOf_127 rfl ?_
                          refine aw_ialdq (q := c) (v := (kc : Int)) dX12_lotOf_129 ⟨Nat.le_of_ble_eq_true rfl, Nat.le_of_ble_eq_true rfl⟩ rfl (by omega) (by omega) (by decide) rfl hkc ?_
                          refine aw_icmp_ge (tgt := 138) dX12_lotOf_130 rfl (by first | assumption | (unfold ab_In at *; omega)) (by first | assumption | (unfold ab_In at *; omega)) (fun c_130 => ?_) (fun c_130 => ?_)
                          · refine aw_iload dX12_lotOf_138 rfl ?_
                            refine aw_istore (ls' := [some (ab_r 84), some (ab_i (m : Int)), some (ab_i (pl : Int)), some (ab_i (n : Int)), some (ab_i (k : Int)), some (ab_i (s : Int)), some (ab_i (c : Int)), some (ab_i (h : Int)), some (ab_i ((I 85 (4 * s + kh)) - (I 85 (4 * s + kc))))]) dX12_lotOf_140 (by decide) rfl ?_
                            refine aw_iinc (ls' := [some (ab_r 84), some (ab_i (m : Int)), some (ab_i (pl : Int)), some (ab_i (n : Int)), some (ab_i (k : Int)), some (ab_i (s : Int)), some (ab_i (c : Int)), some (ab_i ((h : Int) + 1)), some (ab_i ((I 85 (4 * s + kh)) - (I 85 (4 * s + kc))))]) dX12_lotOf_142 (by decide) rfl rfl ?_
                            refine aw_goto (tgt := 36) dX12_lotOf_145 rfl ?_
                            exact aw_le (ab_le_c (ab_le_c (ab_le_c (ab_le_c (ab_le_c (ab_le_c (ab_le_c (ab_le_c (ab_le_n ab_le_nil))))))))) (ihd (h + 1) _ (by omega) (hb.keep (by rw [hwx, hkh, hkc]; show ¬ (I 85 (4 * s + kc) < I 85 (4 * s + kh) ∨ (I 85 (4 * s + kh) = I 85 (4 * s + kc) ∧ (kh : Int) < kc)); omega)))
                          · refine aw_iload dX12_lotOf_133 rfl ?_
                            refine aw_goto (tgt := 140) dX12_lotOf_135 rfl ?_
                            refine aw_istore (ls' := [some (ab_r 84), some (ab_i (m : Int)), some (ab_i (pl : Int)), some (ab_i (n : Int)), some (ab_i (k : Int)), some (ab_i (s : Int)), some (ab_i (h : Int)), some (ab_i (h : Int)), some (ab_i ((I 85 (4 * s + kh)) - (I 85 (4 * s + kc))))]) dX12_lotOf_140 (by decide) rfl ?_
                            refine aw_iinc (ls' := [some (ab_r 84), some (ab_i (m : Int)), some (ab_i (pl : Int)), some (ab_i (n : Int)), some (ab_i (k : Int)), some (ab_i (s : Int)), some (ab_i (h : Int)), some (ab_i ((h : Int) + 1)), some (ab_i ((I 85 (4 * s + kh)) - (I 85 (4 * s + kc))))]) dX12_lotOf_142 (by decide) rfl rfl ?_
                            refine aw_goto (tgt := 36) dX12_lotOf_145 rfl ?_
                            exact aw_le (ab_le_c (ab_le_c (ab_le_c (ab_le_c (ab_le_c (ab_le_c (ab_le_c (ab_le_c (ab_le_n ab_le_nil))))))))) (ihd (h + 1) _ (by omega) (hb.yes hf (by rw [hwx, hkh, hkc]; show I 85 (4 * s + kc) < I 85 (4 * s + kh) ∨ (I 85 (4 * s + kh) = I 85 (4 * s + kc) ∧ (kh : Int) < kc); omega)))
                  · exfalso; omega
      refine aw_iload dX12_lotOf_3 rfl ?_
      refine aw_iload_n dX12_lotOf_5 rfl ?_
      refine aw_icmp_ge (tgt := 201) dX12_lotOf_6 rfl (by first | assumption | (unfold ab_In at *; omega)) (by first | assumption | (unfold ab_In at *; omega)) (fun c_6 => ?_) (fun c_6 => ?_)
      · exfalso; omega
      · refine aw_aload_n dX12_lotOf_9 rfl (by decide) ?_
        refine aw_getrv (r := 89) dX12_lotOf_10 fX12_22 ⟨Nat.le_of_ble_eq_true rfl, Nat.le_of_ble_eq_true rfl⟩ rfl rfl (hF.at 84 6 89 rfl rfl rfl) ?_
        refine aw_iconst dX12_lotOf_13 ?_
        refine aw_aload_n dX12_lotOf_14 rfl (by decide) ?_
        refine aw_getrv (r := 91) dX12_lotOf_15 fX12_28 ⟨Nat.le_of_ble_eq_true rfl, Nat.le_of_ble_eq_true rfl⟩ rfl rfl (hF.at 84 8 91 rfl rfl rfl) ?_
        refine aw_aload_n dX12_lotOf_18 rfl (by decide) ?_
        refine aw_getrv (r := 98) dX12_lotOf_19 fX12_50 ⟨Nat.le_of_ble_eq_true rfl, Nat.le_of_ble_eq_true rfl⟩ rfl rfl (hF.at 84 23 98 rfl rfl rfl) ?_
        refine aw_iload dX12_lotOf_22 rfl ?_
        refine aw_ialdq (q := k) (v := (x : Int)) dX12_lotOf_24 ⟨Nat.le_of_ble_eq_true rfl, Nat.le_of_ble_eq_true rfl⟩ rfl (by omega) (by omega) (by decide) rfl e98 ?_
        refine aw_ialdq (q := x) (v := (o : Int)) dX12_lotOf_25 ⟨Nat.le_of_ble_eq_true rfl, Nat.le_of_ble_eq_true rfl⟩ rfl (by omega) (by omega) (by decide) rfl e91 ?_
        refine aw_iadd dX12_lotOf_26 ?_
        refine aw_ialdq (q := o) (v := (s : Int)) dX12_lotOf_27 ⟨Nat.le_of_ble_eq_true rfl, Nat.le_of_ble_eq_true rfl⟩ rfl (by omega) (by omega) (by decide) (by omega) e89 ?_
        refine aw_istore (ls' := [some (ab_r 84), some (ab_i (m : Int)), some (ab_i (pl : Int)), some (ab_i (n : Int)), some (ab_i (k : Int)), some (ab_i (s : Int)), none, none, none]) dX12_lotOf_28 (by decide) rfl ?_
        refine aw_iconst dX12_lotOf_30 ?_
        refine aw_istore (ls' := [some (ab_r 84), some (ab_i (m : Int)), some (ab_i (pl : Int)), some (ab_i (n : Int)), some (ab_i (k : Int)), some (ab_i (s : Int)), some (ab_i (-1)), none, none]) dX12_lotOf_31 (by decide) rfl ?_
        refine aw_iconst dX12_lotOf_33 ?_
        refine aw_istore (ls' := [some (ab_r 84), some (ab_i (m : Int)), some (ab_i (pl : Int)), some (ab_i (n : Int)), some (ab_i (k : Int)), some (ab_i (s : Int)), some (ab_i (-1)), some (ab_i 0), none]) dX12_lotOf_34 (by decide) rfl ?_
        exact ip n 0 (-1) (by omega) (Or.inl ⟨rfl, fun q hq => by omega⟩)
  refine aw_iconst dX12_lotOf_0 ?_
  refine aw_istore (ls' := [some (ab_r 84), some (ab_i (m : Int)), some (ab_i (pl : Int)), some (ab_i (n : Int)), some (ab_i 0), none, none, none, none]) dX12_lotOf_1 (by decide) rfl ?_
  exact lp l [] 0 I rfl rfl (fun _ _ _ => rfl) hlf hRS
set_option maxHeartbeats 4000000 in
set_option maxRecDepth 100000 in
theorem ct_X12_lot (G : ab_G) (I : Nat → Nat → Int) (F : Nat → Nat → Nat) (hF : ab_FB F) (N : Nat) (W nx : Int) (hb : ∀ p, p < N → PB W nx (rt (I 89) p)) (hW : W ≤ 6000) (hnx : nx ≤ 100000) (hN12 : N ≤ 12) (hn9 : ∀ s, s < 4 → 1 ≤ I 86 s ∧ I 86 s ≤ 9) (ho : ab_In (I 95 0)) (hN : I 89 84 = N) (hnm : ∀ a b, a < N → b < N → a ≠ b → I 89 (12 + a) ≠ I 89 (12 + b)) (m pl n : Nat) (hmN : (m : Int) = if 6 < N then 6 else (N : Int)) (hpl : pl < m) (hn1 : 1 ≤ n) (hn4 : n ≤ 4) (hs9 kd wc : Int) (hkd : -1 ≤ kd ∧ kd ≤ 3) (hwc : 0 ≤ wc ∧ wc ≤ 1) (sr : Nat → Nat) (hsr : ∀ x, sr x < 4) (hsx : ∀ x, x < m → I 89 ((sd (fun a b => ah (I 95 0) (n4 (I 86)) (rt (I 89) a) (rt (I 89) b)) id N) x) = (sr x : Int)) (hw : ∀ s k, s < 4 → k < 4 → 0 ≤ I 85 (4 * s + k) ∧ I 85 (4 * s + k) ≤ 99) : Ct G 2 0 0 YX12_lot [ab_r 84, ab_i (pl : Int), ab_i hs9, ab_i (n : Int), ab_i kd, ab_i wc] (104, I, F) (fun r h => r = some (ab_i (ab_l2i (((if wc = 0 then gB (okL (fun x k => I 85 (4 * sr x + k)) pl kd (cK (hkL hs9) n)) m m [] else fct m) / Nat.gcd (gB (okL (fun x k => I 85 (4 * sr x + k)) pl kd (cK (hkL hs9) n)) m m []) (fct m) : Nat) : Int))) ∧ ∃ J : Nat → Nat → Int, h = (104, J, F) ∧ ∀ i b, i ≠ 91 → i ≠ 98 → i ≠ 99 → J i b = I i b) := by
  refine Ct.ofW kX12_lot (ls := [some (ab_r 84), some (ab_i (pl : Int)), some (ab_i hs9), some (ab_i (n : Int)), some (ab_i kd), some (ab_i wc), none, none, none, none, none, none, none, none]) (Nat.le_of_ble_eq_true rfl) rfl ?_
  generalize hZ : ab_Z G (fun r h => r = some (ab_i (ab_l2i (((if wc = 0 then gB (okL (fun x k => I 85 (4 * sr x + k)) pl kd (cK (hkL hs9) n)) m m [] else fct m) / Nat.gcd (gB (okL (fun x k => I 85 (4 * sr x + k)) pl kd (cK (hkL hs9) n)) m m []) (fct m) : Nat) : Int))) ∧ ∃ J : Nat → Nat → Int, h = (104, J, F) ∧ ∀ i b, i ≠ 91 → i ≠ 98 → i ≠ 99 → J i b = I i b) 0 0 = Z
  have hm6 : m ≤ 6 := by split at hmN <;> omega
  have hmle : m ≤ N := by split at hmN <;> omega
  have hfm := (fct_fac ⟨m, by omega⟩).2
  simp only [] at hfm
  have core : ∀ (I2 : Nat → Nat → Int), (∀ i b, i ≠ 91 → I2 i b = I i b) → (∀ q, q < N → I2 91 q = ((sd (fun a b => ah (I 95 0) (n4 (I 86)) (rt (I 89) a) (rt (I 89) b)) id N) q : Int)) → ∀ (e : Nat) (pre : List Nat), pre.length + e + 1 = m → pre.Nodup → (∀ x, x ∈ pre → x < m) → ∀ (u x a b d : Nat) (J : Nat → Nat → Int), pre.length = d → x + u = m → J 98 d = (x : Int) - 1 → RLs (J 98) pre → (∀ i b, i ≠ 98 → i ≠ 99 → J i b = I2 i b) → (∀ (J2 : Nat → Nat → Int) (dm : Int), dm = (d : Int) - 1 → RLs (J2 98) pre → (∀ i b, i ≠ 98 → i ≠ 99 → J2 i b = I2 i b) → aW G YX12_lot (ab_rm 2 0 0) Z 0 0 (104, J2, F) 93 [some (ab_r 84), some (ab_i (pl : Int)), some (ab_i hs9), some (ab_i (n : Int)), some (ab_i kd), some (ab_i wc), some (ab_i (m : Int)), some (ab_l ((a + smX (fun x => if x ∈ pre then 0 else gB (fun _ => true) m e (pre ++ [x])) u x : Nat) : Int)), none, some (ab_l ((b + smX (fun x => if x ∈ pre then 0 else gB (okL (fun x k => I 85 (4 * sr x + k)) pl kd (cK (hkL hs9) n)) m e (pre ++ [x])) u x : Nat) : Int)), none, some (ab_i dm), none, none] []) → aW G YX12_lot (ab_rm 2 0 0) Z 0 0 (104, J, F) 93 [some (ab_r 84), some (ab_i (pl : Int)), some (ab_i hs9), some (ab_i (n : Int)), some (ab_i kd), some (ab_i wc), some (ab_i (m : Int)), some (ab_l (a : Int)), none, some (ab_l (b : Int)), none, some (ab_i (d : Int)), none, none] [] := by
    intro I2 hI2 hI91 e
    have hodx : ∀ x, x < m → I2 91 x = ((sd (fun a b => ah (I 95 0) (n4 (I 86)) (rt (I 89) a) (rt (I 89) b)) id N) x : Int) ∧ (sd (fun a b => ah (I 95 0) (n4 (I 86)) (rt (I 89) a) (rt (I 89) b)) id N) x < 12 ∧ I2 89 ((sd (fun a b => ah (I 95 0) (n4 (I 86)) (rt (I 89) a) (rt (I 89) b)) id N) x) = (sr x : Int) := fun x hx => ⟨hI91 x (by omega), by have := sd_ltN (fun a b => ah (I 95 0) (n4 (I 86)) (rt (I 89) a) (rt (I 89) b)) N (show x < N by omega); omega, by rw [hI2 89 _ (by decide)]; exact hsx x hx⟩
    induction e with
    | zero =>
      intro pre hpe hnd hlt u
      induction u with
      | zero =>
        intro x a b d J hd hx h98 hrl hfr hK
        have hd6 : d < 6 := by omega
        generalize hJ1 : ab_u J 98 d (x : Int) = J1
        have j98d : J1 98 d = (x : Int) := by rw [← hJ1, ab_u_s]
        have hrl1 : RLs (J1 98) pre := hrl.of (fun i hi => by rw [← hJ1, ab_u_j (by omega)])
        have hfr1 : (∀ i b, i ≠ 98 → i ≠ 99 → J1 i b = I2 i b) := fun i b q1 q2 => by rw [← hJ1, ab_u_i q1]; exact hfr i b q1 q2
        have s157 : aW G YX12_lot (ab_rm 2 0 0) Z 0 0 (104, J1, F) 157 [some (ab_r 84), some (ab_i (pl : Int)), some (ab_i hs9), some (ab_i (n : Int)), some (ab_i kd), some (ab_i wc), some (ab_i (m : Int)), some (ab_l (a : Int)), none, some (ab_l (b : Int)), none, some (ab_i (d : Int)), some (ab_i (frL pre x d)), some (ab_i (d : Int))] [] := by
          refine aw_aload_n dX12_lot_157 rfl (by decide) ?_
          refine aw_getrv (r := 98) dX12_lot_158 fX12_50 ⟨Nat.le_of_ble_eq_true rfl, Nat.le_of_ble_eq_true rfl⟩ rfl rfl (hF.at 84 23 98 rfl rfl rfl) ?_
          refine aw_iload dX12_lot_161 rfl ?_
          refine aw_ialdq (q := d) (v := (x : Int)) dX12_lot_163 ⟨Nat.le_of_ble_eq_true rfl, Nat.le_of_ble_eq_true rfl⟩ rfl (by omega) (by omega) (by decide) rfl j98d ?_
          refine aw_iload dX12_lot_164 rfl ?_
          refine aw_icmp_ne (tgt := 175) dX12_lot_166 rfl (by first | assumption | (unfold ab_In at *; omega)) (by first | assumption | (unfold ab_In at *; omega)) (fun c_166 => ?_) (fun c_166 => ?_)
          · exfalso; omega
          · refine aw_iinc (ls' := [some (ab_r 84), some (ab_i (pl : Int)), some (ab_i hs9), some (ab_i (n : Int)), some (ab_i kd), some (ab_i wc), some (ab_i (m : Int)), some (ab_l (a : Int)), none, some (ab_l (b : Int)), none, some (ab_i ((d : Int) + (-1))), some (ab_i (frL pre x d)), some (ab_i (d : Int))]) dX12_lot_169 (by decide) rfl rfl ?_
            refine aw_goto (tgt := 283) dX12_lot_172 rfl ?_
            refine aw_goto (tgt := 93) dX12_lot_283 rfl ?_
            have h9 := hK J1 _ (show (d : Int) + (-1) = (d : Int) - 1 by omega) hrl1 hfr1
            exact aw_le (ab_le_c (ab_le_c (ab_le_c (ab_le_c (ab_le_c (ab_le_c (ab_le_c (ab_le_c (ab_le_c (ab_le_c (ab_le_c (ab_le_c (ab_le_n (ab_le_n ab_le_nil)))))))))))))) h9
        have lpF : ∀ (q k : Nat) (fr : Int), k + q = d → fr = frL pre x k → aW G YX12_lot (ab_rm 2 0 0) Z 0 0 (104, J1, F) 115 [some (ab_r 84), some (ab_i (pl : Int)), some (ab_i hs9), some (ab_i (n : Int)), some (ab_i kd), some (ab_i wc), some (ab_i (m : Int)), some (ab_l (a : Int)), none, some (ab_l (b : Int)), none, some (ab_i (d : Int)), some (ab_i fr), some (ab_i (k : Int))] [] := by
          intro q
          induction q with
          | zero =>
            intro k fr hk hf
            have hkd : k = d := by omega
            subst hf
            rw [hkd]
            refine aw_iload dX12_lot_115 rfl ?_
            refine aw_iload dX12_lot_117 rfl ?_
            refine aw_icmp_ge (tgt := 157) dX12_lot_119 rfl (by first | assumption | (unfold ab_In at *; omega)) (by first | assumption | (unfold ab_In at *; omega)) (fun c_119 => ?_) (fun c_119 => ?_)
            · exact s157
            · exfalso; omega
          | succ q ihq =>
            intro k fr hk hf
            have hfb := frL_bd pre x k
            rw [← hf] at hfb
            obtain ⟨y, hy⟩ : ∃ y, pre[k]? = some y := ⟨pre[k]'(by omega), List.getElem?_eq_getElem (by omega)⟩
            have hym := hlt y (List.mem_of_getElem? hy)
            have j98k : J1 98 k = (y : Int) := hrl1.at hy
            have hfs := frL_s (x := x) hy
            rw [← hf] at hfs
            refine aw_iload dX12_lot_115 rfl ?_
            refine aw_iload dX12_lot_117 rfl ?_
            refine aw_icmp_ge (tgt := 157) dX12_lot_119 rfl (by first | assumption | (unfold ab_In at *; omega)) (by first | assumption | (unfold ab_In at *; omega)) (fun c_119 => ?_) (fun c_119 => ?_)
            · exfalso; omega
            · refine aw_iload dX12_lot_122 rfl ?_
              refine aw_if_eq (tgt := 148) dX12_lot_124 rfl (by first | assumption | (unfold ab_In at *; omega)) (fun c_124 => ?_) (fun c_124 => ?_)
              · refine aw_iconst dX12_lot_148 ?_
                refine aw_istore (ls' := [some (ab_r 84), some (ab_i (pl : Int)), some (ab_i hs9), some (ab_i (n : Int)), some (ab_i kd), some (ab_i wc), some (ab_i (m : Int)), some (ab_l (a : Int)), none, some (ab_l (b : Int)), none, some (ab_i (d : Int)), some (ab_i 0), some (ab_i (k : Int))]) dX12_lot_149 (by decide) rfl ?_
                refine aw_iinc (ls' := [some (ab_r 84), some (ab_i (pl : Int)), some (ab_i hs9), some (ab_i (n : Int)), some (ab_i kd), some (ab_i wc), some (ab_i (m : Int)), some (ab_l (a : Int)), none, some (ab_l (b : Int)), none, some (ab_i (d : Int)), some (ab_i 0), some (ab_i ((k : Int) + 1))]) dX12_lot_151 (by decide) rfl rfl ?_
                refine aw_goto (tgt := 115) dX12_lot_154 rfl ?_
                exact ihq (k + 1) _ (by omega) (by rw [hfs]; first | rw [if_pos (by omega)] | rw [if_neg (by omega), if_pos (by omega)] | rw [if_neg (by omega), if_neg (by omega)])
              · refine aw_aload_n dX12_lot_127 rfl (by decide) ?_
                refine aw_getrv (r := 98) dX12_lot_128 fX12_50 ⟨Nat.le_of_ble_eq_true rfl, Nat.le_of_ble_eq_true rfl⟩ rfl rfl (hF.at 84 23 98 rfl rfl rfl) ?_
                refine aw_iload dX12_lot_131 rfl ?_
                refine aw_ialdq (q := k) (v := (y : Int)) dX12_lot_133 ⟨Nat.le_of_ble_eq_true rfl, Nat.le_of_ble_eq_true rfl⟩ rfl (by omega) (by omega) (by decide) rfl j98k ?_
                refine aw_aload_n dX12_lot_134 rfl (by decide) ?_
                refine aw_getrv (r := 98) dX12_lot_135 fX12_50 ⟨Nat.le_of_ble_eq_true rfl, Nat.le_of_ble_eq_true rfl⟩ rfl rfl (hF.at 84 23 98 rfl rfl rfl) ?_
                refine aw_iload dX12_lot_138 rfl ?_
                refine aw_ialdq (q := d) (v := (x : Int)) dX12_lot_140 ⟨Nat.le_of_ble_eq_true rfl, Nat.le_of_ble_eq_true rfl⟩ rfl (by omega) (by omega) (by decide) rfl j98d ?_
                refine aw_icmp_eq (tgt := 148) dX12_lot_141 rfl (by first | assumption | (unfold ab_In at *; omega)) (by first | assumption | (unfold ab_In at *; omega)) (fun c_141 => ?_) (fun c_141 => ?_)
                · refine aw_iconst dX12_lot_148 ?_
                  refine aw_istore (ls' := [some (ab_r 84), some (ab_i (pl : Int)), some (ab_i hs9), some (ab_i (n : Int)), some (ab_i kd), some (ab_i wc), some (ab_i (m : Int)), some (ab_l (a : Int)), none, some (ab_l (b : Int)), none, some (ab_i (d : Int)), some (ab_i 0), some (ab_i (k : Int))]) dX12_lot_149 (by decide) rfl ?_
                  refine aw_iinc (ls' := [some (ab_r 84), some (ab_i (pl : Int)), some (ab_i hs9), some (ab_i (n : Int)), some (ab_i kd), some (ab_i wc), some (ab_i (m : Int)), some (ab_l (a : Int)), none, some (ab_l (b : Int)), none, some (ab_i (d : Int)), some (ab_i 0), some (ab_i ((k : Int) + 1))]) dX12_lot_151 (by decide) rfl rfl ?_
                  refine aw_goto (tgt := 115) dX12_lot_154 rfl ?_
                  exact ihq (k + 1) _ (by omega) (by rw [hfs]; first | rw [if_pos (by omega)] | rw [if_neg (by omega), if_pos (by omega)] | rw [if_neg (by omega), if_neg (by omega)])
                · refine aw_iconst dX12_lot_144 ?_
                  refine aw_goto (tgt := 149) dX12_lot_145 rfl ?_
                  refine aw_istore (ls' := [some (ab_r 84), some (ab_i (pl : Int)), some (ab_i hs9), some (ab_i (n : Int)), some (ab_i kd), some (ab_i wc), some (ab_i (m : Int)), some (ab_l (a : Int)), none, some (ab_l (b : Int)), none, some (ab_i (d : Int)), some (ab_i 1), some (ab_i (k : Int))]) dX12_lot_149 (by decide) rfl ?_
                  refine aw_iinc (ls' := [some (ab_r 84), some (ab_i (pl : Int)), some (ab_i hs9), some (ab_i (n : Int)), some (ab_i kd), some (ab_i wc), some (ab_i (m : Int)), some (ab_l (a : Int)), none, some (ab_l (b : Int)), none, some (ab_i (d : Int)), some (ab_i 1), some (ab_i ((k : Int) + 1))]) dX12_lot_151 (by decide) rfl rfl ?_
                  refine aw_goto (tgt := 115) dX12_lot_154 rfl ?_
                  exact ihq (k + 1) _ (by omega) (by rw [hfs]; first | rw [if_pos (by omega)] | rw [if_neg (by omega), if_pos (by omega)] | rw [if_neg (by omega), if_neg (by omega)])
        refine aw_iload dX12_lot_93 rfl ?_
        refine aw_if_lt (tgt := 286) dX12_lot_95 rfl (by first | assumption | (unfold ab_In at *; omega)) (fun c_95 => ?_) (fun c_95 => ?_)
        · exfalso; omega
        · refine aw_aload_n dX12_lot_98 rfl (by decide) ?_
          refine aw_getrv (r := 98) dX12_lot_99 fX12_50 ⟨Nat.le_of_ble_eq_true rfl, Nat.le_of_ble_eq_true rfl⟩ rfl rfl (hF.at 84 23 98 rfl rfl rfl) ?_
          refine aw_iload dX12_lot_102 rfl ?_
          refine aw_dup2 dX12_lot_104 rfl rfl ?_
          refine aw_ialdq (q := d) (v := ((x : Int) - 1)) dX12_lot_105 ⟨Nat.le_of_ble_eq_true rfl, Nat.le_of_ble_eq_true rfl⟩ rfl (by omega) (by omega) (by decide) rfl h98 ?_
          refine aw_iconst dX12_lot_106 ?_
          refine aw_iadd dX12_lot_107 ?_
          refine aw_to (z := (x : Int)) (by omega) ?_
          refine aw_iastv (q := d) dX12_lot_108 ⟨Nat.le_of_ble_eq_true rfl, Nat.le_of_ble_eq_true rfl⟩ rfl (by omega) (by omega) (by decide) rfl ?_
          refine aw_iconst dX12_lot_109 ?_
          refine aw_istore (ls' := [some (ab_r 84), some (ab_i (pl : Int)), some (ab_i hs9), some (ab_i (n : Int)), some (ab_i kd), some (ab_i wc), some (ab_i (m : Int)), some (ab_l (a : Int)), none, some (ab_l (b : Int)), none, some (ab_i (d : Int)), some (ab_i 1), none]) dX12_lot_110 (by decide) rfl ?_
          refine aw_iconst dX12_lot_112 ?_
          refine aw_istore (ls' := [some (ab_r 84), some (ab_i (pl : Int)), some (ab_i hs9), some (ab_i (n : Int)), some (ab_i kd), some (ab_i wc), some (ab_i (m : Int)), some (ab_l (a : Int)), none, some (ab_l (b : Int)), none, some (ab_i (d : Int)), some (ab_i 1), some (ab_i 0)]) dX12_lot_113 (by decide) rfl ?_
          rw [hJ1]
          exact lpF d 0 1 (by omega) rfl
      | succ u ihu =>
        intro x a b d J hd hx h98 hrl hfr hK
        have hd6 : d < 6 := by omega
        generalize hJ1 : ab_u J 98 d (x : Int) = J1
        have j98d : J1 98 d = (x : Int) := by rw [← hJ1, ab_u_s]
        have hrl1 : RLs (J1 98) pre := hrl.of (fun i hi => by rw [← hJ1, ab_u_j (by omega)])
        have hfr1 : (∀ i b, i ≠ 98 → i ≠ 99 → J1 i b = I2 i b) := fun i b q1 q2 => by rw [← hJ1, ab_u_i q1]; exact hfr i b q1 q2
        have nx : ∀ (a2 b2 : Nat) (J2 : Nat → Nat → Int), J2 98 d = (x : Int) → RLs (J2 98) pre → (∀ i b, i ≠ 98 → i ≠ 99 → J2 i b = I2 i b) → a2 = a + (fun x => if x ∈ pre then 0 else gB (fun _ => true) m 0 (pre ++ [x])) x → b2 = b + (fun x => if x ∈ pre then 0 else gB (okL (fun x k => I 85 (4 * sr x + k)) pl kd (cK (hkL hs9) n)) m 0 (pre ++ [x])) x → aW G YX12_lot (ab_rm 2 0 0) Z 0 0 (104, J2, F) 93 [some (ab_r 84), some (ab_i (pl : Int)), some (ab_i hs9), some (ab_i (n : Int)), some (ab_i kd), some (ab_i wc), some (ab_i (m : Int)), some (ab_l (a2 : Int)), none, some (ab_l (b2 : Int)), none, some (ab_i (d : Int)), none, none] [] := by
          intro a2 b2 J2 q1 q2 q3 qa qb
          refine ihu (x + 1) a2 b2 d J2 hd (by omega) (by rw [q1]; omega) q2 q3 (fun J3 dm w1 w2 w3 => ?_)
          have h9 := hK J3 dm w1 w2 w3
          rw [smX, smX, ← Nat.add_assoc, ← Nat.add_assoc, ← qa, ← qb] at h9
          exact h9
        have s157 : aW G YX12_lot (ab_rm 2 0 0) Z 0 0 (104, J1, F) 157 [some (ab_r 84), some (ab_i (pl : Int)), some (ab_i hs9), some (ab_i (n : Int)), some (ab_i kd), some (ab_i wc), some (ab_i (m : Int)), some (ab_l (a : Int)), none, some (ab_l (b : Int)), none, some (ab_i (d : Int)), some (ab_i (frL pre x d)), some (ab_i (d : Int))] [] := by
          have hfl := frL_n (pre := pre) (x := x)
          rw [hd] at hfl
          by_cases hin : x ∈ pre
          · rw [if_pos hin] at hfl
            rw [hfl]
            refine aw_aload_n dX12_lot_157 rfl (by decide) ?_
            refine aw_getrv (r := 98) dX12_lot_158 fX12_50 ⟨Nat.le_of_ble_eq_true rfl, Nat.le_of_ble_eq_true rfl⟩ rfl rfl (hF.at 84 23 98 rfl rfl rfl) ?_
            refine aw_iload dX12_lot_161 rfl ?_
            refine aw_ialdq (q := d) (v := (x : Int)) dX12_lot_163 ⟨Nat.le_of_ble_eq_true rfl, Nat.le_of_ble_eq_true rfl⟩ rfl (by omega) (by omega) (by decide) rfl j98d ?_
            refine aw_iload dX12_lot_164 rfl ?_
            refine aw_icmp_ne (tgt := 175) dX12_lot_166 rfl (by first | assumption | (unfold ab_In at *; omega)) (by first | assumption | (unfold ab_In at *; omega)) (fun c_166 => ?_) (fun c_166 => ?_)
            · refine aw_iload dX12_lot_175 rfl ?_
              refine aw_if_eq (tgt := 267) dX12_lot_177 rfl ⟨by decide, by decide⟩ (fun _ => ?_) (fun c9 => absurd (by decide) c9)
              refine aw_iload dX12_lot_267 rfl ?_
              refine aw_if_eq (tgt := 283) dX12_lot_269 rfl ⟨by decide, by decide⟩ (fun _ => ?_) (fun c9 => absurd (by decide) c9)
              refine aw_goto (tgt := 93) dX12_lot_283 rfl ?_
              exact aw_le (ab_le_c (ab_le_c (ab_le_c (ab_le_c (ab_le_c (ab_le_c (ab_le_c (ab_le_c (ab_le_c (ab_le_c (ab_le_c (ab_le_c (ab_le_n (ab_le_n ab_le_nil)))))))))))))) (nx a b J1 j98d hrl1 hfr1 (by simp only []; rw [if_pos hin]; rfl) (by simp only []; rw [if_pos hin]; rfl))
            · exfalso; omega
          · rw [if_neg hin] at hfl
            rw [hfl]
            have hnd2 := nd_app hnd hin
            have hlt2 := lt_app hlt (show x < m by omega)
            have hrl2 : RLs (J1 98) (pre ++ [x]) := hrl1.app (fun _ _ => rfl) (by rw [hd]; exact j98d)
            have lf : ∀ (q h : Nat) (J2 : Nat → Nat → Int), h + q = n → (∀ y, y < h → J2 99 y = hkL hs9 y) → (∀ i b, i ≠ 99 → J2 i b = J1 i b) → aW G YX12_lot (ab_rm 2 0 0) Z 0 0 (104, J2, F) 192 [some (ab_r 84), some (ab_i (pl : Int)), some (ab_i hs9), some (ab_i (n : Int)), some (ab_i kd), some (ab_i wc), some (ab_i (m : Int)), some (ab_l (a : Int)), none, some (ab_l (b : Int)), none, some (ab_i (d : Int)), some (ab_i 1), some (ab_i (h : Int))] [] := by
              intro q
              induction q with
              | zero =>
                intro h J2 hh h1 h2
                have hhn : h = n := by omega
                have hfr2 : (∀ i b, i ≠ 98 → i ≠ 99 → J2 i b = I2 i b) := fun i b q1 q2 => (h2 i b q2).trans (hfr1 i b q1 q2)
                have hlo := ct_X12_lotOf G J2 F hF m pl n hm6 hpl hn4 sr (sd (fun a b => ah (I 95 0) (n4 (I 86)) (rt (I 89) a) (rt (I 89) b)) id N) hsr (fun y hy => by rw [hfr2 91 y (by decide) (by decide), hfr2 89 _ (by decide) (by decide)]; exact hodx y hy) (fun s k hs hk => by rw [hfr2 85 _ (by decide) (by decide), hI2 85 _ (by decide)]; exact hw s k hs hk) (pre ++ [x]) (by simp; omega) hlt2 (hrl2.of (fun i hi => h2 98 i (by decide))) (fun y hy => by rw [h1 y (by omega)]; have := hk_bd (ab_sr hs9 (2 * (y : Int))); unfold hkL; omega)
                have ewx : (fun x k => J2 85 (4 * sr x + k)) = (fun x k => I 85 (4 * sr x + k)) := by funext x k; rw [hfr2 85 _ (by decide) (by decide), hI2 85 _ (by decide)]
                rw [ewx, cK_congr (f := J2 99) (g := hkL hs9) (fun y hy => h1 y (by omega))] at hlo
                have hgb := gtT_bd (wx := (fun x k => I 85 (4 * sr x + k))) (pl := pl) (pre ++ [x]) (cK (hkL hs9) n)
                generalize hge : gtT (fun x k => I 85 (4 * sr x + k)) pl (cK (hkL hs9) n) (pre ++ [x]) = g at hlo hgb
                have hok : okL (fun x k => I 85 (4 * sr x + k)) pl kd (cK (hkL hs9) n) (pre ++ [x]) = decide (g ≠ -1 ∧ (kd = -1 ∨ g = kd)) := by unfold okL; rw [hge]
                refine aw_iload dX12_lot_192 rfl ?_
                refine aw_iload_n dX12_lot_194 rfl ?_
                refine aw_icmp_ge (tgt := 219) dX12_lot_195 rfl (by first | assumption | (unfold ab_In at *; omega)) (by first | assumption | (unfold ab_In at *; omega)) (fun c_195 => ?_) (fun c_195 => ?_)
                · refine aw_aload_n dX12_lot_219 rfl (by decide) ?_
                  refine aw_iload dX12_lot_220 rfl ?_
                  refine aw_iload_n dX12_lot_222 rfl ?_
                  refine aw_iload_n dX12_lot_223 rfl ?_
                  refine aw_callV (as := [ab_i (m : Int), ab_i (pl : Int), ab_i (n : Int)]) (rest := []) dX12_lot_224 hlo ⟨Nat.le_of_ble_eq_true rfl, Nat.le_of_ble_eq_true rfl⟩ rfl kc12 rfl kX12_lotOf iX12_lotOf eX12_lotOf lX12_230 rfl (Nat.le_of_ble_eq_true rfl) (by decide) (by decide) (by decide) (by decide) ?_
                  rintro _ _ ⟨rfl, J3, rfl, f3⟩
                  refine aw_istore (ls' := [some (ab_r 84), some (ab_i (pl : Int)), some (ab_i hs9), some (ab_i (n : Int)), some (ab_i kd), some (ab_i wc), some (ab_i (m : Int)), some (ab_l (a : Int)), none, some (ab_l (b : Int)), none, some (ab_i (d : Int)), some (ab_i 1), some (ab_i g)]) dX12_lot_227 (by decide) rfl ?_
                  refine aw_lload dX12_lot_229 rfl ?_
                  refine aw_lconst (z := 1) dX12_lot_231 rfl ?_
                  refine aw_ladd dX12_lot_232 ?_
                  refine aw_lstore (ls' := [some (ab_r 84), some (ab_i (pl : Int)), some (ab_i hs9), some (ab_i (n : Int)), some (ab_i kd), some (ab_i wc), some (ab_i (m : Int)), some (ab_l ((a : Int) + 1)), none, some (ab_l (b : Int)), none, some (ab_i (d : Int)), some (ab_i 1), some (ab_i g)]) dX12_lot_233 (by decide) rfl ?_
                  refine aw_lload dX12_lot_235 rfl ?_
                  refine aw_iload dX12_lot_237 rfl ?_
                  refine aw_iconst dX12_lot_239 ?_
                  refine aw_icmp_eq (tgt := 260) dX12_lot_240 rfl (by first | assumption | (unfold ab_In at *; omega)) (by first | assumption | (unfold ab_In at *; omega)) (fun c_240 => ?_) (fun c_240 => ?_)
                  · refine aw_lconst (z := 0) dX12_lot_260 rfl ?_
                    refine aw_ladd dX12_lot_261 ?_
                    refine aw_lstore (ls' := [some (ab_r 84), some (ab_i (pl : Int)), some (ab_i hs9), some (ab_i (n : Int)), some (ab_i kd), some (ab_i wc), some (ab_i (m : Int)), some (ab_l ((a : Int) + 1)), none, some (ab_l ((b : Int) + 0)), none, some (ab_i (d : Int)), some (ab_i 1), some (ab_i g)]) dX12_lot_262 (by decide) rfl ?_
                    refine aw_goto (tgt := 283) dX12_lot_264 rfl ?_
                    refine aw_goto (tgt := 93) dX12_lot_283 rfl ?_
                    have hP0 : okL (fun x k => I 85 (4 * sr x + k)) pl kd (cK (hkL hs9) n) (pre ++ [x]) = false := by rw [hok]; exact decide_eq_false (by omega)
                    have h9 := nx (a + 1) (b + 0) J3 (by rw [f3 98 d (by decide), h2 98 d (by decide)]; exact j98d) (hrl1.of (fun i hi => by rw [f3 98 i (by decide), h2 98 i (by decide)])) (fun i b q1 q2 => (f3 i b q2).trans (hfr2 i b q1 q2)) (by simp only []; rw [if_neg hin]; rfl) (by simp only []; rw [if_neg hin, gB, hP0]; rfl)
                    exact aw_le (ab_le_c (ab_le_c (ab_le_c (ab_le_c (ab_le_c (ab_le_c (ab_le_c (ab_le_c (ab_le_c (ab_le_c (ab_le_c (ab_le_c (ab_le_n (ab_le_n ab_le_nil)))))))))))))) h9
                  · refine aw_iload dX12_lot_243 rfl ?_
                    refine aw_iconst dX12_lot_245 ?_
                    refine aw_icmp_eq (tgt := 256) dX12_lot_246 rfl (by first | assumption | (unfold ab_In at *; omega)) (by first | assumption | (unfold ab_In at *; omega)) (fun c_246 => ?_) (fun c_246 => ?_)
                    · refine aw_lconst (z := 1) dX12_lot_256 rfl ?_
                      refine aw_goto (tgt := 261) dX12_lot_257 rfl ?_
                      refine aw_ladd dX12_lot_261 ?_
                      refine aw_lstore (ls' := [some (ab_r 84), some (ab_i (pl : Int)), some (ab_i hs9), some (ab_i (n : Int)), some (ab_i kd), some (ab_i wc), some (ab_i (m : Int)), some (ab_l ((a : Int) + 1)), none, some (ab_l ((b : Int) + 1)), none, some (ab_i (d : Int)), some (ab_i 1), some (ab_i g)]) dX12_lot_262 (by decide) rfl ?_
                      refine aw_goto (tgt := 283) dX12_lot_264 rfl ?_
                      refine aw_goto (tgt := 93) dX12_lot_283 rfl ?_
                      have hP1 : okL (fun x k => I 85 (4 * sr x + k)) pl kd (cK (hkL hs9) n) (pre ++ [x]) = true := by rw [hok]; exact decide_eq_true (by omega)
                      have h9 := nx (a + 1) (b + 1) J3 (by rw [f3 98 d (by decide), h2 98 d (by decide)]; exact j98d) (hrl1.of (fun i hi => by rw [f3 98 i (by decide), h2 98 i (by decide)])) (fun i b q1 q2 => (f3 i b q2).trans (hfr2 i b q1 q2)) (by simp only []; rw [if_neg hin]; rfl) (by simp only []; rw [if_neg hin, gB, hP1]; rfl)
                      exact aw_le (ab_le_c (ab_le_c (ab_le_c (ab_le_c (ab_le_c (ab_le_c (ab_le_c (ab_le_c (ab_le_c (ab_le_c (ab_le_c (ab_le_c (ab_le_n (ab_le_n ab_le_nil)))))))))))))) h9
                    · refine aw_iload dX12_lot_249 rfl ?_
                      refine aw_iload dX12_lot_251 rfl ?_
                      refine aw_icmp_ne (tgt := 260) dX12_lot_253 rfl (by first | assumption | (unfold ab_In at *; omega)) (by first | assumption | (unfold ab_In at *; omega)) (fun c_253 => ?_) (fun c_253 => ?_)
                      · refine aw_lconst (z := 0) dX12_lot_260 rfl ?_
                        refine aw_ladd dX12_lot_261 ?_
                        refine aw_lstore (ls' := [some (ab_r 84), some (ab_i (pl : Int)), some (ab_i hs9), some (ab_i (n : Int)), some (ab_i kd), some (ab_i wc), some (ab_i (m : Int)), some (ab_l ((a : Int) + 1)), none, some (ab_l ((b : Int) + 0)), none, some (ab_i (d : Int)), some (ab_i 1), some (ab_i g)]) dX12_lot_262 (by decide) rfl ?_
                        refine aw_goto (tgt := 283) dX12_lot_264 rfl ?_
                        refine aw_goto (tgt := 93) dX12_lot_283 rfl ?_
                        have hP0 : okL (fun x k => I 85 (4 * sr x + k)) pl kd (cK (hkL hs9) n) (pre ++ [x]) = false := by rw [hok]; exact decide_eq_false (by omega)
                        have h9 := nx (a + 1) (b + 0) J3 (by rw [f3 98 d (by decide), h2 98 d (by decide)]; exact j98d) (hrl1.of (fun i hi => by rw [f3 98 i (by decide), h2 98 i (by decide)])) (fun i b q1 q2 => (f3 i b q2).trans (hfr2 i b q1 q2)) (by simp only []; rw [if_neg hin]; rfl) (by simp only []; rw [if_neg hin, gB, hP0]; rfl)
                        exact aw_le (ab_le_c (ab_le_c (ab_le_c (ab_le_c (ab_le_c (ab_le_c (ab_le_c (ab_le_c (ab_le_c (ab_le_c (ab_le_c (ab_le_c (ab_le_n (ab_le_n ab_le_nil)))))))))))))) h9
                      · refine aw_lconst (z := 1) dX12_lot_256 rfl ?_
                        refine aw_goto (tgt := 261) dX12_lot_257 rfl ?_
                        refine aw_ladd dX12_lot_261 ?_
                        refine aw_lstore (ls' := [some (ab_r 84), some (ab_i (pl : Int)), some (ab_i hs9), some (ab_i (n : Int)), some (ab_i kd), some (ab_i wc), some (ab_i (m : Int)), some (ab_l ((a : Int) + 1)), none, some (ab_l ((b : Int) + 1)), none, some (ab_i (d : Int)), some (ab_i 1), some (ab_i g)]) dX12_lot_262 (by decide) rfl ?_
                        refine aw_goto (tgt := 283) dX12_lot_264 rfl ?_
                        refine aw_goto (tgt := 93) dX12_lot_283 rfl ?_
                        have hP1 : okL (fun x k => I 85 (4 * sr x + k)) pl kd (cK (hkL hs9) n) (pre ++ [x]) = true := by rw [hok]; exact decide_eq_true (by omega)
                        have h9 := nx (a + 1) (b + 1) J3 (by rw [f3 98 d (by decide), h2 98 d (by decide)]; exact j98d) (hrl1.of (fun i hi => by rw [f3 98 i (by decide), h2 98 i (by decide)])) (fun i b q1 q2 => (f3 i b q2).trans (hfr2 i b q1 q2)) (by simp only []; rw [if_neg hin]; rfl) (by simp only []; rw [if_neg hin, gB, hP1]; rfl)
                        exact aw_le (ab_le_c (ab_le_c (ab_le_c (ab_le_c (ab_le_c (ab_le_c (ab_le_c (ab_le_c (ab_le_c (ab_le_c (ab_le_c (ab_le_c (ab_le_n (ab_le_n ab_le_nil)))))))))))))) h9
                · exfalso; omega
              | succ q ihq =>
                intro h J2 hh h1 h2
                refine aw_iload dX12_lot_192 rfl ?_
                refine aw_iload_n dX12_lot_194 rfl ?_
                refine aw_icmp_ge (tgt := 219) dX12_lot_195 rfl (by first | assumption | (unfold ab_In at *; omega)) (by first | assumption | (unfold ab_In at *; omega)) (fun c_195 => ?_) (fun c_195 => ?_)
                · exfalso; omega
                · refine aw_aload_n dX12_lot_198 rfl (by decide) ?_
                  refine aw_getrv (r := 99) dX12_lot_199 fX12_53 ⟨Nat.le_of_ble_eq_true rfl, Nat.le_of_ble_eq_true rfl⟩ rfl rfl (hF.at 84 24 99 rfl rfl rfl) ?_
                  refine aw_iload dX12_lot_202 rfl ?_
                  refine aw_iload_n dX12_lot_204 rfl ?_
                  refine aw_iconst dX12_lot_205 ?_
                  refine aw_iload dX12_lot_206 rfl ?_
                  refine aw_imul dX12_lot_208 ?_
                  refine aw_ishr dX12_lot_209 ?_
                  refine aw_iconst dX12_lot_210 ?_
                  refine aw_iand dX12_lot_211 ?_
                  refine aw_to (z := (hkL hs9 h)) rfl ?_
                  refine aw_iastv (q := h) dX12_lot_212 ⟨Nat.le_of_ble_eq_true rfl, Nat.le_of_ble_eq_true rfl⟩ rfl (by omega) (by omega) (by decide) rfl ?_
                  refine aw_iinc (ls' := [some (ab_r 84), some (ab_i (pl : Int)), some (ab_i hs9), some (ab_i (n : Int)), some (ab_i kd), some (ab_i wc), some (ab_i (m : Int)), some (ab_l (a : Int)), none, some (ab_l (b : Int)), none, some (ab_i (d : Int)), some (ab_i 1), some (ab_i ((h : Int) + 1))]) dX12_lot_213 (by decide) rfl rfl ?_
                  refine aw_goto (tgt := 192) dX12_lot_216 rfl ?_
                  refine ihq (h + 1) _ (by omega) (fun y hy => ?_) (fun i b q1 => by rw [ab_u_i q1]; exact h2 i b q1)
                  by_cases e9 : y = h
                  · rw [e9, ab_u_s]
                  · rw [ab_u_j e9]; exact h1 y (by omega)
            refine aw_aload_n dX12_lot_157 rfl (by decide) ?_
            refine aw_getrv (r := 98) dX12_lot_158 fX12_50 ⟨Nat.le_of_ble_eq_true rfl, Nat.le_of_ble_eq_true rfl⟩ rfl rfl (hF.at 84 23 98 rfl rfl rfl) ?_
            refine aw_iload dX12_lot_161 rfl ?_
            refine aw_ialdq (q := d) (v := (x : Int)) dX12_lot_163 ⟨Nat.le_of_ble_eq_true rfl, Nat.le_of_ble_eq_true rfl⟩ rfl (by omega) (by omega) (by decide) rfl j98d ?_
            refine aw_iload dX12_lot_164 rfl ?_
            refine aw_icmp_ne (tgt := 175) dX12_lot_166 rfl (by first | assumption | (unfold ab_In at *; omega)) (by first | assumption | (unfold ab_In at *; omega)) (fun c_166 => ?_) (fun c_166 => ?_)
            · refine aw_iload dX12_lot_175 rfl ?_
              refine aw_if_eq (tgt := 267) dX12_lot_177 rfl ⟨by decide, by decide⟩ (fun c9 => absurd c9 (by decide)) (fun _ => ?_)
              refine aw_iload dX12_lot_180 rfl ?_
              refine aw_iload dX12_lot_182 rfl ?_
              refine aw_iconst dX12_lot_184 ?_
              refine aw_isub dX12_lot_185 ?_
              refine aw_icmp_ne (tgt := 267) dX12_lot_186 rfl (by first | assumption | (unfold ab_In at *; omega)) (by first | assumption | (unfold ab_In at *; omega)) (fun c_186 => ?_) (fun c_186 => ?_)
              · exfalso; omega
              · refine aw_iconst dX12_lot_189 ?_
                refine aw_istore (ls' := [some (ab_r 84), some (ab_i (pl : Int)), some (ab_i hs9), some (ab_i (n : Int)), some (ab_i kd), some (ab_i wc), some (ab_i (m : Int)), some (ab_l (a : Int)), none, some (ab_l (b : Int)), none, some (ab_i (d : Int)), some (ab_i 1), some (ab_i 0)]) dX12_lot_190 (by decide) rfl ?_
                exact lf n 0 J1 (by omega) (fun y hy => by omega) (fun _ _ _ => rfl)
            · exfalso; omega
        have lpF : ∀ (q k : Nat) (fr : Int), k + q = d → fr = frL pre x k → aW G YX12_lot (ab_rm 2 0 0) Z 0 0 (104, J1, F) 115 [some (ab_r 84), some (ab_i (pl : Int)), some (ab_i hs9), some (ab_i (n : Int)), some (ab_i kd), some (ab_i wc), some (ab_i (m : Int)), some (ab_l (a : Int)), none, some (ab_l (b : Int)), none, some (ab_i (d : Int)), some (ab_i fr), some (ab_i (k : Int))] [] := by
          intro q
          induction q with
          | zero =>
            intro k fr hk hf
            have hkd : k = d := by omega
            subst hf
            rw [hkd]
            refine aw_iload dX12_lot_115 rfl ?_
            refine aw_iload dX12_lot_117 rfl ?_
            refine aw_icmp_ge (tgt := 157) dX12_lot_119 rfl (by first | assumption | (unfold ab_In at *; omega)) (by first | assumption | (unfold ab_In at *; omega)) (fun c_119 => ?_) (fun c_119 => ?_)
            · exact s157
            · exfalso; omega
          | succ q ihq =>
            intro k fr hk hf
            have hfb := frL_bd pre x k
            rw [← hf] at hfb
            obtain ⟨y, hy⟩ : ∃ y, pre[k]? = some y := ⟨pre[k]'(by omega), List.getElem?_eq_getElem (by omega)⟩
            have hym := hlt y (List.mem_of_getElem? hy)
            have j98k : J1 98 k = (y : Int) := hrl1.at hy
            have hfs := frL_s (x := x) hy
            rw [← hf] at hfs
            refine aw_iload dX12_lot_115 rfl ?_
            refine aw_iload dX12_lot_117 rfl ?_
            refine aw_icmp_ge (tgt := 157) dX12_lot_119 rfl (by first | assumption | (unfold ab_In at *; omega)) (by first | assumption | (unfold ab_In at *; omega)) (fun c_119 => ?_) (fun c_119 => ?_)
            · exfalso; omega
            · refine aw_iload dX12_lot_122 rfl ?_
              refine aw_if_eq (tgt := 148) dX12_lot_124 rfl (by first | assumption | (unfold ab_In at *; omega)) (fun c_124 => ?_) (fun c_124 => ?_)
              · refine aw_iconst dX12_lot_148 ?_
                refine aw_istore (ls' := [some (ab_r 84), some (ab_i (pl : Int)), some (ab_i hs9), some (ab_i (n : Int)), some (ab_i kd), some (ab_i wc), some (ab_i (m : Int)), some (ab_l (a : Int)), none, some (ab_l (b : Int)), none, some (ab_i (d : Int)), some (ab_i 0), some (ab_i (k : Int))]) dX12_lot_149 (by decide) rfl ?_
                refine aw_iinc (ls' := [some (ab_r 84), some (ab_i (pl : Int)), some (ab_i hs9), some (ab_i (n : Int)), some (ab_i kd), some (ab_i wc), some (ab_i (m : Int)), some (ab_l (a : Int)), none, some (ab_l (b : Int)), none, some (ab_i (d : Int)), some (ab_i 0), some (ab_i ((k : Int) + 1))]) dX12_lot_151 (by decide) rfl rfl ?_
                refine aw_goto (tgt := 115) dX12_lot_154 rfl ?_
                exact ihq (k + 1) _ (by omega) (by rw [hfs]; first | rw [if_pos (by omega)] | rw [if_neg (by omega), if_pos (by omega)] | rw [if_neg (by omega), if_neg (by omega)])
              · refine aw_aload_n dX12_lot_127 rfl (by decide) ?_
                refine aw_getrv (r := 98) dX12_lot_128 fX12_50 ⟨Nat.le_of_ble_eq_true rfl, Nat.le_of_ble_eq_true rfl⟩ rfl rfl (hF.at 84 23 98 rfl rfl rfl) ?_
                refine aw_iload dX12_lot_131 rfl ?_
                refine aw_ialdq (q := k) (v := (y : Int)) dX12_lot_133 ⟨Nat.le_of_ble_eq_true rfl, Nat.le_of_ble_eq_true rfl⟩ rfl (by omega) (by omega) (by decide) rfl j98k ?_
                refine aw_aload_n dX12_lot_134 rfl (by decide) ?_
                refine aw_getrv (r := 98) dX12_lot_135 fX12_50 ⟨Nat.le_of_ble_eq_true rfl, Nat.le_of_ble_eq_true rfl⟩ rfl rfl (hF.at 84 23 98 rfl rfl rfl) ?_
                refine aw_iload dX12_lot_138 rfl ?_
                refine aw_ialdq (q := d) (v := (x : Int)) dX12_lot_140 ⟨Nat.le_of_ble_eq_true rfl, Nat.le_of_ble_eq_true rfl⟩ rfl (by omega) (by omega) (by decide) rfl j98d ?_
                refine aw_icmp_eq (tgt := 148) dX12_lot_141 rfl (by first | assumption | (unfold ab_In at *; omega)) (by first | assumption | (unfold ab_In at *; omega)) (fun c_141 => ?_) (fun c_141 => ?_)
                · refine aw_iconst dX12_lot_148 ?_
                  refine aw_istore (ls' := [some (ab_r 84), some (ab_i (pl : Int)), some (ab_i hs9), some (ab_i (n : Int)), some (ab_i kd), some (ab_i wc), some (ab_i (m : Int)), some (ab_l (a : Int)), none, some (ab_l (b : Int)), none, some (ab_i (d : Int)), some (ab_i 0), some (ab_i (k : Int))]) dX12_lot_149 (by decide) rfl ?_
                  refine aw_iinc (ls' := [some (ab_r 84), some (ab_i (pl : Int)), some (ab_i hs9), some (ab_i (n : Int)), some (ab_i kd), some (ab_i wc), some (ab_i (m : Int)), some (ab_l (a : Int)), none, some (ab_l (b : Int)), none, some (ab_i (d : Int)), some (ab_i 0), some (ab_i ((k : Int) + 1))]) dX12_lot_151 (by decide) rfl rfl ?_
                  refine aw_goto (tgt := 115) dX12_lot_154 rfl ?_
                  exact ihq (k + 1) _ (by omega) (by rw [hfs]; first | rw [if_pos (by omega)] | rw [if_neg (by omega), if_pos (by omega)] | rw [if_neg (by omega), if_neg (by omega)])
                · refine aw_iconst dX12_lot_144 ?_
                  refine aw_goto (tgt := 149) dX12_lot_145 rfl ?_
                  refine aw_istore (ls' := [some (ab_r 84), some (ab_i (pl : Int)), some (ab_i hs9), some (ab_i (n : Int)), some (ab_i kd), some (ab_i wc), some (ab_i (m : Int)), some (ab_l (a : Int)), none, some (ab_l (b : Int)), none, some (ab_i (d : Int)), some (ab_i 1), some (ab_i (k : Int))]) dX12_lot_149 (by decide) rfl ?_
                  refine aw_iinc (ls' := [some (ab_r 84), some (ab_i (pl : Int)), some (ab_i hs9), some (ab_i (n : Int)), some (ab_i kd), some (ab_i wc), some (ab_i (m : Int)), some (ab_l (a : Int)), none, some (ab_l (b : Int)), none, some (ab_i (d : Int)), some (ab_i 1), some (ab_i ((k : Int) + 1))]) dX12_lot_151 (by decide) rfl rfl ?_
                  refine aw_goto (tgt := 115) dX12_lot_154 rfl ?_
                  exact ihq (k + 1) _ (by omega) (by rw [hfs]; first | rw [if_pos (by omega)] | rw [if_neg (by omega), if_pos (by omega)] | rw [if_neg (by omega), if_neg (by omega)])
        refine aw_iload dX12_lot_93 rfl ?_
        refine aw_if_lt (tgt := 286) dX12_lot_95 rfl (by first | assumption | (unfold ab_In at *; omega)) (fun c_95 => ?_) (fun c_95 => ?_)
        · exfalso; omega
        · refine aw_aload_n dX12_lot_98 rfl (by decide) ?_
          refine aw_getrv (r := 98) dX12_lot_99 fX12_50 ⟨Nat.le_of_ble_eq_true rfl, Nat.le_of_ble_eq_true rfl⟩ rfl rfl (hF.at 84 23 98 rfl rfl rfl) ?_
          refine aw_iload dX12_lot_102 rfl ?_
          refine aw_dup2 dX12_lot_104 rfl rfl ?_
          refine aw_ialdq (q := d) (v := ((x : Int) - 1)) dX12_lot_105 ⟨Nat.le_of_ble_eq_true rfl, Nat.le_of_ble_eq_true rfl⟩ rfl (by omega) (by omega) (by decide) rfl h98 ?_
          refine aw_iconst dX12_lot_106 ?_
          refine aw_iadd dX12_lot_107 ?_
          refine aw_to (z := (x : Int)) (by omega) ?_
          refine aw_iastv (q := d) dX12_lot_108 ⟨Nat.le_of_ble_eq_true rfl, Nat.le_of_ble_eq_true rfl⟩ rfl (by omega) (by omega) (by decide) rfl ?_
          refine aw_iconst dX12_lot_109 ?_
          refine aw_istore (ls' := [some (ab_r 84), some (ab_i (pl : Int)), some (ab_i hs9), some (ab_i (n : Int)), some (ab_i kd), some (ab_i wc), some (ab_i (m : Int)), some (ab_l (a : Int)), none, some (ab_l (b : Int)), none, some (ab_i (d : Int)), some (ab_i 1), none]) dX12_lot_110 (by decide) rfl ?_
          refine aw_iconst dX12_lot_112 ?_
          refine aw_istore (ls' := [some (ab_r 84), some (ab_i (pl : Int)), some (ab_i hs9), some (ab_i (n : Int)), some (ab_i kd), some (ab_i wc), some (ab_i (m : Int)), some (ab_l (a : Int)), none, some (ab_l (b : Int)), none, some (ab_i (d : Int)), some (ab_i 1), some (ab_i 0)]) dX12_lot_113 (by decide) rfl ?_
          rw [hJ1]
          exact lpF d 0 1 (by omega) rfl
    | succ e ihe =>
      intro pre hpe hnd hlt u
      induction u with
      | zero =>
        intro x a b d J hd hx h98 hrl hfr hK
        have hd6 : d < 6 := by omega
        generalize hJ1 : ab_u J 98 d (x : Int) = J1
        have j98d : J1 98 d = (x : Int) := by rw [← hJ1, ab_u_s]
        have hrl1 : RLs (J1 98) pre := hrl.of (fun i hi => by rw [← hJ1, ab_u_j (by omega)])
        have hfr1 : (∀ i b, i ≠ 98 → i ≠ 99 → J1 i b = I2 i b) := fun i b q1 q2 => by rw [← hJ1, ab_u_i q1]; exact hfr i b q1 q2
        have s157 : aW G YX12_lot (ab_rm 2 0 0) Z 0 0 (104, J1, F) 157 [some (ab_r 84), some (ab_i (pl : Int)), some (ab_i hs9), some (ab_i (n : Int)), some (ab_i kd), some (ab_i wc), some (ab_i (m : Int)), some (ab_l (a : Int)), none, some (ab_l (b : Int)), none, some (ab_i (d : Int)), some (ab_i (frL pre x d)), some (ab_i (d : Int))] [] := by
          refine aw_aload_n dX12_lot_157 rfl (by decide) ?_
          refine aw_getrv (r := 98) dX12_lot_158 fX12_50 ⟨Nat.le_of_ble_eq_true rfl, Nat.le_of_ble_eq_true rfl⟩ rfl rfl (hF.at 84 23 98 rfl rfl rfl) ?_
          refine aw_iload dX12_lot_161 rfl ?_
          refine aw_ialdq (q := d) (v := (x : Int)) dX12_lot_163 ⟨Nat.le_of_ble_eq_true rfl, Nat.le_of_ble_eq_true rfl⟩ rfl (by omega) (by omega) (by decide) rfl j98d ?_
          refine aw_iload dX12_lot_164 rfl ?_
          refine aw_icmp_ne (tgt := 175) dX12_lot_166 rfl (by first | assumption | (unfold ab_In at *; omega)) (by first | assumption | (unfold ab_In at *; omega)) (fun c_166 => ?_) (fun c_166 => ?_)
          · exfalso; omega
          · refine aw_iinc (ls' := [some (ab_r 84), some (ab_i (pl : Int)), some (ab_i hs9), some (ab_i (n : Int)), some (ab_i kd), some (ab_i wc), some (ab_i (m : Int)), some (ab_l (a : Int)), none, some (ab_l (b : Int)), none, some (ab_i ((d : Int) + (-1))), some (ab_i (frL pre x d)), some (ab_i (d : Int))]) dX12_lot_169 (by decide) rfl rfl ?_
            refine aw_goto (tgt := 283) dX12_lot_172 rfl ?_
            refine aw_goto (tgt := 93) dX12_lot_283 rfl ?_
            have h9 := hK J1 _ (show (d : Int) + (-1) = (d : Int) - 1 by omega) hrl1 hfr1
            exact aw_le (ab_le_c (ab_le_c (ab_le_c (ab_le_c (ab_le_c (ab_le_c (ab_le_c (ab_le_c (ab_le_c (ab_le_c (ab_le_c (ab_le_c (ab_le_n (ab_le_n ab_le_nil)))))))))))))) h9
        have lpF : ∀ (q k : Nat) (fr : Int), k + q = d → fr = frL pre x k → aW G YX12_lot (ab_rm 2 0 0) Z 0 0 (104, J1, F) 115 [some (ab_r 84), some (ab_i (pl : Int)), some (ab_i hs9), some (ab_i (n : Int)), some (ab_i kd), some (ab_i wc), some (ab_i (m : Int)), some (ab_l (a : Int)), none, some (ab_l (b : Int)), none, some (ab_i (d : Int)), some (ab_i fr), some (ab_i (k : Int))] [] := by
          intro q
          induction q with
          | zero =>
            intro k fr hk hf
            have hkd : k = d := by omega
            subst hf
            rw [hkd]
            refine aw_iload dX12_lot_115 rfl ?_
            refine aw_iload dX12_lot_117 rfl ?_
            refine aw_icmp_ge (tgt := 157) dX12_lot_119 rfl (by first | assumption | (unfold ab_In at *; omega)) (by first | assumption | (unfold ab_In at *; omega)) (fun c_119 => ?_) (fun c_119 => ?_)
            · exact s157
            · exfalso; omega
          | succ q ihq =>
            intro k fr hk hf
            have hfb := frL_bd pre x k
            rw [← hf] at hfb
            obtain ⟨y, hy⟩ : ∃ y, pre[k]? = some y := ⟨pre[k]'(by omega), List.getElem?_eq_getElem (by omega)⟩
            have hym := hlt y (List.mem_of_getElem? hy)
            have j98k : J1 98 k = (y : Int) := hrl1.at hy
            have hfs := frL_s (x := x) hy
            rw [← hf] at hfs
            refine aw_iload dX12_lot_115 rfl ?_
            refine aw_iload dX12_lot_117 rfl ?_
            refine aw_icmp_ge (tgt := 157) dX12_lot_119 rfl (by first | assumption | (unfold ab_In at *; omega)) (by first | assumption | (unfold ab_In at *; omega)) (fun c_119 => ?_) (fun c_119 => ?_)
            · exfalso; omega
            · refine aw_iload dX12_lot_122 rfl ?_
              refine aw_if_eq (tgt := 148) dX12_lot_124 rfl (by first | assumption | (unfold ab_In at *; omega)) (fun c_124 => ?_) (fun c_124 => ?_)
              · refine aw_iconst dX12_lot_148 ?_
                refine aw_istore (ls' := [some (ab_r 84), some (ab_i (pl : Int)), some (ab_i hs9), some (ab_i (n : Int)), some (ab_i kd), some (ab_i wc), some (ab_i (m : Int)), some (ab_l (a : Int)), none, some (ab_l (b : Int)), none, some (ab_i (d : Int)), some (ab_i 0), some (ab_i (k : Int))]) dX12_lot_149 (by decide) rfl ?_
                refine aw_iinc (ls' := [some (ab_r 84), some (ab_i (pl : Int)), some (ab_i hs9), some (ab_i (n : Int)), some (ab_i kd), some (ab_i wc), some (ab_i (m : Int)), some (ab_l (a : Int)), none, some (ab_l (b : Int)), none, some (ab_i (d : Int)), some (ab_i 0), some (ab_i ((k : Int) + 1))]) dX12_lot_151 (by decide) rfl rfl ?_
                refine aw_goto (tgt := 115) dX12_lot_154 rfl ?_
                exact ihq (k + 1) _ (by omega) (by rw [hfs]; first | rw [if_pos (by omega)] | rw [if_neg (by omega), if_pos (by omega)] | rw [if_neg (by omega), if_neg (by omega)])
              · refine aw_aload_n dX12_lot_127 rfl (by decide) ?_
                refine aw_getrv (r := 98) dX12_lot_128 fX12_50 ⟨Nat.le_of_ble_eq_true rfl, Nat.le_of_ble_eq_true rfl⟩ rfl rfl (hF.at 84 23 98 rfl rfl rfl) ?_
                refine aw_iload dX12_lot_131 rfl ?_
                refine aw_ialdq (q := k) (v := (y : Int)) dX12_lot_133 ⟨Nat.le_of_ble_eq_true rfl, Nat.le_of_ble_eq_true rfl⟩ rfl (by omega) (by omega) (by decide) rfl j98k ?_
                refine aw_aload_n dX12_lot_134 rfl (by decide) ?_
                refine aw_getrv (r := 98) dX12_lot_135 fX12_50 ⟨Nat.le_of_ble_eq_true rfl, Nat.le_of_ble_eq_true rfl⟩ rfl rfl (hF.at 84 23 98 rfl rfl rfl) ?_
                refine aw_iload dX12_lot_138 rfl ?_
                refine aw_ialdq (q := d) (v := (x : Int)) dX12_lot_140 ⟨Nat.le_of_ble_eq_true rfl, Nat.le_of_ble_eq_true rfl⟩ rfl (by omega) (by omega) (by decide) rfl j98d ?_
                refine aw_icmp_eq (tgt := 148) dX12_lot_141 rfl (by first | assumption | (unfold ab_In at *; omega)) (by first | assumption | (unfold ab_In at *; omega)) (fun c_141 => ?_) (fun c_141 => ?_)
                · refine aw_iconst dX12_lot_148 ?_
                  refine aw_istore (ls' := [some (ab_r 84), some (ab_i (pl : Int)), some (ab_i hs9), some (ab_i (n : Int)), some (ab_i kd), some (ab_i wc), some (ab_i (m : Int)), some (ab_l (a : Int)), none, some (ab_l (b : Int)), none, some (ab_i (d : Int)), some (ab_i 0), some (ab_i (k : Int))]) dX12_lot_149 (by decide) rfl ?_
                  refine aw_iinc (ls' := [some (ab_r 84), some (ab_i (pl : Int)), some (ab_i hs9), some (ab_i (n : Int)), some (ab_i kd), some (ab_i wc), some (ab_i (m : Int)), some (ab_l (a : Int)), none, some (ab_l (b : Int)), none, some (ab_i (d : Int)), some (ab_i 0), some (ab_i ((k : Int) + 1))]) dX12_lot_151 (by decide) rfl rfl ?_
                  refine aw_goto (tgt := 115) dX12_lot_154 rfl ?_
                  exact ihq (k + 1) _ (by omega) (by rw [hfs]; first | rw [if_pos (by omega)] | rw [if_neg (by omega), if_pos (by omega)] | rw [if_neg (by omega), if_neg (by omega)])
                · refine aw_iconst dX12_lot_144 ?_
                  refine aw_goto (tgt := 149) dX12_lot_145 rfl ?_
                  refine aw_istore (ls' := [some (ab_r 84), some (ab_i (pl : Int)), some (ab_i hs9), some (ab_i (n : Int)), some (ab_i kd), some (ab_i wc), some (ab_i (m : Int)), some (ab_l (a : Int)), none, some (ab_l (b : Int)), none, some (ab_i (d : Int)), some (ab_i 1), some (ab_i (k : Int))]) dX12_lot_149 (by decide) rfl ?_
                  refine aw_iinc (ls' := [some (ab_r 84), some (ab_i (pl : Int)), some (ab_i hs9), some (ab_i (n : Int)), some (ab_i kd), some (ab_i wc), some (ab_i (m : Int)), some (ab_l (a : Int)), none, some (ab_l (b : Int)), none, some (ab_i (d : Int)), some (ab_i 1), some (ab_i ((k : Int) + 1))]) dX12_lot_151 (by decide) rfl rfl ?_
                  refine aw_goto (tgt := 115) dX12_lot_154 rfl ?_
                  exact ihq (k + 1) _ (by omega) (by rw [hfs]; first | rw [if_pos (by omega)] | rw [if_neg (by omega), if_pos (by omega)] | rw [if_neg (by omega), if_neg (by omega)])
        refine aw_iload dX12_lot_93 rfl ?_
        refine aw_if_lt (tgt := 286) dX12_lot_95 rfl (by first | assumption | (unfold ab_In at *; omega)) (fun c_95 => ?_) (fun c_95 => ?_)
        · exfalso; omega
        · refine aw_aload_n dX12_lot_98 rfl (by decide) ?_
          refine aw_getrv (r := 98) dX12_lot_99 fX12_50 ⟨Nat.le_of_ble_eq_true rfl, Nat.le_of_ble_eq_true rfl⟩ rfl rfl (hF.at 84 23 98 rfl rfl rfl) ?_
          refine aw_iload dX12_lot_102 rfl ?_
          refine aw_dup2 dX12_lot_104 rfl rfl ?_
          refine aw_ialdq (q := d) (v := ((x : Int) - 1)) dX12_lot_105 ⟨Nat.le_of_ble_eq_true rfl, Nat.le_of_ble_eq_true rfl⟩ rfl (by omega) (by omega) (by decide) rfl h98 ?_
          refine aw_iconst dX12_lot_106 ?_
          refine aw_iadd dX12_lot_107 ?_
          refine aw_to (z := (x : Int)) (by omega) ?_
          refine aw_iastv (q := d) dX12_lot_108 ⟨Nat.le_of_ble_eq_true rfl, Nat.le_of_ble_eq_true rfl⟩ rfl (by omega) (by omega) (by decide) rfl ?_
          refine aw_iconst dX12_lot_109 ?_
          refine aw_istore (ls' := [some (ab_r 84), some (ab_i (pl : Int)), some (ab_i hs9), some (ab_i (n : Int)), some (ab_i kd), some (ab_i wc), some (ab_i (m : Int)), some (ab_l (a : Int)), none, some (ab_l (b : Int)), none, some (ab_i (d : Int)), some (ab_i 1), none]) dX12_lot_110 (by decide) rfl ?_
          refine aw_iconst dX12_lot_112 ?_
          refine aw_istore (ls' := [some (ab_r 84), some (ab_i (pl : Int)), some (ab_i hs9), some (ab_i (n : Int)), some (ab_i kd), some (ab_i wc), some (ab_i (m : Int)), some (ab_l (a : Int)), none, some (ab_l (b : Int)), none, some (ab_i (d : Int)), some (ab_i 1), some (ab_i 0)]) dX12_lot_113 (by decide) rfl ?_
          rw [hJ1]
          exact lpF d 0 1 (by omega) rfl
      | succ u ihu =>
        intro x a b d J hd hx h98 hrl hfr hK
        have hd6 : d < 6 := by omega
        generalize hJ1 : ab_u J 98 d (x : Int) = J1
        have j98d : J1 98 d = (x : Int) := by rw [← hJ1, ab_u_s]
        have hrl1 : RLs (J1 98) pre := hrl.of (fun i hi => by rw [← hJ1, ab_u_j (by omega)])
        have hfr1 : (∀ i b, i ≠ 98 → i ≠ 99 → J1 i b = I2 i b) := fun i b q1 q2 => by rw [← hJ1, ab_u_i q1]; exact hfr i b q1 q2
        have nx : ∀ (a2 b2 : Nat) (J2 : Nat → Nat → Int), J2 98 d = (x : Int) → RLs (J2 98) pre → (∀ i b, i ≠ 98 → i ≠ 99 → J2 i b = I2 i b) → a2 = a + (fun x => if x ∈ pre then 0 else gB (fun _ => true) m (e + 1) (pre ++ [x])) x → b2 = b + (fun x => if x ∈ pre then 0 else gB (okL (fun x k => I 85 (4 * sr x + k)) pl kd (cK (hkL hs9) n)) m (e + 1) (pre ++ [x])) x → aW G YX12_lot (ab_rm 2 0 0) Z 0 0 (104, J2, F) 93 [some (ab_r 84), some (ab_i (pl : Int)), some (ab_i hs9), some (ab_i (n : Int)), some (ab_i kd), some (ab_i wc), some (ab_i (m : Int)), some (ab_l (a2 : Int)), none, some (ab_l (b2 : Int)), none, some (ab_i (d : Int)), none, none] [] := by
          intro a2 b2 J2 q1 q2 q3 qa qb
          refine ihu (x + 1) a2 b2 d J2 hd (by omega) (by rw [q1]; omega) q2 q3 (fun J3 dm w1 w2 w3 => ?_)
          have h9 := hK J3 dm w1 w2 w3
          rw [smX, smX, ← Nat.add_assoc, ← Nat.add_assoc, ← qa, ← qb] at h9
          exact h9
        have s157 : aW G YX12_lot (ab_rm 2 0 0) Z 0 0 (104, J1, F) 157 [some (ab_r 84), some (ab_i (pl : Int)), some (ab_i hs9), some (ab_i (n : Int)), some (ab_i kd), some (ab_i wc), some (ab_i (m : Int)), some (ab_l (a : Int)), none, some (ab_l (b : Int)), none, some (ab_i (d : Int)), some (ab_i (frL pre x d)), some (ab_i (d : Int))] [] := by
          have hfl := frL_n (pre := pre) (x := x)
          rw [hd] at hfl
          by_cases hin : x ∈ pre
          · rw [if_pos hin] at hfl
            rw [hfl]
            refine aw_aload_n dX12_lot_157 rfl (by decide) ?_
            refine aw_getrv (r := 98) dX12_lot_158 fX12_50 ⟨Nat.le_of_ble_eq_true rfl, Nat.le_of_ble_eq_true rfl⟩ rfl rfl (hF.at 84 23 98 rfl rfl rfl) ?_
            refine aw_iload dX12_lot_161 rfl ?_
            refine aw_ialdq (q := d) (v := (x : Int)) dX12_lot_163 ⟨Nat.le_of_ble_eq_true rfl, Nat.le_of_ble_eq_true rfl⟩ rfl (by omega) (by omega) (by decide) rfl j98d ?_
            refine aw_iload dX12_lot_164 rfl ?_
            refine aw_icmp_ne (tgt := 175) dX12_lot_166 rfl (by first | assumption | (unfold ab_In at *; omega)) (by first | assumption | (unfold ab_In at *; omega)) (fun c_166 => ?_) (fun c_166 => ?_)
            · refine aw_iload dX12_lot_175 rfl ?_
              refine aw_if_eq (tgt := 267) dX12_lot_177 rfl ⟨by decide, by decide⟩ (fun _ => ?_) (fun c9 => absurd (by decide) c9)
              refine aw_iload dX12_lot_267 rfl ?_
              refine aw_if_eq (tgt := 283) dX12_lot_269 rfl ⟨by decide, by decide⟩ (fun _ => ?_) (fun c9 => absurd (by decide) c9)
              refine aw_goto (tgt := 93) dX12_lot_283 rfl ?_
              exact aw_le (ab_le_c (ab_le_c (ab_le_c (ab_le_c (ab_le_c (ab_le_c (ab_le_c (ab_le_c (ab_le_c (ab_le_c (ab_le_c (ab_le_c (ab_le_n (ab_le_n ab_le_nil)))))))))))))) (nx a b J1 j98d hrl1 hfr1 (by simp only []; rw [if_pos hin]; rfl) (by simp only []; rw [if_pos hin]; rfl))
            · exfalso; omega
          · rw [if_neg hin] at hfl
            rw [hfl]
            have hnd2 := nd_app hnd hin
            have hlt2 := lt_app hlt (show x < m by omega)
            have hrl2 : RLs (J1 98) (pre ++ [x]) := hrl1.app (fun _ _ => rfl) (by rw [hd]; exact j98d)
            refine aw_aload_n dX12_lot_157 rfl (by decide) ?_
            refine aw_getrv (r := 98) dX12_lot_158 fX12_50 ⟨Nat.le_of_ble_eq_true rfl, Nat.le_of_ble_eq_true rfl⟩ rfl rfl (hF.at 84 23 98 rfl rfl rfl) ?_
            refine aw_iload dX12_lot_161 rfl ?_
            refine aw_ialdq (q := d) (v := (x : Int)) dX12_lot_163 ⟨Nat.le_of_ble_eq_true rfl, Nat.le_of_ble_eq_true rfl⟩ rfl (by omega) (by omega) (by decide) rfl j98d ?_
            refine aw_iload dX12_lot_164 rfl ?_
            refine aw_icmp_ne (tgt := 175) dX12_lot_166 rfl (by first | assumption | (unfold ab_In at *; omega)) (by first | assumption | (unfold ab_In at *; omega)) (fun c_166 => ?_) (fun c_166 => ?_)
            · refine aw_iload dX12_lot_175 rfl ?_
              refine aw_if_eq (tgt := 267) dX12_lot_177 rfl ⟨by decide, by decide⟩ (fun c9 => absurd c9 (by decide)) (fun _ => ?_)
              refine aw_iload dX12_lot_180 rfl ?_
              refine aw_iload dX12_lot_182 rfl ?_
              refine aw_iconst dX12_lot_184 ?_
              refine aw_isub dX12_lot_185 ?_
              refine aw_icmp_ne (tgt := 267) dX12_lot_186 rfl (by first | assumption | (unfold ab_In at *; omega)) (by first | assumption | (unfold ab_In at *; omega)) (fun c_186 => ?_) (fun c_186 => ?_)
              · refine aw_iload dX12_lot_267 rfl ?_
                refine aw_if_eq (tgt := 283) dX12_lot_269 rfl ⟨by decide, by decide⟩ (fun c9 => absurd c9 (by decide)) (fun _ => ?_)
                refine aw_iinc (ls' := [some (ab_r 84), some (ab_i (pl : Int)), some (ab_i hs9), some (ab_i (n : Int)), some (ab_i kd), some (ab_i wc), some (ab_i (m : Int)), some (ab_l (a : Int)), none, some (ab_l (b : Int)), none, some (ab_i ((d : Int) + 1)), some (ab_i 1), some (ab_i (d : Int))]) dX12_lot_272 (by decide) rfl rfl ?_
                refine aw_aload_n dX12_lot_275 rfl (by decide) ?_
                refine aw_getrv (r := 98) dX12_lot_276 fX12_50 ⟨Nat.le_of_ble_eq_true rfl, Nat.le_of_ble_eq_true rfl⟩ rfl rfl (hF.at 84 23 98 rfl rfl rfl) ?_
                refine aw_iload dX12_lot_279 rfl ?_
                refine aw_to (z := ((d + 1 : Nat) : Int)) rfl ?_
                refine aw_iconst dX12_lot_281 ?_
                refine aw_iastv (q := (d + 1)) dX12_lot_282 ⟨Nat.le_of_ble_eq_true rfl, Nat.le_of_ble_eq_true rfl⟩ rfl (by omega) (by omega) (by decide) rfl ?_
                refine aw_goto (tgt := 93) dX12_lot_283 rfl ?_
                have h9 := ihe (pre ++ [x]) (by simp; omega) hnd2 hlt2 m 0 a b (d + 1) (ab_u J1 98 (d + 1) (-1)) (by simp; omega) (by omega) (by rw [ab_u_s]; rfl) (hrl2.of (fun i hi => by rw [ab_u_j (by simp at hi; omega)])) (fun i b q1 q2 => by rw [ab_u_i q1]; exact hfr1 i b q1 q2) (fun J2 dm w1 w2 w3 => ?_)
                · exact aw_le (ab_le_c (ab_le_c (ab_le_c (ab_le_c (ab_le_c (ab_le_c (ab_le_c (ab_le_c (ab_le_c (ab_le_c (ab_le_c (ab_le_c (ab_le_n (ab_le_n ab_le_nil)))))))))))))) h9
                · have hdm : dm = (d : Int) := by omega
                  rw [hdm]
                  exact nx _ _ J2 (w2.at (by rw [List.getElem?_append_right (by omega), hd, Nat.sub_self]; rfl)) (fun i hi => by have := w2 i (by simp; omega); rw [List.getElem?_append_left hi] at this; exact this) w3 (by simp only []; rw [if_neg hin, gB]) (by simp only []; rw [if_neg hin, gB])
              · exfalso; omega
            · exfalso; omega
        have lpF : ∀ (q k : Nat) (fr : Int), k + q = d → fr = frL pre x k → aW G YX12_lot (ab_rm 2 0 0) Z 0 0 (104, J1, F) 115 [some (ab_r 84), some (ab_i (pl : Int)), some (ab_i hs9), some (ab_i (n : Int)), some (ab_i kd), some (ab_i wc), some (ab_i (m : Int)), some (ab_l (a : Int)), none, some (ab_l (b : Int)), none, some (ab_i (d : Int)), some (ab_i fr), some (ab_i (k : Int))] [] := by
          intro q
          induction q with
          | zero =>
            intro k fr hk hf
            have hkd : k = d := by omega
            subst hf
            rw [hkd]
            refine aw_iload dX12_lot_115 rfl ?_
            refine aw_iload dX12_lot_117 rfl ?_
            refine aw_icmp_ge (tgt := 157) dX12_lot_119 rfl (by first | assumption | (unfold ab_In at *; omega)) (by first | assumption | (unfold ab_In at *; omega)) (fun c_119 => ?_) (fun c_119 => ?_)
            · exact s157
            · exfalso; omega
          | succ q ihq =>
            intro k fr hk hf
            have hfb := frL_bd pre x k
            rw [← hf] at hfb
            obtain ⟨y, hy⟩ : ∃ y, pre[k]? = some y := ⟨pre[k]'(by omega), List.getElem?_eq_getElem (by omega)⟩
            have hym := hlt y (List.mem_of_getElem? hy)
            have j98k : J1 98 k = (y : Int) := hrl1.at hy
            have hfs := frL_s (x := x) hy
            rw [← hf] at hfs
            refine aw_iload dX12_lot_115 rfl ?_
            refine aw_iload dX12_lot_117 rfl ?_
            refine aw_icmp_ge (tgt := 157) dX12_lot_119 rfl (by first | assumption | (unfold ab_In at *; omega)) (by first | assumption | (unfold ab_In at *; omega)) (fun c_119 => ?_) (fun c_119 => ?_)
            · exfalso; omega
            · refine aw_iload dX12_lot_122 rfl ?_
              refine aw_if_eq (tgt := 148) dX12_lot_124 rfl (by first | assumption | (unfold ab_In at *; omega)) (fun c_124 => ?_) (fun c_124 => ?_)
              · refine aw_iconst dX12_lot_148 ?_
                refine aw_istore (ls' := [some (ab_r 84), some (ab_i (pl : Int)), some (ab_i hs9), some (ab_i (n : Int)), some (ab_i kd), some (ab_i wc), some (ab_i (m : Int)), some (ab_l (a : Int)), none, some (ab_l (b : Int)), none, some (ab_i (d : Int)), some (ab_i 0), some (ab_i (k : Int))]) dX12_lot_149 (by decide) rfl ?_
                refine aw_iinc (ls' := [some (ab_r 84), some (ab_i (pl : Int)), some (ab_i hs9), some (ab_i (n : Int)), some (ab_i kd), some (ab_i wc), some (ab_i (m : Int)), some (ab_l (a : Int)), none, some (ab_l (b : Int)), none, some (ab_i (d : Int)), some (ab_i 0), some (ab_i ((k : Int) + 1))]) dX12_lot_151 (by decide) rfl rfl ?_
                refine aw_goto (tgt := 115) dX12_lot_154 rfl ?_
                exact ihq (k + 1) _ (by omega) (by rw [hfs]; first | rw [if_pos (by omega)] | rw [if_neg (by omega), if_pos (by omega)] | rw [if_neg (by omega), if_neg (by omega)])
              · refine aw_aload_n dX12_lot_127 rfl (by decide) ?_
                refine aw_getrv (r := 98) dX12_lot_128 fX12_50 ⟨Nat.le_of_ble_eq_true rfl, Nat.le_of_ble_eq_true rfl⟩ rfl rfl (hF.at 84 23 98 rfl rfl rfl) ?_
                refine aw_iload dX12_lot_131 rfl ?_
                refine aw_ialdq (q := k) (v := (y : Int)) dX12_lot_133 ⟨Nat.le_of_ble_eq_true rfl, Nat.le_of_ble_eq_true rfl⟩ rfl (by omega) (by omega) (by decide) rfl j98k ?_
                refine aw_aload_n dX12_lot_134 rfl (by decide) ?_
                refine aw_getrv (r := 98) dX12_lot_135 fX12_50 ⟨Nat.le_of_ble_eq_true rfl, Nat.le_of_ble_eq_true rfl⟩ rfl rfl (hF.at 84 23 98 rfl rfl rfl) ?_
                refine aw_iload dX12_lot_138 rfl ?_
                refine aw_ialdq (q := d) (v := (x : Int)) dX12_lot_140 ⟨Nat.le_of_ble_eq_true rfl, Nat.le_of_ble_eq_true rfl⟩ rfl (by omega) (by omega) (by decide) rfl j98d ?_
                refine aw_icmp_eq (tgt := 148) dX12_lot_141 rfl (by first | assumption | (unfold ab_In at *; omega)) (by first | assumption | (unfold ab_In at *; omega)) (fun c_141 => ?_) (fun c_141 => ?_)
                · refine aw_iconst dX12_lot_148 ?_
                  refine aw_istore (ls' := [some (ab_r 84), some (ab_i (pl : Int)), some (ab_i hs9), some (ab_i (n : Int)), some (ab_i kd), some (ab_i wc), some (ab_i (m : Int)), some (ab_l (a : Int)), none, some (ab_l (b : Int)), none, some (ab_i (d : Int)), some (ab_i 0), some (ab_i (k : Int))]) dX12_lot_149 (by decide) rfl ?_
                  refine aw_iinc (ls' := [some (ab_r 84), some (ab_i (pl : Int)), some (ab_i hs9), some (ab_i (n : Int)), some (ab_i kd), some (ab_i wc), some (ab_i (m : Int)), some (ab_l (a : Int)), none, some (ab_l (b : Int)), none, some (ab_i (d : Int)), some (ab_i 0), some (ab_i ((k : Int) + 1))]) dX12_lot_151 (by decide) rfl rfl ?_
                  refine aw_goto (tgt := 115) dX12_lot_154 rfl ?_
                  exact ihq (k + 1) _ (by omega) (by rw [hfs]; first | rw [if_pos (by omega)] | rw [if_neg (by omega), if_pos (by omega)] | rw [if_neg (by omega), if_neg (by omega)])
                · refine aw_iconst dX12_lot_144 ?_
                  refine aw_goto (tgt := 149) dX12_lot_145 rfl ?_
                  refine aw_istore (ls' := [some (ab_r 84), some (ab_i (pl : Int)), some (ab_i hs9), some (ab_i (n : Int)), some (ab_i kd), some (ab_i wc), some (ab_i (m : Int)), some (ab_l (a : Int)), none, some (ab_l (b : Int)), none, some (ab_i (d : Int)), some (ab_i 1), some (ab_i (k : Int))]) dX12_lot_149 (by decide) rfl ?_
                  refine aw_iinc (ls' := [some (ab_r 84), some (ab_i (pl : Int)), some (ab_i hs9), some (ab_i (n : Int)), some (ab_i kd), some (ab_i wc), some (ab_i (m : Int)), some (ab_l (a : Int)), none, some (ab_l (b : Int)), none, some (ab_i (d : Int)), some (ab_i 1), some (ab_i ((k : Int) + 1))]) dX12_lot_151 (by decide) rfl rfl ?_
                  refine aw_goto (tgt := 115) dX12_lot_154 rfl ?_
                  exact ihq (k + 1) _ (by omega) (by rw [hfs]; first | rw [if_pos (by omega)] | rw [if_neg (by omega), if_pos (by omega)] | rw [if_neg (by omega), if_neg (by omega)])
        refine aw_iload dX12_lot_93 rfl ?_
        refine aw_if_lt (tgt := 286) dX12_lot_95 rfl (by first | assumption | (unfold ab_In at *; omega)) (fun c_95 => ?_) (fun c_95 => ?_)
        · exfalso; omega
        · refine aw_aload_n dX12_lot_98 rfl (by decide) ?_
          refine aw_getrv (r := 98) dX12_lot_99 fX12_50 ⟨Nat.le_of_ble_eq_true rfl, Nat.le_of_ble_eq_true rfl⟩ rfl rfl (hF.at 84 23 98 rfl rfl rfl) ?_
          refine aw_iload dX12_lot_102 rfl ?_
          refine aw_dup2 dX12_lot_104 rfl rfl ?_
          refine aw_ialdq (q := d) (v := ((x : Int) - 1)) dX12_lot_105 ⟨Nat.le_of_ble_eq_true rfl, Nat.le_of_ble_eq_true rfl⟩ rfl (by omega) (by omega) (by decide) rfl h98 ?_
          refine aw_iconst dX12_lot_106 ?_
          refine aw_iadd dX12_lot_107 ?_
          refine aw_to (z := (x : Int)) (by omega) ?_
          refine aw_iastv (q := d) dX12_lot_108 ⟨Nat.le_of_ble_eq_true rfl, Nat.le_of_ble_eq_true rfl⟩ rfl (by omega) (by omega) (by decide) rfl ?_
          refine aw_iconst dX12_lot_109 ?_
          refine aw_istore (ls' := [some (ab_r 84), some (ab_i (pl : Int)), some (ab_i hs9), some (ab_i (n : Int)), some (ab_i kd), some (ab_i wc), some (ab_i (m : Int)), some (ab_l (a : Int)), none, some (ab_l (b : Int)), none, some (ab_i (d : Int)), some (ab_i 1), none]) dX12_lot_110 (by decide) rfl ?_
          refine aw_iconst dX12_lot_112 ?_
          refine aw_istore (ls' := [some (ab_r 84), some (ab_i (pl : Int)), some (ab_i hs9), some (ab_i (n : Int)), some (ab_i kd), some (ab_i wc), some (ab_i (m : Int)), some (ab_l (a : Int)), none, some (ab_l (b : Int)), none, some (ab_i (d : Int)), some (ab_i 1), some (ab_i 0)]) dX12_lot_113 (by decide) rfl ?_
          rw [hJ1]
          exact lpF d 0 1 (by omega) rfl
  have fin : ∀ (J : Nat → Nat → Int) (dm : Int), dm = ((0 : Nat) : Int) - 1 → (∀ i b, i ≠ 91 → i ≠ 98 → i ≠ 99 → J i b = I i b) → ∀ (a b : Nat), a = fct m → b = gB (okL (fun x k => I 85 (4 * sr x + k)) pl kd (cK (hkL hs9) n)) m m [] → aW G YX12_lot (ab_rm 2 0 0) Z 0 0 (104, J, F) 93 [some (ab_r 84), some (ab_i (pl : Int)), some (ab_i hs9), some (ab_i (n : Int)), some (ab_i kd), some (ab_i wc), some (ab_i (m : Int)), some (ab_l (a : Int)), none, some (ab_l (b : Int)), none, some (ab_i dm), none, none] [] := by
    intro J dm hdm hfj a b ha hb9
    have hle := gB_le (m := m) (P := (okL (fun x k => I 85 (4 * sr x + k)) pl kd (cK (hkL hs9) n))) (Q := (fun _ => true)) (fun _ _ => rfl) m []
    rw [gB_all m [] (by simp) (by simp) (by simp), ← hb9] at hle
    refine aw_iload dX12_lot_93 rfl ?_
    refine aw_if_lt (tgt := 286) dX12_lot_95 rfl (by first | assumption | (unfold ab_In at *; omega)) (fun c_95 => ?_) (fun c_95 => ?_)
    · refine aw_aload_n dX12_lot_286 rfl (by decide) ?_
      refine aw_lload dX12_lot_287 rfl ?_
      refine aw_lload dX12_lot_289 rfl ?_
      refine aw_iload dX12_lot_291 rfl ?_
      refine aw_callV (as := [ab_l (b : Int), ab_l (a : Int), ab_i wc]) (rest := []) dX12_lot_293 (ct_X12_part G (104, J, F) b a (by omega) (by omega) (by omega) wc (by unfold ab_In; omega)) ⟨Nat.le_of_ble_eq_true rfl, Nat.le_of_ble_eq_true rfl⟩ rfl kc12 rfl kX12_part iX12_part eX12_part lX12_234 rfl (Nat.le_of_ble_eq_true rfl) (by decide) (by decide) (by decide) (by decide) ?_
      rintro _ _ ⟨rfl, rfl⟩
      rw [← hZ]
      refine aw_ireturn dX12_lot_296 rfl ?_
      exact ⟨by rw [hb9, ha], J, rfl, hfj⟩
    · exfalso; omega
  refine aw_aload_n dX12_lot_0 rfl (by decide) ?_
  refine aw_getrv (r := 89) dX12_lot_1 fX12_22 ⟨Nat.le_of_ble_eq_true rfl, Nat.le_of_ble_eq_true rfl⟩ rfl rfl (hF.at 84 6 89 rfl rfl rfl) ?_
  refine aw_bipush dX12_lot_4 rfl ?_
  refine aw_ialdq (q := 84) (v := (N : Int)) dX12_lot_6 ⟨Nat.le_of_ble_eq_true rfl, Nat.le_of_ble_eq_true rfl⟩ rfl (by omega) (by omega) (by decide) rfl hN ?_
  refine aw_bipush dX12_lot_7 rfl ?_
  refine aw_icmp_le (tgt := 17) dX12_lot_9 rfl (by first | assumption | (unfold ab_In at *; omega)) (by first | assumption | (unfold ab_In at *; omega)) (fun c_9 => ?_) (fun c_9 => ?_)
  · refine aw_aload_n dX12_lot_17 rfl (by decide) ?_
    refine aw_getrv (r := 89) dX12_lot_18 fX12_22 ⟨Nat.le_of_ble_eq_true rfl, Nat.le_of_ble_eq_true rfl⟩ rfl rfl (hF.at 84 6 89 rfl rfl rfl) ?_
    refine aw_bipush dX12_lot_21 rfl ?_
    refine aw_ialdq (q := 84) (v := (N : Int)) dX12_lot_23 ⟨Nat.le_of_ble_eq_true rfl, Nat.le_of_ble_eq_true rfl⟩ rfl (by omega) (by omega) (by decide) rfl hN ?_
    refine aw_to (z := (m : Int)) (by rw [hmN]; first | rw [if_pos (by omega)] | rw [if_neg (by omega)]) ?_
    refine aw_istore (ls' := [some (ab_r 84), some (ab_i (pl : Int)), some (ab_i hs9), some (ab_i (n : Int)), some (ab_i kd), some (ab_i wc), some (ab_i (m : Int)), none, none, none, none, none, none, none]) dX12_lot_24 (by decide) rfl ?_
    refine aw_iload_n dX12_lot_26 rfl ?_
    refine aw_iconst dX12_lot_27 ?_
    refine aw_iload dX12_lot_28 rfl ?_
    refine aw_iconst dX12_lot_30 ?_
    refine aw_isub dX12_lot_31 ?_
    refine aw_callS (as := [ab_i (pl : Int), ab_i 0, ab_i ((m : Int) - 1)]) (rest := []) dX12_lot_32 (ct_X12_in G (104, I, F) (pl : Int) 0 ((m : Int) - 1) (by first | assumption | (unfold ab_In at *; omega)) (by first | assumption | (unfold ab_In at *; omega)) (by first | assumption | (unfold ab_In at *; omega))) kX12_in sX12_in lX12_75 rfl (Nat.le_of_ble_eq_true rfl) (by decide) (by decide) (by decide) (by decide) ?_
    rintro r9 _ ⟨e9, rfl⟩
    rw [if_pos (by omega)] at e9
    subst e9
    refine aw_if_eq (tgt := 48) dX12_lot_35 rfl ⟨by decide, by decide⟩ (fun c9 => absurd c9 (by decide)) (fun _ => ?_)
    refine aw_iload dX12_lot_38 rfl ?_
    refine aw_iconst dX12_lot_40 ?_
    refine aw_iconst dX12_lot_41 ?_
    refine aw_callS (as := [ab_i kd, ab_i (-1), ab_i 3]) (rest := []) dX12_lot_42 (ct_X12_in G (104, I, F) kd (-1) 3 (by first | assumption | (unfold ab_In at *; omega)) (by first | assumption | (unfold ab_In at *; omega)) (by first | assumption | (unfold ab_In at *; omega))) kX12_in sX12_in lX12_75 rfl (Nat.le_of_ble_eq_true rfl) (by decide) (by decide) (by decide) (by decide) ?_
    rintro r9 _ ⟨e9, rfl⟩
    rw [if_pos (by omega)] at e9
    subst e9
    refine aw_if_ne (tgt := 51) dX12_lot_45 rfl ⟨by decide, by decide⟩ (fun _ => ?_) (fun c9 => absurd c9 (by decide))
    refine aw_iload_n dX12_lot_51 rfl ?_
    refine aw_iconst dX12_lot_52 ?_
    refine aw_iconst dX12_lot_53 ?_
    refine aw_callS (as := [ab_i (n : Int), ab_i 1, ab_i 4]) (rest := []) dX12_lot_54 (ct_X12_in G (104, I, F) (n : Int) 1 4 (by first | assumption | (unfold ab_In at *; omega)) (by first | assumption | (unfold ab_In at *; omega)) (by first | assumption | (unfold ab_In at *; omega))) kX12_in sX12_in lX12_75 rfl (Nat.le_of_ble_eq_true rfl) (by decide) (by decide) (by decide) (by decide) ?_
    rintro r9 _ ⟨e9, rfl⟩
    rw [if_pos (by omega)] at e9
    subst e9
    refine aw_if_eq (tgt := 70) dX12_lot_57 rfl ⟨by decide, by decide⟩ (fun c9 => absurd c9 (by decide)) (fun _ => ?_)
    refine aw_iload dX12_lot_60 rfl ?_
    refine aw_iconst dX12_lot_62 ?_
    refine aw_iconst dX12_lot_63 ?_
    refine aw_callS (as := [ab_i wc, ab_i 0, ab_i 1]) (rest := []) dX12_lot_64 (ct_X12_in G (104, I, F) wc 0 1 (by first | assumption | (unfold ab_In at *; omega)) (by first | assumption | (unfold ab_In at *; omega)) (by first | assumption | (unfold ab_In at *; omega))) kX12_in sX12_in lX12_75 rfl (Nat.le_of_ble_eq_true rfl) (by decide) (by decide) (by decide) (by decide) ?_
    rintro r9 _ ⟨e9, rfl⟩
    rw [if_pos (by omega)] at e9
    subst e9
    refine aw_if_ne (tgt := 73) dX12_lot_67 rfl ⟨by decide, by decide⟩ (fun _ => ?_) (fun c9 => absurd c9 (by decide))
    refine aw_aload_n dX12_lot_73 rfl (by decide) ?_
    refine aw_callV (as := []) (rest := []) dX12_lot_74 (ct_X12_findOrder G I F hF N W nx hb hW hnx hN12 hn9 ho hN hnm) ⟨Nat.le_of_ble_eq_true rfl, Nat.le_of_ble_eq_true rfl⟩ rfl kc12 rfl kX12_findOrder iX12_findOrder eX12_findOrder lX12_98 rfl (Nat.le_of_ble_eq_true rfl) (by decide) (by decide) (by decide) (by decide) ?_
    rintro _ _ ⟨rfl, I2, rfl, h2, h91⟩
    refine aw_lconst (z := 0) dX12_lot_77 rfl ?_
    refine aw_lstore (ls' := [some (ab_r 84), some (ab_i (pl : Int)), some (ab_i hs9), some (ab_i (n : Int)), some (ab_i kd), some (ab_i wc), some (ab_i (m : Int)), some (ab_l 0), none, none, none, none, none, none]) dX12_lot_78 (by decide) rfl ?_
    refine aw_lconst (z := 0) dX12_lot_80 rfl ?_
    refine aw_lstore (ls' := [some (ab_r 84), some (ab_i (pl : Int)), some (ab_i hs9), some (ab_i (n : Int)), some (ab_i kd), some (ab_i wc), some (ab_i (m : Int)), some (ab_l 0), none, some (ab_l 0), none, none, none, none]) dX12_lot_81 (by decide) rfl ?_
    refine aw_iconst dX12_lot_83 ?_
    refine aw_istore (ls' := [some (ab_r 84), some (ab_i (pl : Int)), some (ab_i hs9), some (ab_i (n : Int)), some (ab_i kd), some (ab_i wc), some (ab_i (m : Int)), some (ab_l 0), none, some (ab_l 0), none, some (ab_i 0), none, none]) dX12_lot_84 (by decide) rfl ?_
    refine aw_aload_n dX12_lot_86 rfl (by decide) ?_
    refine aw_getrv (r := 98) dX12_lot_87 fX12_50 ⟨Nat.le_of_ble_eq_true rfl, Nat.le_of_ble_eq_true rfl⟩ rfl rfl (hF.at 84 23 98 rfl rfl rfl) ?_
    refine aw_iconst dX12_lot_90 ?_
    refine aw_iconst dX12_lot_91 ?_
    refine aw_iastv (q := 0) dX12_lot_92 ⟨Nat.le_of_ble_eq_true rfl, Nat.le_of_ble_eq_true rfl⟩ rfl (by omega) (by omega) (by decide) rfl ?_
    have hgA : smX (fun x => if x ∈ ([] : List Nat) then 0 else gB (fun _ => true) m (m - 1) ([] ++ [x])) m 0 = fct m := by rw [← gB_all (m := m) m [] (by simp) (by simp) (by simp)]; obtain ⟨m1, hm1⟩ : ∃ m1, m = m1 + 1 := ⟨m - 1, by omega⟩; subst hm1; rfl
    have hgP : smX (fun x => if x ∈ ([] : List Nat) then 0 else gB (okL (fun x k => I 85 (4 * sr x + k)) pl kd (cK (hkL hs9) n)) m (m - 1) ([] ++ [x])) m 0 = gB (okL (fun x k => I 85 (4 * sr x + k)) pl kd (cK (hkL hs9) n)) m m [] := by obtain ⟨m1, hm1⟩ : ∃ m1, m = m1 + 1 := ⟨m - 1, by omega⟩; subst hm1; rfl
    refine core I2 h2 h91 (m - 1) [] (by simp; omega) (by simp) (by simp) m 0 0 0 0 (ab_u I2 98 0 (-1)) rfl (by omega) (by rw [ab_u_s]; rfl) (fun i hi => by simp at hi) (fun i b q1 q2 => ab_u_i q1) (fun J2 dm w1 w2 w3 => ?_)
    exact fin J2 dm w1 (fun i b q1 q2 q3 => (w3 i b q2 q3).trans (h2 i b q1)) _ _ (by rw [Nat.zero_add]; exact hgA) (by rw [Nat.zero_add]; exact hgP)
  · refine aw_bipush dX12_lot_12 rfl ?_
    refine aw_goto (tgt := 24) dX12_lot_14 rfl ?_
    refine aw_to (z := (m : Int)) (by rw [hmN]; first | rw [if_pos (by omega)] | rw [if_neg (by omega)]) ?_
    refine aw_istore (ls' := [some (ab_r 84), some (ab_i (pl : Int)), some (ab_i hs9), some (ab_i (n : Int)), some (ab_i kd), some (ab_i wc), some (ab_i (m : Int)), none, none, none, none, none, none, none]) dX12_lot_24 (by decide) rfl ?_
    refine aw_iload_n dX12_lot_26 rfl ?_
    refine aw_iconst dX12_lot_27 ?_
    refine aw_iload dX12_lot_28 rfl ?_
    refine aw_iconst dX12_lot_30 ?_
    refine aw_isub dX12_lot_31 ?_
    refine aw_callS (as := [ab_i (pl : Int), ab_i 0, ab_i ((m : Int) - 1)]) (rest := []) dX12_lot_32 (ct_X12_in G (104, I, F) (pl : Int) 0 ((m : Int) - 1) (by first | assumption | (unfold ab_In at *; omega)) (by first | assumption | (unfold ab_In at *; omega)) (by first | assumption | (unfold ab_In at *; omega))) kX12_in sX12_in lX12_75 rfl (Nat.le_of_ble_eq_true rfl) (by decide) (by decide) (by decide) (by decide) ?_
    rintro r9 _ ⟨e9, rfl⟩
    rw [if_pos (by omega)] at e9
    subst e9
    refine aw_if_eq (tgt := 48) dX12_lot_35 rfl ⟨by decide, by decide⟩ (fun c9 => absurd c9 (by decide)) (fun _ => ?_)
    refine aw_iload dX12_lot_38 rfl ?_
    refine aw_iconst dX12_lot_40 ?_
    refine aw_iconst dX12_lot_41 ?_
    refine aw_callS (as := [ab_i kd, ab_i (-1), ab_i 3]) (rest := []) dX12_lot_42 (ct_X12_in G (104, I, F) kd (-1) 3 (by first | assumption | (unfold ab_In at *; omega)) (by first | assumption | (unfold ab_In at *; omega)) (by first | assumption | (unfold ab_In at *; omega))) kX12_in sX12_in lX12_75 rfl (Nat.le_of_ble_eq_true rfl) (by decide) (by decide) (by decide) (by decide) ?_
    rintro r9 _ ⟨e9, rfl⟩
    rw [if_pos (by omega)] at e9
    subst e9
    refine aw_if_ne (tgt := 51) dX12_lot_45 rfl ⟨by decide, by decide⟩ (fun _ => ?_) (fun c9 => absurd c9 (by decide))
    refine aw_iload_n dX12_lot_51 rfl ?_
    refine aw_iconst dX12_lot_52 ?_
    refine aw_iconst dX12_lot_53 ?_
    refine aw_callS (as := [ab_i (n : Int), ab_i 1, ab_i 4]) (rest := []) dX12_lot_54 (ct_X12_in G (104, I, F) (n : Int) 1 4 (by first | assumption | (unfold ab_In at *; omega)) (by first | assumption | (unfold ab_In at *; omega)) (by first | assumption | (unfold ab_In at *; omega))) kX12_in sX12_in lX12_75 rfl (Nat.le_of_ble_eq_true rfl) (by decide) (by decide) (by decide) (by decide) ?_
    rintro r9 _ ⟨e9, rfl⟩
    rw [if_pos (by omega)] at e9
    subst e9
    refine aw_if_eq (tgt := 70) dX12_lot_57 rfl ⟨by decide, by decide⟩ (fun c9 => absurd c9 (by decide)) (fun _ => ?_)
    refine aw_iload dX12_lot_60 rfl ?_
    refine aw_iconst dX12_lot_62 ?_
    refine aw_iconst dX12_lot_63 ?_
    refine aw_callS (as := [ab_i wc, ab_i 0, ab_i 1]) (rest := []) dX12_lot_64 (ct_X12_in G (104, I, F) wc 0 1 (by first | assumption | (unfold ab_In at *; omega)) (by first | assumption | (unfold ab_In at *; omega)) (by first | assumption | (unfold ab_In at *; omega))) kX12_in sX12_in lX12_75 rfl (Nat.le_of_ble_eq_true rfl) (by decide) (by decide) (by decide) (by decide) ?_
    rintro r9 _ ⟨e9, rfl⟩
    rw [if_pos (by omega)] at e9
    subst e9
    refine aw_if_ne (tgt := 73) dX12_lot_67 rfl ⟨by decide, by decide⟩ (fun _ => ?_) (fun c9 => absurd c9 (by decide))
    refine aw_aload_n dX12_lot_73 rfl (by decide) ?_
    refine aw_callV (as := []) (rest := []) dX12_lot_74 (ct_X12_findOrder G I F hF N W nx hb hW hnx hN12 hn9 ho hN hnm) ⟨Nat.le_of_ble_eq_true rfl, Nat.le_of_ble_eq_true rfl⟩ rfl kc12 rfl kX12_findOrder iX12_findOrder eX12_findOrder lX12_98 rfl (Nat.le_of_ble_eq_true rfl) (by decide) (by decide) (by decide) (by decide) ?_
    rintro _ _ ⟨rfl, I2, rfl, h2, h91⟩
    refine aw_lconst (z := 0) dX12_lot_77 rfl ?_
    refine aw_lstore (ls' := [some (ab_r 84), some (ab_i (pl : Int)), some (ab_i hs9), some (ab_i (n : Int)), some (ab_i kd), some (ab_i wc), some (ab_i (m : Int)), some (ab_l 0), none, none, none, none, none, none]) dX12_lot_78 (by decide) rfl ?_
    refine aw_lconst (z := 0) dX12_lot_80 rfl ?_
    refine aw_lstore (ls' := [some (ab_r 84), some (ab_i (pl : Int)), some (ab_i hs9), some (ab_i (n : Int)), some (ab_i kd), some (ab_i wc), some (ab_i (m : Int)), some (ab_l 0), none, some (ab_l 0), none, none, none, none]) dX12_lot_81 (by decide) rfl ?_
    refine aw_iconst dX12_lot_83 ?_
    refine aw_istore (ls' := [some (ab_r 84), some (ab_i (pl : Int)), some (ab_i hs9), some (ab_i (n : Int)), some (ab_i kd), some (ab_i wc), some (ab_i (m : Int)), some (ab_l 0), none, some (ab_l 0), none, some (ab_i 0), none, none]) dX12_lot_84 (by decide) rfl ?_
    refine aw_aload_n dX12_lot_86 rfl (by decide) ?_
    refine aw_getrv (r := 98) dX12_lot_87 fX12_50 ⟨Nat.le_of_ble_eq_true rfl, Nat.le_of_ble_eq_true rfl⟩ rfl rfl (hF.at 84 23 98 rfl rfl rfl) ?_
    refine aw_iconst dX12_lot_90 ?_
    refine aw_iconst dX12_lot_91 ?_
    refine aw_iastv (q := 0) dX12_lot_92 ⟨Nat.le_of_ble_eq_true rfl, Nat.le_of_ble_eq_true rfl⟩ rfl (by omega) (by omega) (by decide) rfl ?_
    have hgA : smX (fun x => if x ∈ ([] : List Nat) then 0 else gB (fun _ => true) m (m - 1) ([] ++ [x])) m 0 = fct m := by rw [← gB_all (m := m) m [] (by simp) (by simp) (by simp)]; obtain ⟨m1, hm1⟩ : ∃ m1, m = m1 + 1 := ⟨m - 1, by omega⟩; subst hm1; rfl
    have hgP : smX (fun x => if x ∈ ([] : List Nat) then 0 else gB (okL (fun x k => I 85 (4 * sr x + k)) pl kd (cK (hkL hs9) n)) m (m - 1) ([] ++ [x])) m 0 = gB (okL (fun x k => I 85 (4 * sr x + k)) pl kd (cK (hkL hs9) n)) m m [] := by obtain ⟨m1, hm1⟩ : ∃ m1, m = m1 + 1 := ⟨m - 1, by omega⟩; subst hm1; rfl
    refine core I2 h2 h91 (m - 1) [] (by simp; omega) (by simp) (by simp) m 0 0 0 0 (ab_u I2 98 0 (-1)) rfl (by omega) (by rw [ab_u_s]; rfl) (fun i hi => by simp at hi) (fun i b q1 q2 => ab_u_i q1) (fun J2 dm w1 w2 w3 => ?_)
    exact fin J2 dm w1 (fun i b q1 q2 q3 => (w3 i b q2 q3).trans (h2 i b q1)) _ _ (by rw [Nat.zero_add]; exact hgA) (by rw [Nat.zero_add]; exact hgP)
