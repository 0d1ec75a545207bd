theorem amK_bd (w c : Nat → Int) (n : Nat) : amK w c n = -1 ∨ ∃ k : Nat, amK w c n = k ∧ k < n := by
  rcases amK_spec w c n with ⟨h1, _⟩ | ⟨k, h1, h2, _⟩
  · exact Or.inl h1
  · exact Or.inr ⟨k, h1, h2⟩
theorem dcK_u (I : Nat → Nat → Int) (k : Nat) : ab_u I 75 k (I 75 k - 1) 75 = dcK (I 75) (k : Int) := by
  funext j
  unfold dcK
  by_cases e : j = k
  · rw [e, ab_u_s, if_pos rfl]
  · rw [ab_u_j e, if_neg (by omega)]
theorem ab_uu (I : Nat → Nat → Int) (i j : Nat) (v w : Int) : ab_u (ab_u I i j v) i j w = ab_u I i j w := by
  funext a b
  unfold ab_u
  by_cases e : a = i ∧ b = j
  · rw [if_pos e, if_pos e]
  · rw [if_neg e, if_neg e, if_neg e]
theorem ab_u_id (I : Nat → Nat → Int) (i j : Nat) {v : Int} (h : v = I i j) : ab_u I i j v = I := by
  funext a b
  unfold ab_u
  by_cases e : a = i ∧ b = j
  · rw [if_pos e, h, e.1, e.2]
  · rw [if_neg e]
/-- a set of bits is the places of a row -/
def BtL (u : Nat) (pre : List Nat) : Prop := u < 256 ∧ ∀ x, u.testBit x = true ↔ x ∈ pre
theorem BtL.app {u x : Nat} {pre : List Nat} (h : BtL u pre) (hx : x < 8) : BtL (u ||| 2 ^ x) (pre ++ [x]) := by
  refine ⟨Nat.or_lt_two_pow (n := 8) h.1 ?_, fun y => ?_⟩
  · exact Nat.pow_lt_pow_right (by decide) hx
  · rw [Nat.testBit_or, Bool.or_eq_true, h.2 y, Nat.testBit_two_pow, decide_eq_true_eq, List.mem_append, List.mem_singleton]
    exact ⟨fun q => q.imp id Eq.symm, fun q => q.imp id Eq.symm⟩
theorem rC_bd {wx : Nat → Nat → Int} {m pl : Nat} {kd : Int} {c0 : Nat → Int} (hm : m ≤ 6) (hpl : pl < m) : rC wx m pl kd m [] c0 ≤ 720 ∧ gB (okL wx pl kd c0) m m [] = rC wx m pl kd m [] c0 := by
  have h1 := gB_rC (wx := wx) (kd := kd) (c0 := c0) hpl m [] (by simp) (by simp) (by simp) (by simp)
  have h2 := gB_le (m := m) (P := okL wx pl kd c0) (Q := fun _ => true) (fun _ _ => rfl) m []
  rw [gB_all m [] (by simp) (by simp) (by simp)] at h2
  have h3 := (fct_fac ⟨m, by omega⟩).2.1
  simp only [] at h3
  exact ⟨by rw [← show lfT wx c0 [] = c0 from rfl, ← h1]; omega, h1⟩
set_option maxHeartbeats 4000000 in
set_option maxRecDepth 100000 in
theorem ct_X3_kindTaken (G : ab_G) (I : Nat → Nat → Int) (F : Nat → Nat → Nat) (hF : ab_FB F) (s : Nat) (hs : s < 4) (hc : ∀ j, j < 4 → 0 ≤ I 75 j ∧ I 75 j ≤ 4) (hw : ∀ s k, s < 4 → k < 4 → 0 ≤ I (4 + s) k ∧ I (4 + s) k ≤ 99) : Ct G 0 0 0 YX3_kindTaken [ab_r 73, ab_i (s : Int)] (104, I, F) (fun r h => r = some (ab_i (amK (I (4 + s)) (I 75) 4)) ∧ h = (104, I, F)) := by
  refine Ct.ofW kX3_kindTaken (ls := [some (ab_r 73), some (ab_i (s : Int)), none, none]) (Nat.le_of_ble_eq_true rfl) rfl ?_
  generalize hZ : ab_Z G (fun r h => r = some (ab_i (amK (I (4 + s)) (I 75) 4)) ∧ h = (104, I, F)) 0 0 = Z
  have lp : ∀ (d j : Nat) (t : Int), j + d = 4 → t = amK (I (4 + s)) (I 75) j → aW G YX3_kindTaken (ab_rm 0 0 0) Z 0 0 (104, I, F) 4 [some (ab_r 73), some (ab_i (s : Int)), some (ab_i t), some (ab_i (j : Int))] [] := by
    intro d
    induction d with
    | zero =>
      intro j t hj ht
      have hj4 : j = 4 := by omega
      refine aw_iload_n dX3_kindTaken_4 rfl ?_
      refine aw_iconst dX3_kindTaken_5 ?_
      refine aw_icmp_ge (tgt := 59) dX3_kindTaken_6 rfl (by first | assumption | (unfold ab_In at *; omega)) (by first | assumption | (unfold ab_In at *; omega)) (fun c_6 => ?_) (fun c_6 => ?_)
      · refine aw_iload_n dX3_kindTaken_59 rfl ?_
        rw [← hZ]
        refine aw_ireturn dX3_kindTaken_60 rfl ?_
        exact ⟨by rw [ht, hj4], rfl⟩
      · exfalso; omega
    | succ d ih =>
      intro j t hj ht
      have hcj := hc j (by omega)
      have hwj := hw s j hs (by omega)
      have hrec : amK (I (4 + s)) (I 75) (j + 1) = (if I 75 j = 0 then t else if t = -1 ∨ I (4 + s) t.toNat < I (4 + s) j then (j : Int) else t) := by rw [ht]; rfl
      rcases amK_bd (I (4 + s)) (I 75) j with hb | ⟨tn, hb, htn⟩
      · rw [hb] at ht
        subst ht
        refine aw_iload_n dX3_kindTaken_4 rfl ?_
        refine aw_iconst dX3_kindTaken_5 ?_
        refine aw_icmp_ge (tgt := 59) dX3_kindTaken_6 rfl (by first | assumption | (unfold ab_In at *; omega)) (by first | assumption | (unfold ab_In at *; omega)) (fun c_6 => ?_) (fun c_6 => ?_)
        · exfalso; omega
        · refine aw_aload_n dX3_kindTaken_9 rfl (by decide) ?_
          refine aw_getrv (r := 75) dX3_kindTaken_10 fX3_19 ⟨Nat.le_of_ble_eq_true rfl, Nat.le_of_ble_eq_true rfl⟩ rfl rfl (hF.at 73 3 75 rfl rfl rfl) ?_
          refine aw_iload_n dX3_kindTaken_13 rfl ?_
          refine aw_ialdq (q := j) (v := I 75 j) dX3_kindTaken_14 ⟨Nat.le_of_ble_eq_true rfl, Nat.le_of_ble_eq_true rfl⟩ rfl (by omega) (by omega) (by decide) rfl rfl ?_
          refine aw_if_ne (tgt := 21) dX3_kindTaken_15 rfl (by first | assumption | (unfold ab_In at *; omega)) (fun c_15 => ?_) (fun c_15 => ?_)
          · refine aw_iload_n dX3_kindTaken_21 rfl ?_
            refine aw_iconst dX3_kindTaken_22 ?_
            refine aw_icmp_eq (tgt := 51) dX3_kindTaken_23 rfl ⟨by decide, by decide⟩ ⟨by decide, by decide⟩ (fun _ => ?_) (fun c9 => absurd (by decide) c9)
            refine aw_iload_n dX3_kindTaken_51 rfl ?_
            refine aw_istore_n (ls' := [some (ab_r 73), some (ab_i (s : Int)), some (ab_i (j : Int)), some (ab_i (j : Int))]) dX3_kindTaken_52 (by decide) rfl ?_
            refine aw_iinc (ls' := [some (ab_r 73), some (ab_i (s : Int)), some (ab_i (j : Int)), some (ab_i ((j : Int) + 1))]) dX3_kindTaken_53 (by decide) rfl rfl ?_
            refine aw_goto (tgt := 4) dX3_kindTaken_56 rfl ?_
            exact ih (j + 1) _ (by omega) (by rw [hrec, if_neg (by omega), if_pos (by first | exact Or.inl rfl | exact Or.inr (by rw [etn]; omega))])
          · refine aw_goto (tgt := 53) dX3_kindTaken_18 rfl ?_
            refine aw_iinc (ls' := [some (ab_r 73), some (ab_i (s : Int)), some (ab_i (-1)), some (ab_i ((j : Int) + 1))]) dX3_kindTaken_53 (by decide) rfl rfl ?_
            refine aw_goto (tgt := 4) dX3_kindTaken_56 rfl ?_
            exact ih (j + 1) _ (by omega) (by rw [hrec]; first | rw [if_pos (by omega)] | rw [if_neg (by omega), if_neg (by rw [etn]; omega)])
      · rw [hb] at ht
        subst ht
        have hwt := hw s tn hs (by omega)
        have etn : ((tn : Int)).toNat = tn := rfl
        refine aw_iload_n dX3_kindTaken_4 rfl ?_
        refine aw_iconst dX3_kindTaken_5 ?_
        refine aw_icmp_ge (tgt := 59) dX3_kindTaken_6 rfl (by first | assumption | (unfold ab_In at *; omega)) (by first | assumption | (unfold ab_In at *; omega)) (fun c_6 => ?_) (fun c_6 => ?_)
        · exfalso; omega
        · refine aw_aload_n dX3_kindTaken_9 rfl (by decide) ?_
          refine aw_getrv (r := 75) dX3_kindTaken_10 fX3_19 ⟨Nat.le_of_ble_eq_true rfl, Nat.le_of_ble_eq_true rfl⟩ rfl rfl (hF.at 73 3 75 rfl rfl rfl) ?_
          refine aw_iload_n dX3_kindTaken_13 rfl ?_
          refine aw_ialdq (q := j) (v := I 75 j) dX3_kindTaken_14 ⟨Nat.le_of_ble_eq_true rfl, Nat.le_of_ble_eq_true rfl⟩ rfl (by omega) (by omega) (by decide) rfl rfl ?_
          refine aw_if_ne (tgt := 21) dX3_kindTaken_15 rfl (by first | assumption | (unfold ab_In at *; omega)) (fun c_15 => ?_) (fun c_15 => ?_)
          · refine aw_iload_n dX3_kindTaken_21 rfl ?_
            refine aw_iconst dX3_kindTaken_22 ?_
            refine aw_icmp_eq (tgt := 51) dX3_kindTaken_23 rfl (by first | assumption | (unfold ab_In at *; omega)) (by first | assumption | (unfold ab_In at *; omega)) (fun c_23 => ?_) (fun c_23 => ?_)
            · exfalso; omega
            · refine aw_aload_n dX3_kindTaken_26 rfl (by decide) ?_
              refine aw_getrv (r := 2) dX3_kindTaken_27 fX3_22 ⟨Nat.le_of_ble_eq_true rfl, Nat.le_of_ble_eq_true rfl⟩ rfl rfl (hF.at 73 0 2 rfl rfl rfl) ?_
              refine aw_getrv (r := 3) dX3_kindTaken_30 fX3_63 ⟨Nat.le_of_ble_eq_true rfl, Nat.le_of_ble_eq_true rfl⟩ rfl rfl (hF.at 2 0 3 rfl rfl rfl) ?_
              refine aw_iload_n dX3_kindTaken_33 rfl ?_
              refine aw_aaldv (r := 4 + s) dX3_kindTaken_34 ⟨Nat.le_of_ble_eq_true rfl, Nat.le_of_ble_eq_true rfl⟩ rfl (by decide) (by omega) (by omega) (by decide) (hF.w hs) ?_
              refine aw_iload_n dX3_kindTaken_35 rfl ?_
              refine aw_ialdq (q := j) (v := I (4 + s) j) dX3_kindTaken_36 ⟨by omega, by omega⟩ (sh_w hs) (by omega) (by omega) (by decide) rfl rfl ?_
              refine aw_aload_n dX3_kindTaken_37 rfl (by decide) ?_
              refine aw_getrv (r := 2) dX3_kindTaken_38 fX3_22 ⟨Nat.le_of_ble_eq_true rfl, Nat.le_of_ble_eq_true rfl⟩ rfl rfl (hF.at 73 0 2 rfl rfl rfl) ?_
              refine aw_getrv (r := 3) dX3_kindTaken_41 fX3_63 ⟨Nat.le_of_ble_eq_true rfl, Nat.le_of_ble_eq_true rfl⟩ rfl rfl (hF.at 2 0 3 rfl rfl rfl) ?_
              refine aw_iload_n dX3_kindTaken_44 rfl ?_
              refine aw_aaldv (r := 4 + s) dX3_kindTaken_45 ⟨Nat.le_of_ble_eq_true rfl, Nat.le_of_ble_eq_true rfl⟩ rfl (by decide) (by omega) (by omega) (by decide) (hF.w hs) ?_
              refine aw_iload_n dX3_kindTaken_46 rfl ?_
              refine aw_ialdq (q := tn) (v := I (4 + s) tn) dX3_kindTaken_47 ⟨by omega, by omega⟩ (sh_w hs) (by omega) (by omega) (by decide) rfl rfl ?_
              refine aw_icmp_le (tgt := 53) dX3_kindTaken_48 rfl (by first | assumption | (unfold ab_In at *; omega)) (by first | assumption | (unfold ab_In at *; omega)) (fun c_48 => ?_) (fun c_48 => ?_)
              · refine aw_iinc (ls' := [some (ab_r 73), some (ab_i (s : Int)), some (ab_i (tn : Int)), some (ab_i ((j : Int) + 1))]) dX3_kindTaken_53 (by decide) rfl rfl ?_
                refine aw_goto (tgt := 4) dX3_kindTaken_56 rfl ?_
                exact ih (j + 1) _ (by omega) (by rw [hrec]; first | rw [if_pos (by omega)] | rw [if_neg (by omega), if_neg (by rw [etn]; omega)])
              · refine aw_iload_n dX3_kindTaken_51 rfl ?_
                refine aw_istore_n (ls' := [some (ab_r 73), some (ab_i (s : Int)), some (ab_i (j : Int)), some (ab_i (j : Int))]) dX3_kindTaken_52 (by decide) rfl ?_
                refine aw_iinc (ls' := [some (ab_r 73), some (ab_i (s : Int)), some (ab_i (j : Int)), some (ab_i ((j : Int) + 1))]) dX3_kindTaken_53 (by decide) rfl rfl ?_
                refine aw_goto (tgt := 4) dX3_kindTaken_56 rfl ?_
                exact ih (j + 1) _ (by omega) (by rw [hrec, if_neg (by omega), if_pos (by first | exact Or.inl rfl | exact Or.inr (by rw [etn]; omega))])
          · refine aw_goto (tgt := 53) dX3_kindTaken_18 rfl ?_
            refine aw_iinc (ls' := [some (ab_r 73), some (ab_i (s : Int)), some (ab_i (tn : Int)), some (ab_i ((j : Int) + 1))]) dX3_kindTaken_53 (by decide) rfl rfl ?_
            refine aw_goto (tgt := 4) dX3_kindTaken_56 rfl ?_
            exact ih (j + 1) _ (by omega) (by rw [hrec]; first | rw [if_pos (by omega)] | rw [if_neg (by omega), if_neg (by rw [etn]; omega)])
  refine aw_iconst dX3_kindTaken_0 ?_
  refine aw_istore_n (ls' := [some (ab_r 73), some (ab_i (s : Int)), some (ab_i (-1)), none]) dX3_kindTaken_1 (by decide) rfl ?_
  refine aw_iconst dX3_kindTaken_2 ?_
  refine aw_istore_n (ls' := [some (ab_r 73), some (ab_i (s : Int)), some (ab_i (-1)), some (ab_i 0)]) dX3_kindTaken_3 (by decide) rfl ?_
  exact lp 4 0 (-1) (by omega) rfl
set_option maxHeartbeats 4000000 in
set_option maxRecDepth 100000 in
theorem ct_X3_rowsFrom (G : ab_G) (I0 : Nat → Nat → Int) (F : Nat → Nat → Nat) (hF : ab_FB F) (m : Nat) (hm6 : m ≤ 6) (sr : Nat → Nat) (hsr : ∀ x, sr x < 4) (h73 : I0 73 2 = (m : Int)) (h74 : ∀ x, x < m → I0 74 x = (sr x : Int)) (hw : ∀ s k, s < 4 → k < 4 → 0 ≤ I0 (4 + s) k ∧ I0 (4 + s) k ≤ 99) (pl : Nat) (hpl : pl < m) (kd : Int) (hkd : ab_In kd) : ∀ (e d u : Nat) (pre : List Nat) (J : Nat → Nat → Int), d + e = m → BtL u pre → (∀ j, j < 4 → 0 ≤ J 75 j ∧ J 75 j ≤ 4) → (∀ i b, i ≠ 75 → J i b = I0 i b) → Ct G (e + 1) 0 0 YX3_rowsFrom [ab_r 73, ab_i (d : Int), ab_i (u : Int), ab_i (pl : Int), ab_i kd] (104, J, F) (fun r h => r = some (ab_i (rC (fun x k => I0 (4 + sr x) k) m pl kd e pre (J 75) : Int)) ∧ h = (104, J, F)) := by
  intro e
  induction e with
  | zero =>
    intro d u pre J hd hu hc hfr
    refine Ct.ofW kX3_rowsFrom (ls := [some (ab_r 73), some (ab_i (d : Int)), some (ab_i (u : Int)), some (ab_i (pl : Int)), some (ab_i kd), none, none, none]) (Nat.le_of_ble_eq_true rfl) rfl ?_
    have e73 : J 73 2 = (m : Int) := (hfr 73 2 (by decide)).trans h73
    refine aw_iconst dX3_rowsFrom_0 ?_
    refine aw_istore (ls' := [some (ab_r 73), some (ab_i (d : Int)), some (ab_i (u : Int)), some (ab_i (pl : Int)), some (ab_i kd), some (ab_i 0), none, none]) dX3_rowsFrom_1 (by decide) rfl ?_
    refine aw_iload_n dX3_rowsFrom_3 rfl ?_
    refine aw_aload_n dX3_rowsFrom_4 rfl (by decide) ?_
    refine aw_getiv (v := (m : Int)) dX3_rowsFrom_5 fX3_15 ⟨Nat.le_of_ble_eq_true rfl, Nat.le_of_ble_eq_true rfl⟩ rfl rfl e73 ?_
    refine aw_icmp_lt (tgt := 14) dX3_rowsFrom_8 rfl (by first | assumption | (unfold ab_In at *; omega)) (by first | assumption | (unfold ab_In at *; omega)) (fun c_8 => ?_) (fun c_8 => ?_)
    · exfalso; omega
    · refine aw_iload dX3_rowsFrom_11 rfl ?_
      refine aw_ireturn dX3_rowsFrom_13 rfl ?_
      exact ⟨rfl, rfl⟩
  | succ e ihe =>
    intro d u pre J hd hu hc hfr
    refine Ct.ofW kX3_rowsFrom (ls := [some (ab_r 73), some (ab_i (d : Int)), some (ab_i (u : Int)), some (ab_i (pl : Int)), some (ab_i kd), none, none, none]) (Nat.le_of_ble_eq_true rfl) rfl ?_
    have e73 : J 73 2 = (m : Int) := (hfr 73 2 (by decide)).trans h73
    generalize hfx : (fun x => if x ∈ pre then 0 else if tkL (fun x k => I0 (4 + sr x) k) x (J 75) = -1 then 0 else if x = pl then (if kd = -1 ∨ kd = tkL (fun x k => I0 (4 + sr x) k) x (J 75) then fct e else 0) else rC (fun x k => I0 (4 + sr x) k) m pl kd e (pre ++ [x]) (dcK (J 75) (tkL (fun x k => I0 (4 + sr x) k) x (J 75)))) = fx
    have hRC : rC (fun x k => I0 (4 + sr x) k) m pl kd (e + 1) pre (J 75) = smX fx m 0 := by rw [rC, ← hfx]
    rw [hRC]
    generalize hZ : ab_Z G (fun r h => r = some (ab_i (smX fx m 0 : Int)) ∧ h = (104, J, F)) 0 0 = Z
    have lp : ∀ (q x rows : Nat), x + q = m → rows + smX fx q x = smX fx m 0 → aW G YX3_rowsFrom (ab_rm (e + 1 + 1) 0 0) Z 0 0 (104, J, F) 17 [some (ab_r 73), some (ab_i (d : Int)), some (ab_i (u : Int)), some (ab_i (pl : Int)), some (ab_i kd), some (ab_i (rows : Int)), some (ab_i (x : Int)), none] [] := by
      intro q
      induction q with
      | zero =>
        intro x rows hx hs
        refine aw_iload dX3_rowsFrom_17 rfl ?_
        refine aw_aload_n dX3_rowsFrom_19 rfl (by decide) ?_
        refine aw_getiv (v := (m : Int)) dX3_rowsFrom_20 fX3_15 ⟨Nat.le_of_ble_eq_true rfl, Nat.le_of_ble_eq_true rfl⟩ rfl rfl e73 ?_
        refine aw_icmp_ge (tgt := 147) dX3_rowsFrom_23 rfl (by first | assumption | (unfold ab_In at *; omega)) (by first | assumption | (unfold ab_In at *; omega)) (fun c_23 => ?_) (fun c_23 => ?_)
        · refine aw_iload dX3_rowsFrom_147 rfl ?_
          rw [← hZ]
          refine aw_ireturn dX3_rowsFrom_149 rfl ?_
          exact ⟨by rw [← hs]; rfl, rfl⟩
        · exfalso; omega
      | succ q ihq =>
        intro x rows hx hs
        rw [smX] at hs
        have hx8 : x < 8 := by omega
        have hbm := bit_m ⟨u, hu.1⟩ ⟨x, hx8⟩
        simp only [] at hbm
        have hbm1 := hbm.1
        have hbm2 := hbm.2
        have hfxx : fx x = (fun x => if x ∈ pre then 0 else if tkL (fun x k => I0 (4 + sr x) k) x (J 75) = -1 then 0 else if x = pl then (if kd = -1 ∨ kd = tkL (fun x k => I0 (4 + sr x) k) x (J 75) then fct e else 0) else rC (fun x k => I0 (4 + sr x) k) m pl kd e (pre ++ [x]) (dcK (J 75) (tkL (fun x k => I0 (4 + sr x) k) x (J 75)))) x := by rw [← hfx]
        simp only [] at hfxx
        by_cases hb : u.testBit x = true
        · rw [if_pos hb] at hbm1
          rw [if_pos ((hu.2 x).mp hb)] at hfxx
          refine aw_iload dX3_rowsFrom_17 rfl ?_
          refine aw_aload_n dX3_rowsFrom_19 rfl (by decide) ?_
          refine aw_getiv (v := (m : Int)) dX3_rowsFrom_20 fX3_15 ⟨Nat.le_of_ble_eq_true rfl, Nat.le_of_ble_eq_true rfl⟩ rfl rfl e73 ?_
          refine aw_icmp_ge (tgt := 147) dX3_rowsFrom_23 rfl (by first | assumption | (unfold ab_In at *; omega)) (by first | assumption | (unfold ab_In at *; omega)) (fun c_23 => ?_) (fun c_23 => ?_)
          · exfalso; omega
          · refine aw_iload_n dX3_rowsFrom_26 rfl ?_
            refine aw_iload dX3_rowsFrom_27 rfl ?_
            refine aw_ishr dX3_rowsFrom_29 ?_
            refine aw_iconst dX3_rowsFrom_30 ?_
            refine aw_iand dX3_rowsFrom_31 ?_
            refine aw_to (z := 1) hbm1 ?_
            refine aw_if_eq (tgt := 38) dX3_rowsFrom_32 rfl ⟨by decide, by decide⟩ (fun c9 => absurd c9 (by decide)) (fun _ => ?_)
            refine aw_goto (tgt := 141) dX3_rowsFrom_35 rfl ?_
            refine aw_iinc (ls' := [some (ab_r 73), some (ab_i (d : Int)), some (ab_i (u : Int)), some (ab_i (pl : Int)), some (ab_i kd), some (ab_i (rows : Int)), some (ab_i ((x : Int) + 1)), none]) dX3_rowsFrom_141 (by decide) rfl rfl ?_
            refine aw_goto (tgt := 17) dX3_rowsFrom_144 rfl ?_
            exact aw_le (ab_le_c (ab_le_c (ab_le_c (ab_le_c (ab_le_c (ab_le_c (ab_le_c (ab_le_c ab_le_nil)))))))) (ihq (x + 1) rows (by omega) (by omega))
        · rw [if_neg hb] at hbm1
          rw [if_neg (fun q9 => hb ((hu.2 x).mpr q9))] at hfxx
          have e74 : J 74 x = (sr x : Int) := (hfr 74 x (by decide)).trans (h74 x (by omega))
          have hkt := ct_X3_kindTaken G J F hF (sr x) (hsr x) hc (fun s k hs hk => by rw [hfr (4 + s) k (by omega)]; exact hw s k hs hk)
          have htk : amK (J (4 + sr x)) (J 75) 4 = tkL (fun x k => I0 (4 + sr x) k) x (J 75) := by unfold tkL; rw [show J (4 + sr x) = I0 (4 + sr x) from funext fun b => hfr _ b (by have := hsr x; omega)]
          rw [htk] at hkt
          by_cases hz : tkL (fun x k => I0 (4 + sr x) k) x (J 75) = -1
          · rw [hz] at hkt
            have hall : smX fx m 0 = 0 := smX_zero m 0 (fun y _ _ => by rw [← hfx]; simp only []; rw [tkL_zero (tkL_none hz) y, if_pos rfl]; split <;> rfl)
            refine aw_iload dX3_rowsFrom_17 rfl ?_
            refine aw_aload_n dX3_rowsFrom_19 rfl (by decide) ?_
            refine aw_getiv (v := (m : Int)) dX3_rowsFrom_20 fX3_15 ⟨Nat.le_of_ble_eq_true rfl, Nat.le_of_ble_eq_true rfl⟩ rfl rfl e73 ?_
            refine aw_icmp_ge (tgt := 147) dX3_rowsFrom_23 rfl (by first | assumption | (unfold ab_In at *; omega)) (by first | assumption | (unfold ab_In at *; omega)) (fun c_23 => ?_) (fun c_23 => ?_)
            · exfalso; omega
            · refine aw_iload_n dX3_rowsFrom_26 rfl ?_
              refine aw_iload dX3_rowsFrom_27 rfl ?_
              refine aw_ishr dX3_rowsFrom_29 ?_
              refine aw_iconst dX3_rowsFrom_30 ?_
              refine aw_iand dX3_rowsFrom_31 ?_
              refine aw_to (z := 0) hbm1 ?_
              refine aw_if_eq (tgt := 38) dX3_rowsFrom_32 rfl ⟨by decide, by decide⟩ (fun _ => ?_) (fun c9 => absurd (by decide) c9)
              refine aw_aload_n dX3_rowsFrom_38 rfl (by decide) ?_
              refine aw_aload_n dX3_rowsFrom_39 rfl (by decide) ?_
              refine aw_getrv (r := 74) dX3_rowsFrom_40 fX3_9 ⟨Nat.le_of_ble_eq_true rfl, Nat.le_of_ble_eq_true rfl⟩ rfl rfl (hF.at 73 1 74 rfl rfl rfl) ?_
              refine aw_iload dX3_rowsFrom_43 rfl ?_
              refine aw_ialdq (q := x) (v := (sr x : Int)) dX3_rowsFrom_45 ⟨Nat.le_of_ble_eq_true rfl, Nat.le_of_ble_eq_true rfl⟩ rfl (by omega) (by omega) (by decide) rfl e74 ?_
              refine aw_callV (as := [ab_i (sr x : Int)]) (rest := []) dX3_rowsFrom_46 hkt ⟨Nat.le_of_ble_eq_true rfl, Nat.le_of_ble_eq_true rfl⟩ rfl kc3 rfl kX3_kindTaken iX3_kindTaken eX3_kindTaken lX3_56 rfl (Nat.le_of_ble_eq_true rfl) (show 0 + 1 ≤ e + 1 + 1 by omega) (show 64 * (0) + 19 + 4 ≤ 64 * (e + 1 + 1) by omega) (Nat.zero_le _) (Nat.zero_le _) ?_
              rintro _ _ ⟨rfl, rfl⟩
              refine aw_istore (ls' := [some (ab_r 73), some (ab_i (d : Int)), some (ab_i (u : Int)), some (ab_i (pl : Int)), some (ab_i kd), some (ab_i (rows : Int)), some (ab_i (x : Int)), some (ab_i (-1))]) dX3_rowsFrom_49 (by decide) rfl ?_
              refine aw_iload dX3_rowsFrom_51 rfl ?_
              refine aw_iconst dX3_rowsFrom_53 ?_
              refine aw_icmp_ne (tgt := 59) dX3_rowsFrom_54 rfl ⟨by decide, by decide⟩ ⟨by decide, by decide⟩ (fun c9 => absurd rfl c9) (fun _ => ?_)
              refine aw_iconst dX3_rowsFrom_57 ?_
              rw [← hZ]
              refine aw_ireturn dX3_rowsFrom_58 rfl ?_
              exact ⟨by rw [hall]; rfl, rfl⟩
          · rw [if_neg hz] at hfxx
            obtain ⟨tn, htn, ht4, hcn⟩ := tkL_at hz
            rw [htn] at hkt hfxx
            have hctn := hc tn ht4
            by_cases hp : x = pl
            · rw [if_pos hp] at hfxx
              have hfac := (fct_fac ⟨e, by omega⟩)
              simp only [] at hfac
              have hfac1 : ab_fac ((m : Int) - (d : Int) - 1).toNat = (fct e : Int) := by rw [show ((m : Int) - (d : Int) - 1).toNat = e by omega]; exact hfac.1
              refine aw_iload dX3_rowsFrom_17 rfl ?_
              refine aw_aload_n dX3_rowsFrom_19 rfl (by decide) ?_
              refine aw_getiv (v := (m : Int)) dX3_rowsFrom_20 fX3_15 ⟨Nat.le_of_ble_eq_true rfl, Nat.le_of_ble_eq_true rfl⟩ rfl rfl e73 ?_
              refine aw_icmp_ge (tgt := 147) dX3_rowsFrom_23 rfl (by first | assumption | (unfold ab_In at *; omega)) (by first | assumption | (unfold ab_In at *; omega)) (fun c_23 => ?_) (fun c_23 => ?_)
              · exfalso; omega
              · refine aw_iload_n dX3_rowsFrom_26 rfl ?_
                refine aw_iload dX3_rowsFrom_27 rfl ?_
                refine aw_ishr dX3_rowsFrom_29 ?_
                refine aw_iconst dX3_rowsFrom_30 ?_
                refine aw_iand dX3_rowsFrom_31 ?_
                refine aw_to (z := 0) hbm1 ?_
                refine aw_if_eq (tgt := 38) dX3_rowsFrom_32 rfl ⟨by decide, by decide⟩ (fun _ => ?_) (fun c9 => absurd (by decide) c9)
                refine aw_aload_n dX3_rowsFrom_38 rfl (by decide) ?_
                refine aw_aload_n dX3_rowsFrom_39 rfl (by decide) ?_
                refine aw_getrv (r := 74) dX3_rowsFrom_40 fX3_9 ⟨Nat.le_of_ble_eq_true rfl, Nat.le_of_ble_eq_true rfl⟩ rfl rfl (hF.at 73 1 74 rfl rfl rfl) ?_
                refine aw_iload dX3_rowsFrom_43 rfl ?_
                refine aw_ialdq (q := x) (v := (sr x : Int)) dX3_rowsFrom_45 ⟨Nat.le_of_ble_eq_true rfl, Nat.le_of_ble_eq_true rfl⟩ rfl (by omega) (by omega) (by decide) rfl e74 ?_
                refine aw_callV (as := [ab_i (sr x : Int)]) (rest := []) dX3_rowsFrom_46 hkt ⟨Nat.le_of_ble_eq_true rfl, Nat.le_of_ble_eq_true rfl⟩ rfl kc3 rfl kX3_kindTaken iX3_kindTaken eX3_kindTaken lX3_56 rfl (Nat.le_of_ble_eq_true rfl) (show 0 + 1 ≤ e + 1 + 1 by omega) (show 64 * (0) + 19 + 4 ≤ 64 * (e + 1 + 1) by omega) (Nat.zero_le _) (Nat.zero_le _) ?_
                rintro _ _ ⟨rfl, rfl⟩
                refine aw_istore (ls' := [some (ab_r 73), some (ab_i (d : Int)), some (ab_i (u : Int)), some (ab_i (pl : Int)), some (ab_i kd), some (ab_i (rows : Int)), some (ab_i (x : Int)), some (ab_i (tn : Int))]) dX3_rowsFrom_49 (by decide) rfl ?_
                refine aw_iload dX3_rowsFrom_51 rfl ?_
                refine aw_iconst dX3_rowsFrom_53 ?_
                refine aw_icmp_ne (tgt := 59) dX3_rowsFrom_54 rfl (by first | assumption | (unfold ab_In at *; omega)) (by first | assumption | (unfold ab_In at *; omega)) (fun c_54 => ?_) (fun c_54 => ?_)
                · refine aw_iload dX3_rowsFrom_59 rfl ?_
                  refine aw_iload_n dX3_rowsFrom_61 rfl ?_
                  refine aw_icmp_eq (tgt := 111) dX3_rowsFrom_62 rfl (by first | assumption | (unfold ab_In at *; omega)) (by first | assumption | (unfold ab_In at *; omega)) (fun c_62 => ?_) (fun c_62 => ?_)
                  · refine aw_iload dX3_rowsFrom_111 rfl ?_
                    refine aw_iconst dX3_rowsFrom_113 ?_
                    refine aw_icmp_eq (tgt := 124) dX3_rowsFrom_114 rfl (by first | assumption | (unfold ab_In at *; omega)) (by first | assumption | (unfold ab_In at *; omega)) (fun c_114 => ?_) (fun c_114 => ?_)
                    · refine aw_iload dX3_rowsFrom_124 rfl ?_
                      refine aw_getsN dX3_rowsFrom_126 ab_zfac gNX3_60 ?_
                      refine aw_aload_n dX3_rowsFrom_129 rfl (by decide) ?_
                      refine aw_getiv (v := (m : Int)) dX3_rowsFrom_130 fX3_15 ⟨Nat.le_of_ble_eq_true rfl, Nat.le_of_ble_eq_true rfl⟩ rfl rfl e73 ?_
                      refine aw_iload_n dX3_rowsFrom_133 rfl ?_
                      refine aw_isub dX3_rowsFrom_134 ?_
                      refine aw_iconst dX3_rowsFrom_135 ?_
                      refine aw_isub dX3_rowsFrom_136 ?_
                      refine aw_ifac dX3_rowsFrom_137 (by omega) (by omega) ?_
                      refine aw_to (z := (fct e : Int)) hfac1 ?_
                      refine aw_iadd dX3_rowsFrom_138 ?_
                      refine aw_istore (ls' := [some (ab_r 73), some (ab_i (d : Int)), some (ab_i (u : Int)), some (ab_i (pl : Int)), some (ab_i kd), some (ab_i ((rows : Int) + (fct e : Int))), some (ab_i (x : Int)), some (ab_i (tn : Int))]) dX3_rowsFrom_139 (by decide) rfl ?_
                      refine aw_iinc (ls' := [some (ab_r 73), some (ab_i (d : Int)), some (ab_i (u : Int)), some (ab_i (pl : Int)), some (ab_i kd), some (ab_i ((rows : Int) + (fct e : Int))), some (ab_i ((x : Int) + 1)), some (ab_i (tn : Int))]) dX3_rowsFrom_141 (by decide) rfl rfl ?_
                      refine aw_goto (tgt := 17) dX3_rowsFrom_144 rfl ?_
                      have hfy : fx x = fct e := by rw [hfxx, if_pos (by omega)]
                      exact aw_le (ab_le_c (ab_le_c (ab_le_c (ab_le_c (ab_le_c (ab_le_c (ab_le_c (ab_le_n ab_le_nil)))))))) (ihq (x + 1) (rows + fct e) (by omega) (by omega))
                    · refine aw_iload dX3_rowsFrom_117 rfl ?_
                      refine aw_iload dX3_rowsFrom_119 rfl ?_
                      refine aw_icmp_ne (tgt := 141) dX3_rowsFrom_121 rfl (by first | assumption | (unfold ab_In at *; omega)) (by first | assumption | (unfold ab_In at *; omega)) (fun c_121 => ?_) (fun c_121 => ?_)
                      · refine aw_iinc (ls' := [some (ab_r 73), some (ab_i (d : Int)), some (ab_i (u : Int)), some (ab_i (pl : Int)), some (ab_i kd), some (ab_i (rows : Int)), some (ab_i ((x : Int) + 1)), some (ab_i (tn : Int))]) dX3_rowsFrom_141 (by decide) rfl rfl ?_
                        refine aw_goto (tgt := 17) dX3_rowsFrom_144 rfl ?_
                        have hfy : fx x = 0 := by rw [hfxx, if_neg (by omega)]
                        exact aw_le (ab_le_c (ab_le_c (ab_le_c (ab_le_c (ab_le_c (ab_le_c (ab_le_c (ab_le_n ab_le_nil)))))))) (ihq (x + 1) rows (by omega) (by omega))
                      · refine aw_iload dX3_rowsFrom_124 rfl ?_
                        refine aw_getsN dX3_rowsFrom_126 ab_zfac gNX3_60 ?_
                        refine aw_aload_n dX3_rowsFrom_129 rfl (by decide) ?_
                        refine aw_getiv (v := (m : Int)) dX3_rowsFrom_130 fX3_15 ⟨Nat.le_of_ble_eq_true rfl, Nat.le_of_ble_eq_true rfl⟩ rfl rfl e73 ?_
                        refine aw_iload_n dX3_rowsFrom_133 rfl ?_
                        refine aw_isub dX3_rowsFrom_134 ?_
                        refine aw_iconst dX3_rowsFrom_135 ?_
                        refine aw_isub dX3_rowsFrom_136 ?_
                        refine aw_ifac dX3_rowsFrom_137 (by omega) (by omega) ?_
                        refine aw_to (z := (fct e : Int)) hfac1 ?_
                        refine aw_iadd dX3_rowsFrom_138 ?_
                        refine aw_istore (ls' := [some (ab_r 73), some (ab_i (d : Int)), some (ab_i (u : Int)), some (ab_i (pl : Int)), some (ab_i kd), some (ab_i ((rows : Int) + (fct e : Int))), some (ab_i (x : Int)), some (ab_i (tn : Int))]) dX3_rowsFrom_139 (by decide) rfl ?_
                        refine aw_iinc (ls' := [some (ab_r 73), some (ab_i (d : Int)), some (ab_i (u : Int)), some (ab_i (pl : Int)), some (ab_i kd), some (ab_i ((rows : Int) + (fct e : Int))), some (ab_i ((x : Int) + 1)), some (ab_i (tn : Int))]) dX3_rowsFrom_141 (by decide) rfl rfl ?_
                        refine aw_goto (tgt := 17) dX3_rowsFrom_144 rfl ?_
                        have hfy : fx x = fct e := by rw [hfxx, if_pos (by omega)]
                        exact aw_le (ab_le_c (ab_le_c (ab_le_c (ab_le_c (ab_le_c (ab_le_c (ab_le_c (ab_le_n ab_le_nil)))))))) (ihq (x + 1) (rows + fct e) (by omega) (by omega))
                  · exfalso; omega
                · exfalso; omega
            · rw [if_neg hp] at hfxx
              obtain ⟨u2, hu2⟩ : ∃ u2, u ||| 2 ^ x = u2 := ⟨_, rfl⟩
              have hBt := hu.app hx8
              rw [hu2] at hBt hbm2
              have hrec := ihe (d + 1) u2 (pre ++ [x]) (ab_u J 75 tn (J 75 tn - 1)) (by omega) hBt (fun j hj => by
                by_cases q9 : j = tn
                · rw [q9, ab_u_s]; omega
                · rw [ab_u_j q9]; exact hc j hj) (fun i b q9 => by rw [ab_u_i q9]; exact hfr i b q9)
              rw [dcK_u, ← hfxx] at hrec
              refine aw_iload dX3_rowsFrom_17 rfl ?_
              refine aw_aload_n dX3_rowsFrom_19 rfl (by decide) ?_
              refine aw_getiv (v := (m : Int)) dX3_rowsFrom_20 fX3_15 ⟨Nat.le_of_ble_eq_true rfl, Nat.le_of_ble_eq_true rfl⟩ rfl rfl e73 ?_
              refine aw_icmp_ge (tgt := 147) dX3_rowsFrom_23 rfl (by first | assumption | (unfold ab_In at *; omega)) (by first | assumption | (unfold ab_In at *; omega)) (fun c_23 => ?_) (fun c_23 => ?_)
              · exfalso; omega
              · refine aw_iload_n dX3_rowsFrom_26 rfl ?_
                refine aw_iload dX3_rowsFrom_27 rfl ?_
                refine aw_ishr dX3_rowsFrom_29 ?_
                refine aw_iconst dX3_rowsFrom_30 ?_
                refine aw_iand dX3_rowsFrom_31 ?_
                refine aw_to (z := 0) hbm1 ?_
                refine aw_if_eq (tgt := 38) dX3_rowsFrom_32 rfl ⟨by decide, by decide⟩ (fun _ => ?_) (fun c9 => absurd (by decide) c9)
                refine aw_aload_n dX3_rowsFrom_38 rfl (by decide) ?_
                refine aw_aload_n dX3_rowsFrom_39 rfl (by decide) ?_
                refine aw_getrv (r := 74) dX3_rowsFrom_40 fX3_9 ⟨Nat.le_of_ble_eq_true rfl, Nat.le_of_ble_eq_true rfl⟩ rfl rfl (hF.at 73 1 74 rfl rfl rfl) ?_
                refine aw_iload dX3_rowsFrom_43 rfl ?_
                refine aw_ialdq (q := x) (v := (sr x : Int)) dX3_rowsFrom_45 ⟨Nat.le_of_ble_eq_true rfl, Nat.le_of_ble_eq_true rfl⟩ rfl (by omega) (by omega) (by decide) rfl e74 ?_
                refine aw_callV (as := [ab_i (sr x : Int)]) (rest := []) dX3_rowsFrom_46 hkt ⟨Nat.le_of_ble_eq_true rfl, Nat.le_of_ble_eq_true rfl⟩ rfl kc3 rfl kX3_kindTaken iX3_kindTaken eX3_kindTaken lX3_56 rfl (Nat.le_of_ble_eq_true rfl) (show 0 + 1 ≤ e + 1 + 1 by omega) (show 64 * (0) + 19 + 4 ≤ 64 * (e + 1 + 1) by omega) (Nat.zero_le _) (Nat.zero_le _) ?_
                rintro _ _ ⟨rfl, rfl⟩
                refine aw_istore (ls' := [some (ab_r 73), some (ab_i (d : Int)), some (ab_i (u : Int)), some (ab_i (pl : Int)), some (ab_i kd), some (ab_i (rows : Int)), some (ab_i (x : Int)), some (ab_i (tn : Int))]) dX3_rowsFrom_49 (by decide) rfl ?_
                refine aw_iload dX3_rowsFrom_51 rfl ?_
                refine aw_iconst dX3_rowsFrom_53 ?_
                refine aw_icmp_ne (tgt := 59) dX3_rowsFrom_54 rfl (by first | assumption | (unfold ab_In at *; omega)) (by first | assumption | (unfold ab_In at *; omega)) (fun c_54 => ?_) (fun c_54 => ?_)
                · refine aw_iload dX3_rowsFrom_59 rfl ?_
                  refine aw_iload_n dX3_rowsFrom_61 rfl ?_
                  refine aw_icmp_eq (tgt := 111) dX3_rowsFrom_62 rfl (by first | assumption | (unfold ab_In at *; omega)) (by first | assumption | (unfold ab_In at *; omega)) (fun c_62 => ?_) (fun c_62 => ?_)
                  · exfalso; omega
                  · refine aw_aload_n dX3_rowsFrom_65 rfl (by decide) ?_
                    refine aw_getrv (r := 75) dX3_rowsFrom_66 fX3_19 ⟨Nat.le_of_ble_eq_true rfl, Nat.le_of_ble_eq_true rfl⟩ rfl rfl (hF.at 73 3 75 rfl rfl rfl) ?_
                    refine aw_iload dX3_rowsFrom_69 rfl ?_
                    refine aw_dup2 dX3_rowsFrom_71 rfl rfl ?_
                    refine aw_ialdq (q := tn) (v := J 75 tn) dX3_rowsFrom_72 ⟨Nat.le_of_ble_eq_true rfl, Nat.le_of_ble_eq_true rfl⟩ rfl (by omega) (by omega) (by decide) rfl rfl ?_
                    refine aw_iconst dX3_rowsFrom_73 ?_
                    refine aw_isub dX3_rowsFrom_74 ?_
                    refine aw_iastv (q := tn) dX3_rowsFrom_75 ⟨Nat.le_of_ble_eq_true rfl, Nat.le_of_ble_eq_true rfl⟩ rfl (by omega) (by omega) (by decide) rfl ?_
                    refine aw_iload dX3_rowsFrom_76 rfl ?_
                    refine aw_aload_n dX3_rowsFrom_78 rfl (by decide) ?_
                    refine aw_iload_n dX3_rowsFrom_79 rfl ?_
                    refine aw_iconst dX3_rowsFrom_80 ?_
                    refine aw_iadd dX3_rowsFrom_81 ?_
                    refine aw_to (z := ((d + 1 : Nat) : Int)) rfl ?_
                    refine aw_iload_n dX3_rowsFrom_82 rfl ?_
                    refine aw_iconst dX3_rowsFrom_83 ?_
                    refine aw_iload dX3_rowsFrom_84 rfl ?_
                    refine aw_ishl dX3_rowsFrom_86 ?_
                    refine aw_ior dX3_rowsFrom_87 ?_
                    refine aw_to (z := (u2 : Int)) hbm2 ?_
                    refine aw_iload_n dX3_rowsFrom_88 rfl ?_
                    refine aw_iload dX3_rowsFrom_89 rfl ?_
                    refine aw_callV (as := [ab_i ((d + 1 : Nat) : Int), ab_i (u2 : Int), ab_i (pl : Int), ab_i kd]) (rest := [ab_i (rows : Int)]) dX3_rowsFrom_91 hrec ⟨Nat.le_of_ble_eq_true rfl, Nat.le_of_ble_eq_true rfl⟩ rfl kc3 rfl kX3_rowsFrom iX3_rowsFrom eX3_rowsFrom lX3_52 rfl (Nat.le_of_ble_eq_true rfl) (show (e + 1) + 1 ≤ e + 1 + 1 by omega) (show 64 * ((e + 1)) + 19 + 8 ≤ 64 * (e + 1 + 1) by omega) (Nat.zero_le _) (Nat.zero_le _) ?_
                    rintro _ _ ⟨rfl, rfl⟩
                    refine aw_iadd dX3_rowsFrom_94 ?_
                    refine aw_istore (ls' := [some (ab_r 73), some (ab_i (d : Int)), some (ab_i (u : Int)), some (ab_i (pl : Int)), some (ab_i kd), some (ab_i ((rows : Int) + (fx x : Int))), some (ab_i (x : Int)), some (ab_i (tn : Int))]) dX3_rowsFrom_95 (by decide) rfl ?_
                    refine aw_aload_n dX3_rowsFrom_97 rfl (by decide) ?_
                    refine aw_getrv (r := 75) dX3_rowsFrom_98 fX3_19 ⟨Nat.le_of_ble_eq_true rfl, Nat.le_of_ble_eq_true rfl⟩ rfl rfl (hF.at 73 3 75 rfl rfl rfl) ?_
                    refine aw_iload dX3_rowsFrom_101 rfl ?_
                    refine aw_dup2 dX3_rowsFrom_103 rfl rfl ?_
                    refine aw_ialdq (q := tn) (v := ((J 75 tn) - 1)) dX3_rowsFrom_104 ⟨Nat.le_of_ble_eq_true rfl, Nat.le_of_ble_eq_true rfl⟩ rfl (by omega) (by omega) (by decide) rfl ab_u_s ?_
                    refine aw_iconst dX3_rowsFrom_105 ?_
                    refine aw_iadd dX3_rowsFrom_106 ?_
                    refine aw_iastv (q := tn) dX3_rowsFrom_107 ⟨Nat.le_of_ble_eq_true rfl, Nat.le_of_ble_eq_true rfl⟩ rfl (by omega) (by omega) (by decide) rfl ?_
                    refine aw_goto (tgt := 141) dX3_rowsFrom_108 rfl ?_
                    refine aw_iinc (ls' := [some (ab_r 73), some (ab_i (d : Int)), some (ab_i (u : Int)), some (ab_i (pl : Int)), some (ab_i kd), some (ab_i ((rows : Int) + (fx x : Int))), some (ab_i ((x : Int) + 1)), some (ab_i (tn : Int))]) dX3_rowsFrom_141 (by decide) rfl rfl ?_
                    refine aw_goto (tgt := 17) dX3_rowsFrom_144 rfl ?_
                    refine aw_hp (h' := (104, J, F)) (by rw [ab_uu, ab_u_id J 75 tn (by omega)]) ?_
                    exact aw_le (ab_le_c (ab_le_c (ab_le_c (ab_le_c (ab_le_c (ab_le_c (ab_le_c (ab_le_n ab_le_nil)))))))) (ihq (x + 1) (rows + fx x) (by omega) (by omega))
                · exfalso; omega
    refine aw_iconst dX3_rowsFrom_0 ?_
    refine aw_istore (ls' := [some (ab_r 73), some (ab_i (d : Int)), some (ab_i (u : Int)), some (ab_i (pl : Int)), some (ab_i kd), some (ab_i 0), none, none]) dX3_rowsFrom_1 (by decide) rfl ?_
    refine aw_iload_n dX3_rowsFrom_3 rfl ?_
    refine aw_aload_n dX3_rowsFrom_4 rfl (by decide) ?_
    refine aw_getiv (v := (m : Int)) dX3_rowsFrom_5 fX3_15 ⟨Nat.le_of_ble_eq_true rfl, Nat.le_of_ble_eq_true rfl⟩ rfl rfl e73 ?_
    refine aw_icmp_lt (tgt := 14) dX3_rowsFrom_8 rfl (by first | assumption | (unfold ab_In at *; omega)) (by first | assumption | (unfold ab_In at *; omega)) (fun c_8 => ?_) (fun c_8 => ?_)
    · refine aw_iconst dX3_rowsFrom_14 ?_
      refine aw_istore (ls' := [some (ab_r 73), some (ab_i (d : Int)), some (ab_i (u : Int)), some (ab_i (pl : Int)), some (ab_i kd), some (ab_i 0), some (ab_i 0), none]) dX3_rowsFrom_15 (by decide) rfl ?_
      exact lp m 0 0 (by omega) (by omega)
    · exfalso; omega
set_option maxHeartbeats 4000000 in
set_option maxRecDepth 100000 in
theorem ct_X3_rowsFor (G : ab_G) (I : Nat → Nat → Int) (F : Nat → Nat → Nat) (hF : ab_FB F) (m : Nat) (hm6 : m ≤ 6) (sr : Nat → Nat) (hsr : ∀ x, sr x < 4) (h73 : I 73 2 = (m : Int)) (h74 : ∀ x, x < m → I 74 x = (sr x : Int)) (hw : ∀ s k, s < 4 → k < 4 → 0 ≤ I (4 + s) k ∧ I (4 + s) k ≤ 99) (pl : Nat) (hpl : pl < m) (kd : Int) (hkd : ab_In kd) (hc : ∀ j, j < 4 → 0 ≤ I 75 j ∧ I 75 j ≤ 4) : Ct G 9 0 0 YX3_rowsFor [ab_r 73, ab_i (pl : Int), ab_i kd] (104, I, F) (fun r h => r = some (ab_i (rC (fun x k => I (4 + sr x) k) m pl kd m [] (I 75) : Int)) ∧ h = (104, I, F)) := by
  refine Ct.ofW kX3_rowsFor (ls := [some (ab_r 73), some (ab_i (pl : Int)), some (ab_i kd)]) (Nat.le_of_ble_eq_true rfl) rfl ?_
  refine aw_aload_n dX3_rowsFor_0 rfl (by decide) ?_
  refine aw_iconst dX3_rowsFor_1 ?_
  refine aw_iconst dX3_rowsFor_2 ?_
  refine aw_iload_n dX3_rowsFor_3 rfl ?_
  refine aw_iload_n dX3_rowsFor_4 rfl ?_
  refine aw_callV (as := [ab_i 0, ab_i 0, ab_i (pl : Int), ab_i kd]) (rest := []) dX3_rowsFor_5 (ct_X3_rowsFrom G I F hF m hm6 sr hsr h73 h74 hw pl hpl kd hkd m 0 0 [] I (by omega) ⟨by decide, fun x => by simp⟩ hc (fun _ _ _ => rfl)) ⟨Nat.le_of_ble_eq_true rfl, Nat.le_of_ble_eq_true rfl⟩ rfl kc3 rfl kX3_rowsFrom iX3_rowsFrom eX3_rowsFrom lX3_52 rfl (Nat.le_of_ble_eq_true rfl) (show m + 1 + 1 ≤ 9 by omega) (show 64 * (m + 1) + 19 + 8 ≤ 64 * 9 by omega) (Nat.zero_le _) (Nat.zero_le _) ?_
  rintro _ _ ⟨rfl, rfl⟩
  refine aw_ireturn dX3_rowsFor_8 rfl ?_
  exact ⟨rfl, rfl⟩
set_option maxHeartbeats 4000000 in
set_option maxRecDepth 100000 in
theorem ct_X3_gather (G : ab_G) (I : Nat → Nat → Int) (F : Nat → Nat → Nat) (hF : ab_FB F) (N m : Nat) (hN : I 23 2 = (N : Int)) (hmN : m ≤ N) (hm6 : m ≤ 6) (hN12 : N ≤ 12) (hP : ∀ j, j < 12 → 32 ≤ F 24 j ∧ F 24 j ≤ 43) : Ct G 1 0 0 YX3_gather [ab_r 73, ab_r 23, ab_i (m : Int)] (104, I, F) (fun r h => r = none ∧ ∃ J : Nat → Nat → Int, h = (104, J, F) ∧ J 73 2 = (m : Int) ∧ (∀ x, x < m → J 74 x = I (F 24 x) 0) ∧ ∀ i b, ¬ (i = 73 ∧ b = 2) → i ≠ 74 → J i b = I i b) := by
  refine Ct.ofW kX3_gather (ls := [some (ab_r 73), some (ab_r 23), some (ab_i (m : Int)), none]) (Nat.le_of_ble_eq_true rfl) rfl ?_
  generalize hZ : ab_Z G (fun r h => r = none ∧ ∃ J : Nat → Nat → Int, h = (104, J, F) ∧ J 73 2 = (m : Int) ∧ (∀ x, x < m → J 74 x = I (F 24 x) 0) ∧ ∀ i b, ¬ (i = 73 ∧ b = 2) → i ≠ 74 → J i b = I i b) 0 0 = Z
  have lp : ∀ (d x : Nat) (J : Nat → Nat → Int), x + d = m → J 73 2 = (m : Int) → (∀ y, y < x → J 74 y = I (F 24 y) 0) → (∀ i b, ¬ (i = 73 ∧ b = 2) → i ≠ 74 → J i b = I i b) → aW G YX3_gather (ab_rm 1 0 0) Z 0 0 (104, J, F) 19 [some (ab_r 73), some (ab_r 23), some (ab_i (m : Int)), some (ab_i (x : Int))] [] := by
    intro d
    induction d with
    | zero =>
      intro x J hx h1 h2 h3
      refine aw_iload_n dX3_gather_19 rfl ?_
      refine aw_aload_n dX3_gather_20 rfl (by decide) ?_
      refine aw_getiv (v := (m : Int)) dX3_gather_21 fX3_15 ⟨Nat.le_of_ble_eq_true rfl, Nat.le_of_ble_eq_true rfl⟩ rfl rfl h1 ?_
      refine aw_icmp_ge (tgt := 48) dX3_gather_24 rfl (by first | assumption | (unfold ab_In at *; omega)) (by first | assumption | (unfold ab_In at *; omega)) (fun c_24 => ?_) (fun c_24 => ?_)
      · rw [← hZ]
        refine aw_return dX3_gather_48 rfl ?_
        exact ⟨rfl, J, rfl, h1, fun y hy => h2 y (by omega), h3⟩
      · exfalso; omega
    | succ d ih =>
      intro x J hx h1 h2 h3
      have hp := hP x (by omega)
      obtain ⟨p, hpe⟩ : ∃ p, F 24 x = p := ⟨_, rfl⟩
      rw [hpe] at hp
      have hsp : J p 0 = I (F 24 x) 0 := by rw [hpe]; exact h3 p 0 (by omega) (by omega)
      refine aw_iload_n dX3_gather_19 rfl ?_
      refine aw_aload_n dX3_gather_20 rfl (by decide) ?_
      refine aw_getiv (v := (m : Int)) dX3_gather_21 fX3_15 ⟨Nat.le_of_ble_eq_true rfl, Nat.le_of_ble_eq_true rfl⟩ rfl rfl h1 ?_
      refine aw_icmp_ge (tgt := 48) dX3_gather_24 rfl (by first | assumption | (unfold ab_In at *; omega)) (by first | assumption | (unfold ab_In at *; omega)) (fun c_24 => ?_) (fun c_24 => ?_)
      · exfalso; omega
      · refine aw_aload_n dX3_gather_27 rfl (by decide) ?_
        refine aw_getrv (r := 74) dX3_gather_28 fX3_9 ⟨Nat.le_of_ble_eq_true rfl, Nat.le_of_ble_eq_true rfl⟩ rfl rfl (hF.at 73 1 74 rfl rfl rfl) ?_
        refine aw_iload_n dX3_gather_31 rfl ?_
        refine aw_aload_n dX3_gather_32 rfl (by decide) ?_
        refine aw_getrv (r := 24) dX3_gather_33 fX3_37 ⟨Nat.le_of_ble_eq_true rfl, Nat.le_of_ble_eq_true rfl⟩ rfl rfl (hF.at 23 1 24 rfl rfl rfl) ?_
        refine aw_iload_n dX3_gather_36 rfl ?_
        refine aw_aaldv (r := p) dX3_gather_37 ⟨Nat.le_of_ble_eq_true rfl, Nat.le_of_ble_eq_true rfl⟩ rfl (by decide) (by omega) (by omega) (by decide) hpe ?_
        refine aw_getiv (v := (I (F 24 x) 0)) dX3_gather_38 fX3_41 ⟨by omega, by omega⟩ (sh_p23 hp) rfl hsp ?_
        refine aw_iastv (q := x) dX3_gather_41 ⟨Nat.le_of_ble_eq_true rfl, Nat.le_of_ble_eq_true rfl⟩ rfl (by omega) (by omega) (by decide) rfl ?_
        refine aw_iinc (ls' := [some (ab_r 73), some (ab_r 23), some (ab_i (m : Int)), some (ab_i ((x : Int) + 1))]) dX3_gather_42 (by decide) rfl rfl ?_
        refine aw_goto (tgt := 19) dX3_gather_45 rfl ?_
        refine ih (x + 1) _ (by omega) (by rw [ab_u_i (by decide)]; exact h1) (fun y hy => ?_) (fun i b q1 q2 => by rw [ab_u_i q2]; exact h3 i b q1 q2)
        by_cases e : y = x
        · rw [e, ab_u_s]
        · rw [ab_u_j e]; exact h2 y (by omega)
  refine aw_aload_n dX3_gather_0 rfl (by decide) ?_
  refine aw_iload_n dX3_gather_1 rfl ?_
  refine aw_aload_n dX3_gather_2 rfl (by decide) ?_
  refine aw_getiv (v := (N : Int)) dX3_gather_3 fX3_26 ⟨Nat.le_of_ble_eq_true rfl, Nat.le_of_ble_eq_true rfl⟩ rfl rfl hN ?_
  refine aw_bipush dX3_gather_6 rfl ?_
  refine aw_mmin dX3_gather_8 lX3_31 (by first | assumption | (unfold ab_In at *; omega)) (by first | assumption | (unfold ab_In at *; omega)) (Nat.le_of_ble_eq_true rfl) (by decide) (by decide) (by decide) (by decide) ?_
  refine aw_mmin dX3_gather_11 lX3_31 (by unfold ab_In; omega) (by split <;> (unfold ab_In; omega)) (Nat.le_of_ble_eq_true rfl) (by decide) (by decide) (by decide) (by decide) ?_
  refine aw_to (z := (m : Int)) (by split <;> (try split) <;> omega) ?_
  refine aw_puti dX3_gather_14 fX3_15 ⟨Nat.le_of_ble_eq_true rfl, Nat.le_of_ble_eq_true rfl⟩ rfl rfl ?_
  refine aw_iconst dX3_gather_17 ?_
  refine aw_istore_n (ls' := [some (ab_r 73), some (ab_r 23), some (ab_i (m : Int)), some (ab_i 0)]) dX3_gather_18 (by decide) rfl ?_
  exact lp m 0 _ (by omega) ab_u_s (fun y hy => by omega) (fun i b q1 q2 => ab_u_o (by omega))
set_option maxHeartbeats 4000000 in
set_option maxRecDepth 100000 in
theorem ct_X3_lay (G : ab_G) (I : Nat → Nat → Int) (F : Nat → Nat → Nat) (hF : ab_FB F) (hs9 : Int) (n : Nat) (hn : n ≤ 4) : Ct G 1 0 0 YX3_lay [ab_r 73, ab_i hs9, ab_i (n : Int)] (104, I, F) (fun r h => r = none ∧ ∃ J : Nat → Nat → Int, h = (104, J, F) ∧ (∀ j, j < 4 → J 75 j = cK (hkL hs9) n j) ∧ ∀ i b, i ≠ 75 → J i b = I i b) := by
  refine Ct.ofW kX3_lay (ls := [some (ab_r 73), some (ab_i hs9), some (ab_i (n : Int)), none]) (Nat.le_of_ble_eq_true rfl) rfl ?_
  generalize hZ : ab_Z G (fun r h => r = none ∧ ∃ J : Nat → Nat → Int, h = (104, J, F) ∧ (∀ j, j < 4 → J 75 j = cK (hkL hs9) n j) ∧ ∀ i b, i ≠ 75 → J i b = I i b) 0 0 = Z
  have lp : ∀ (d i : Nat) (J : Nat → Nat → Int), i + d = n → (∀ j, j < 4 → J 75 j = cK (hkL hs9) i j) → (∀ i b, i ≠ 75 → J i b = I i b) → aW G YX3_lay (ab_rm 1 0 0) Z 0 0 (104, J, F) 10 [some (ab_r 73), some (ab_i hs9), some (ab_i (n : Int)), some (ab_i (i : Int))] [] := by
    intro d
    induction d with
    | zero =>
      intro i J hi h1 h2
      have hin : i = n := by omega
      refine aw_iload_n dX3_lay_10 rfl ?_
      refine aw_iload_n dX3_lay_11 rfl ?_
      refine aw_icmp_ge (tgt := 37) dX3_lay_12 rfl (by first | assumption | (unfold ab_In at *; omega)) (by first | assumption | (unfold ab_In at *; omega)) (fun c_12 => ?_) (fun c_12 => ?_)
      · rw [← hZ]
        refine aw_return dX3_lay_37 rfl ?_
        exact ⟨rfl, J, rfl, fun j hj => by rw [← hin]; exact h1 j hj, h2⟩
      · exfalso; omega
    | succ d ih =>
      intro i J hi h1 h2
      have hb := hk_bd (ab_sr hs9 (2 * (i : Int)))
      obtain ⟨k, hk⟩ : ∃ k : Nat, hkL hs9 i = k := ⟨(hkL hs9 i).toNat, by unfold hkL; omega⟩
      have hk4 : k < 4 := by unfold hkL at hk; omega
      refine aw_iload_n dX3_lay_10 rfl ?_
      refine aw_iload_n dX3_lay_11 rfl ?_
      refine aw_icmp_ge (tgt := 37) dX3_lay_12 rfl (by first | assumption | (unfold ab_In at *; omega)) (by first | assumption | (unfold ab_In at *; omega)) (fun c_12 => ?_) (fun c_12 => ?_)
      · exfalso; omega
      · refine aw_aload_n dX3_lay_15 rfl (by decide) ?_
        refine aw_getrv (r := 75) dX3_lay_16 fX3_19 ⟨Nat.le_of_ble_eq_true rfl, Nat.le_of_ble_eq_true rfl⟩ rfl rfl (hF.at 73 3 75 rfl rfl rfl) ?_
        refine aw_iload_n dX3_lay_19 rfl ?_
        refine aw_iconst dX3_lay_20 ?_
        refine aw_iload_n dX3_lay_21 rfl ?_
        refine aw_imul dX3_lay_22 ?_
        refine aw_ishr dX3_lay_23 ?_
        refine aw_iconst dX3_lay_24 ?_
        refine aw_iand dX3_lay_25 ?_
        refine aw_to (z := (k : Int)) hk ?_
        refine aw_dup2 dX3_lay_26 rfl rfl ?_
        refine aw_ialdq (q := k) (v := J 75 k) dX3_lay_27 ⟨Nat.le_of_ble_eq_true rfl, Nat.le_of_ble_eq_true rfl⟩ rfl (by omega) (by omega) (by decide) rfl rfl ?_
        refine aw_iconst dX3_lay_28 ?_
        refine aw_iadd dX3_lay_29 ?_
        refine aw_iastv (q := k) dX3_lay_30 ⟨Nat.le_of_ble_eq_true rfl, Nat.le_of_ble_eq_true rfl⟩ rfl (by omega) (by omega) (by decide) rfl ?_
        refine aw_iinc (ls' := [some (ab_r 73), some (ab_i hs9), some (ab_i (n : Int)), some (ab_i ((i : Int) + 1))]) dX3_lay_31 (by decide) rfl rfl ?_
        refine aw_goto (tgt := 10) dX3_lay_34 rfl ?_
        refine ih (i + 1) _ (by omega) (fun j hj => ?_) (fun i b q1 => by rw [ab_u_i q1]; exact h2 i b q1)
        have h9 := h1 j hj
        unfold cK at h9 ⊢
        rw [cnK_s, hk]
        by_cases e : j = k
        · rw [if_pos (by omega), e, ab_u_s, ← e, h9]
        · rw [if_neg (by omega), ab_u_j e, h9]; omega
  refine aw_aload_n dX3_lay_0 rfl (by decide) ?_
  refine aw_getrv (r := 75) dX3_lay_1 fX3_19 ⟨Nat.le_of_ble_eq_true rfl, Nat.le_of_ble_eq_true rfl⟩ rfl rfl (hF.at 73 3 75 rfl rfl rfl) ?_
  refine aw_iconst dX3_lay_4 ?_
  refine aw_callS (as := [ab_r 75, ab_i 0]) (rest := []) dX3_lay_5 (ct_fill G 104 75 I F 0 ⟨by decide, by decide⟩ rfl) kJ7_fill_53178 sJ7_fill_53178 lX3_46 rfl (Nat.le_of_ble_eq_true rfl) (by decide) (by decide) (by decide) (by decide) ?_
  rintro _ _ ⟨rfl, J1, rfl, f1, f2⟩
  refine aw_iconst dX3_lay_8 ?_
  refine aw_istore_n (ls' := [some (ab_r 73), some (ab_i hs9), some (ab_i (n : Int)), some (ab_i 0)]) dX3_lay_9 (by decide) rfl ?_
  exact lp n 0 J1 (by omega) (fun j hj => by rw [f2 j hj]; rfl) f1
