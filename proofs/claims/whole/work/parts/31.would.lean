def wsum (T : Nat → Nat → Int) (w : Nat) : Int := 0 + T w 0 + T w 1 + T w 2 + T w 3
def wd (T : Nat → Nat → Int) (em b : Int) : Int := if b = 0 then wsum T 5 else if b = 1 then wsum T 0 else if b = 2 then em else if b = 3 then wsum T 3 else wsum T 4
/-- behind goOn and layBack: all that counts is as it was -/
theorem lb_at {I I2 : Nat → Nat → Int} {T : Nat → Nat → Int} {em : Int} (h : RD (cp I 90 89 88) I2 T em) : ∀ i b, i ≠ 90 → i ≠ 91 → i ≠ 92 → (i = 89 → b < 88) → cp I2 89 90 88 i b = I i b := by
  intro i b h1 h2 h3 h4
  by_cases h5 : i = 89
  · subst h5
    rw [cp_in (h4 rfl), h.2.2 90 b (by decide) (by decide) (by decide), cp_in (h4 rfl)]
  · rw [cp_ne h5, h.2.2 i b h5 h2 h3, cp_ne h1]
theorem go_d {I I2 : Nat → Nat → Int} {T : Nat → Nat → Int} {em : Int} (h : RD (cp I 90 89 88) I2 T em) {w s : Nat} (hw : w < 6) (hs : s < 4) : I2 89 (60 + 4 * w + s) - I2 90 (60 + 4 * w + s) = T w s := by
  rw [h.1 w s hw hs, h.2.2 90 _ (by decide) (by decide) (by decide), cp_in (by omega), cp_ne (by decide)]; omega
theorem go_e {I I2 : Nat → Nat → Int} {T : Nat → Nat → Int} {em : Int} (h : RD (cp I 90 89 88) I2 T em) : I2 89 87 - I2 90 87 = em := by
  rw [h.2.1, h.2.2 90 _ (by decide) (by decide) (by decide), cp_in (by omega), cp_ne (by decide)]; omega
theorem more_eq {I I2 : Nat → Nat → Int} {T : Nat → Nat → Int} {em : Int} (h : RD (cp I 90 89 88) I2 T em) {w a : Nat} (hw : w < 6) (ha : a = 60 + 4 * w) : 0 + (I2 89 a - I2 90 a) + (I2 89 (a + 1) - I2 90 (a + 1)) + (I2 89 (a + 2) - I2 90 (a + 2)) + (I2 89 (a + 3) - I2 90 (a + 3)) = wsum T w := by
  subst ha
  have h0 := go_d h hw (show 0 < 4 by decide)
  have h1 := go_d h hw (show 1 < 4 by decide)
  have h2 := go_d h hw (show 2 < 4 by decide)
  have h3 := go_d h hw (show 3 < 4 by decide)
  unfold wsum
  rw [← h0, ← h1, ← h2, ← h3]; rfl
theorem tot_eq {I2 : Nat → Nat → Int} {T : Nat → Nat → Int} (h : ∀ w s, w < 6 → s < 4 → I2 (47 + w) s = T w s) {w : Nat} (hw : w < 6) : 0 + I2 (47 + w) 0 + I2 (47 + w) 1 + I2 (47 + w) 2 + I2 (47 + w) 3 = wsum T w := by
  unfold wsum
  rw [h w 0 hw (by decide), h w 1 hw (by decide), h w 2 hw (by decide), h w 3 hw (by decide)]
/-- the reference's side, where the one's trial has gone by -/
theorem TY.m {c : Nat} {I J : Nat → Nat → Int} {F F2 : Nat → Nat → Nat} {M : List P5} {wk nx W : Int} (h : INV c I F) (hy : TY I F J F2) (hM : RS I M wk nx W) : RS J M wk nx W ∧ TBM J ∧ RBM J ∧ (∀ n, wkM J n wk M nx = wkM I n wk M nx) ∧ ab_FB F2 := by
  have hJM : ∀ i, 64 < i → J i = I i := fun i q1 => funext fun b => hy.1 i b (Or.inr q1)
  refine ⟨hM.ofc (fun b hb => hy.1 89 b (by omega)), ?_, h.rbm.of (hJM 95 (by decide)), fun n => ?_, fun i j q1 q2 => (hy.2.1 i j q2).trans (h.1 i j q1 q2)⟩
  · have := h.tbm
    unfold TBM at *
    rw [hJM 84 (by decide), hJM 85 (by decide), hJM 86 (by decide), hJM 87 (by decide), hJM 88 (by decide)]; exact this
  · unfold wkM ruM tnM kdM
    rw [hJM 84 (by decide), hJM 85 (by decide), hJM 86 (by decide), hJM 87 (by decide), hJM 88 (by decide), hJM 95 (by decide)]
theorem INV.tried {c : Nat} {I J J2 : Nat → Nat → Int} {F F2 : Nat → Nat → Nat} (h : INV c I F) (hy : TY I F J F2) (hk : ∀ i b, i ≠ 90 → i ≠ 91 → i ≠ 92 → (i = 89 → b < 88) → J2 i b = J i b) : INV (c + 1) J2 F2 := by
  refine h.keep (by omega) (fun i b q => ?_) hy.2.1 ⟨hy.2.2.1, hy.2.2.2.1, fun p h1 h2 => ?_⟩
  · rw [hk i b (by omega) (by omega) (by omega) (by omega)]; exact hy.1 i b (by omega)
  · rw [tup_congr (fun b => hk p b (by omega) (by omega) (by omega) (by omega))]; exact hy.2.2.2.2 p h1 h2
/-- the class's weeks are the reference's -/
theorem INV.wk {c : Nat} {I : Nat → Nat → Int} {F : Nat → Nat → Nat} (h : INV c I F) {L M : List P5} {wk nx : Int} (hp : L.Perm M) (hq : Nq L nx) (n : Nat) : (wkN (ruX I 13) (tnX I) (kdX I 9 10) (kdX I 11 12) n wk L nx).2 = (wkM I n wk M nx).2 := by
  have hk := h.2.2.1.kd h.2.1
  rw [h.ru, h.2.2.1.tn, hk.1, hk.2]
  exact (wkN_perm n hp hq).2
theorem gain_eq {I I2 : Nat → Nat → Int} {T : Nat → Nat → Int} {em : Int} (h : RD (cp I 90 89 88) I2 T em) {s : Nat} (hs : s < 4) : I2 89 (68 + s) - I2 90 (68 + s) - I2 89 (80 + s) + I2 90 (80 + s) = T 2 s - T 5 s := by
  have h1 := go_d h (show 2 < 6 by decide) hs
  have h2 := go_d h (show 5 < 6 by decide) hs
  rw [show 60 + 4 * 2 + s = 68 + s by omega] at h1
  rw [show 60 + 4 * 5 + s = 80 + s by omega] at h2
  omega
set_option maxHeartbeats 4000000 in
set_option maxRecDepth 100000 in
theorem ct_X11_would_bad (G : ab_G) (I : Nat → Nat → Int) (F : Nat → Nat → Nat) (hF : ab_FB F) (a : Int) (ha : ab_In a) (b : Int) (hb : ab_In b)  (hbad : ¬ ((1 ≤ a ∧ a ≤ 60) ∧ (0 ≤ b ∧ b ≤ 4))) : Ct G 5 0 0 YX11_would [ab_r 1, ab_i a, ab_i b] (104, I, F) (fun r h => r = some (ab_i (-3)) ∧ h = (104, I, F)) := by
  refine Ct.ofW kX11_would (ls := [some (ab_r 1), some (ab_i a), some (ab_i b)]) (Nat.le_of_ble_eq_true rfl) rfl ?_
  refine aw_iload_n dX11_would_0 rfl ?_
  refine aw_iconst dX11_would_1 ?_
  refine aw_bipush dX11_would_2 rfl ?_
  refine aw_callS (as := [ab_i a, ab_i 1, ab_i 60]) (rest := []) dX11_would_4 (ct_X11_within G (104, I, F) a 1 60 (by first | assumption | (unfold ab_In at *; omega)) (by first | assumption | (unfold ab_In at *; omega)) (by first | assumption | (unfold ab_In at *; omega))) kX11_within sX11_within lX11_89 rfl (Nat.le_of_ble_eq_true rfl) (by decide) (by decide) (by decide) (by decide) ?_
  rintro r9 _ ⟨e9, rfl⟩
  by_cases q1 : 1 ≤ a ∧ a ≤ 60
  · rw [if_pos q1] at e9
    subst e9
    refine aw_if_eq (tgt := 19) dX11_would_7 rfl ⟨by decide, by decide⟩ (fun c9 => absurd c9 (by decide)) (fun _ => ?_)
    refine aw_iload_n dX11_would_10 rfl ?_
    refine aw_iconst dX11_would_11 ?_
    refine aw_iconst dX11_would_12 ?_
    refine aw_callS (as := [ab_i b, ab_i 0, ab_i 4]) (rest := []) dX11_would_13 (ct_X11_within G (104, I, F) b 0 4 (by first | assumption | (unfold ab_In at *; omega)) (by first | assumption | (unfold ab_In at *; omega)) (by first | assumption | (unfold ab_In at *; omega))) kX11_within sX11_within lX11_89 rfl (Nat.le_of_ble_eq_true rfl) (by decide) (by decide) (by decide) (by decide) ?_
    rintro r9 _ ⟨e9, rfl⟩
    by_cases q2 : 0 ≤ b ∧ b ≤ 4
    · rw [if_pos q2] at e9
      subst e9
      refine aw_if_ne (tgt := 22) dX11_would_16 rfl ⟨by decide, by decide⟩ (fun _ => ?_) (fun c9 => absurd c9 (by decide))
      exfalso; omega
    · rw [if_neg q2] at e9
      subst e9
      refine aw_if_ne (tgt := 22) dX11_would_16 rfl ⟨by decide, by decide⟩ (fun c9 => absurd rfl c9) (fun _ => ?_)
      refine aw_bipush dX11_would_19 rfl ?_
      refine aw_ireturn dX11_would_21 rfl ?_
      exact ⟨by first | rw [if_pos (by omega)] | rw [if_neg (by omega)] | rfl, rfl⟩
  · rw [if_neg q1] at e9
    subst e9
    refine aw_if_eq (tgt := 19) dX11_would_7 rfl ⟨by decide, by decide⟩ (fun _ => ?_) (fun c9 => absurd (by decide) c9)
    refine aw_bipush dX11_would_19 rfl ?_
    refine aw_ireturn dX11_would_21 rfl ?_
    exact ⟨by first | rw [if_pos (by omega)] | rw [if_neg (by omega)] | rfl, rfl⟩
set_option maxHeartbeats 4000000 in
set_option maxRecDepth 100000 in
theorem ct_X12_would_bad (G : ab_G) (I : Nat → Nat → Int) (F : Nat → Nat → Nat) (hF : ab_FB F) (a : Int) (ha : ab_In a) (b : Int) (hb : ab_In b)  (hbad : ¬ ((1 ≤ a ∧ a ≤ 60) ∧ (0 ≤ b ∧ b ≤ 4))) : Ct G 5 0 0 YX12_would [ab_r 84, ab_i a, ab_i b] (104, I, F) (fun r h => r = some (ab_i (-3)) ∧ h = (104, I, F)) := by
  refine Ct.ofW kX12_would (ls := [some (ab_r 84), some (ab_i a), some (ab_i b), none]) (Nat.le_of_ble_eq_true rfl) rfl ?_
  refine aw_iload_n dX12_would_0 rfl ?_
  refine aw_iconst dX12_would_1 ?_
  refine aw_bipush dX12_would_2 rfl ?_
  refine aw_callS (as := [ab_i a, ab_i 1, ab_i 60]) (rest := []) dX12_would_4 (ct_X12_in G (104, I, F) a 1 60 (by first | assumption | (unfold ab_In at *; omega)) (by first | assumption | (unfold ab_In at *; omega)) (by first | assumption | (unfold ab_In at *; omega))) kX12_in sX12_in lX12_75 rfl (Nat.le_of_ble_eq_true rfl) (by decide) (by decide) (by decide) (by decide) ?_
  rintro r9 _ ⟨e9, rfl⟩
  by_cases q1 : 1 ≤ a ∧ a ≤ 60
  · rw [if_pos q1] at e9
    subst e9
    refine aw_if_eq (tgt := 19) dX12_would_7 rfl ⟨by decide, by decide⟩ (fun c9 => absurd c9 (by decide)) (fun _ => ?_)
    refine aw_iload_n dX12_would_10 rfl ?_
    refine aw_iconst dX12_would_11 ?_
    refine aw_iconst dX12_would_12 ?_
    refine aw_callS (as := [ab_i b, ab_i 0, ab_i 4]) (rest := []) dX12_would_13 (ct_X12_in G (104, I, F) b 0 4 (by first | assumption | (unfold ab_In at *; omega)) (by first | assumption | (unfold ab_In at *; omega)) (by first | assumption | (unfold ab_In at *; omega))) kX12_in sX12_in lX12_75 rfl (Nat.le_of_ble_eq_true rfl) (by decide) (by decide) (by decide) (by decide) ?_
    rintro r9 _ ⟨e9, rfl⟩
    by_cases q2 : 0 ≤ b ∧ b ≤ 4
    · rw [if_pos q2] at e9
      subst e9
      refine aw_if_ne (tgt := 22) dX12_would_16 rfl ⟨by decide, by decide⟩ (fun _ => ?_) (fun c9 => absurd c9 (by decide))
      exfalso; omega
    · rw [if_neg q2] at e9
      subst e9
      refine aw_if_ne (tgt := 22) dX12_would_16 rfl ⟨by decide, by decide⟩ (fun c9 => absurd rfl c9) (fun _ => ?_)
      refine aw_bipush dX12_would_19 rfl ?_
      refine aw_ireturn dX12_would_21 rfl ?_
      exact ⟨by first | rw [if_pos (by omega)] | rw [if_neg (by omega)] | rfl, rfl⟩
  · rw [if_neg q1] at e9
    subst e9
    refine aw_if_eq (tgt := 19) dX12_would_7 rfl ⟨by decide, by decide⟩ (fun _ => ?_) (fun c9 => absurd (by decide) c9)
    refine aw_bipush dX12_would_19 rfl ?_
    refine aw_ireturn dX12_would_21 rfl ?_
    exact ⟨by first | rw [if_pos (by omega)] | rw [if_neg (by omega)] | rfl, rfl⟩
set_option maxHeartbeats 4000000 in
set_option maxRecDepth 100000 in
theorem ct_X11_would (G : ab_G) (I : Nat → Nat → Int) (F : Nat → Nat → Nat) (hF : ab_FB F) (L : List P5) (wk nx : Int) (n : Nat) (hC : CS 23 I F L wk nx (2 * wk)) (hq : Nq L nx) (hwk : 0 ≤ wk ∧ wk + n ≤ 2900) (hnx : 0 ≤ nx ∧ nx + 13 * n ≤ 90000) (hT : TB I) (hR : RB 13 I) (hy : IVy I F) (hn : 1 ≤ n ∧ n ≤ 60) (b : Int) (hb : 0 ≤ b ∧ b ≤ 4) : Ct G 5 0 0 YX11_would [ab_r 1, ab_i (n : Int), ab_i b] (104, I, F) (fun r h => r = some (ab_i (wd (wkN (ruX I 13) (tnX I) (kdX I 9 10) (kdX I 11 12) n wk L nx).2.2.1 (wkN (ruX I 13) (tnX I) (kdX I 9 10) (kdX I 11 12) n wk L nx).2.2.2 b)) ∧ ∃ I2 F2, h = (104, I2, F2) ∧ TY I F I2 F2) := by
  refine Ct.ofW kX11_would (ls := [some (ab_r 1), some (ab_i (n : Int)), some (ab_i b)]) (Nat.le_of_ble_eq_true rfl) rfl ?_
  refine aw_iload_n dX11_would_0 rfl ?_
  refine aw_iconst dX11_would_1 ?_
  refine aw_bipush dX11_would_2 rfl ?_
  refine aw_callS (as := [ab_i (n : Int), ab_i 1, ab_i 60]) (rest := []) dX11_would_4 (ct_X11_within G (104, I, F) (n : Int) 1 60 (by first | assumption | (unfold ab_In at *; omega)) (by first | assumption | (unfold ab_In at *; omega)) (by first | assumption | (unfold ab_In at *; omega))) kX11_within sX11_within lX11_89 rfl (Nat.le_of_ble_eq_true rfl) (by decide) (by decide) (by decide) (by decide) ?_
  rintro r9 _ ⟨e9, rfl⟩
  rw [if_pos (by omega)] at e9
  subst e9
  refine aw_if_eq (tgt := 19) dX11_would_7 rfl ⟨by decide, by decide⟩ (fun c9 => absurd c9 (by decide)) (fun _ => ?_)
  refine aw_iload_n dX11_would_10 rfl ?_
  refine aw_iconst dX11_would_11 ?_
  refine aw_iconst dX11_would_12 ?_
  refine aw_callS (as := [ab_i b, ab_i 0, ab_i 4]) (rest := []) dX11_would_13 (ct_X11_within G (104, I, F) b 0 4 (by first | assumption | (unfold ab_In at *; omega)) (by first | assumption | (unfold ab_In at *; omega)) (by first | assumption | (unfold ab_In at *; omega))) kX11_within sX11_within lX11_89 rfl (Nat.le_of_ble_eq_true rfl) (by decide) (by decide) (by decide) (by decide) ?_
  rintro r9 _ ⟨e9, rfl⟩
  rw [if_pos (by omega)] at e9
  subst e9
  refine aw_if_ne (tgt := 22) dX11_would_16 rfl ⟨by decide, by decide⟩ (fun _ => ?_) (fun c9 => absurd c9 (by decide))
  refine aw_aload_n dX11_would_22 rfl (by decide) ?_
  refine aw_iload_n dX11_would_23 rfl ?_
  refine aw_aload_n dX11_would_24 rfl (by decide) ?_
  refine aw_getrv (r := 13) dX11_would_25 fX11_19 ⟨Nat.le_of_ble_eq_true rfl, Nat.le_of_ble_eq_true rfl⟩ rfl rfl (by first | exact (hF2.at 1 1 13 rfl rfl rfl) | exact (hF.at 1 1 13 rfl rfl rfl)) ?_
  refine aw_callV (as := [ab_i (n : Int), ab_r 13]) (rest := []) dX11_would_28 (ct_X11_tryOut_13 G I F hF L wk nx n hC hq hwk hnx hT hR hy.1 hy.2.1 hy.2.2) ⟨Nat.le_of_ble_eq_true rfl, Nat.le_of_ble_eq_true rfl⟩ rfl kc11 rfl kX11_tryOut iX11_tryOut eX11_tryOut lX11_204 rfl (Nat.le_of_ble_eq_true rfl) (by decide) (by decide) (by decide) (by decide) ?_
  rintro _ _ ⟨rfl, I2, F2, rfl, hT2, hE2, hY2⟩
  have hF2 : ab_FB F2 := fun i j q1 q2 => (hY2.2.1 i j q2).trans (hF i j q1 q2)
  refine aw_iload_n dX11_would_31 rfl ?_
  rcases (show b = 0 ∨ b = 1 ∨ b = 2 ∨ b = 3 ∨ (b < 0 ∨ 3 < b) by omega) with c_32 | c_32 | c_32 | c_32 | c_32
  · refine aw_tabIn (off := 32) (tgt := 64) dX11_would_32 (by first | assumption | (unfold ab_In at *; omega)) (by omega) (by omega) (by rw [c_32]; rfl) rfl ?_
    refine aw_aload_n dX11_would_64 rfl (by decide) ?_
    refine aw_getrv (r := 44) dX11_would_65 fX11_42 ⟨Nat.le_of_ble_eq_true rfl, Nat.le_of_ble_eq_true rfl⟩ rfl rfl (by first | exact (hF2.at 1 5 44 rfl rfl rfl) | exact (hF.at 1 5 44 rfl rfl rfl)) ?_
    refine aw_iconst dX11_would_68 ?_
    refine aw_callV (as := [ab_i 5]) (rest := []) dX11_would_69 (ct_X1_total_44 G I2 F2 hF2 5 (by decide)) ⟨Nat.le_of_ble_eq_true rfl, Nat.le_of_ble_eq_true rfl⟩ rfl kc1 rfl kX1_total iX1_total eX1_total lX11_207 rfl (Nat.le_of_ble_eq_true rfl) (by decide) (by decide) (by decide) (by decide) ?_
    rintro _ _ ⟨rfl, rfl⟩
    refine aw_ireturn dX11_would_72 rfl ?_
    refine ⟨?_, I2, F2, rfl, hY2⟩
    rw [tot_eq hT2 (show 5 < 6 by decide)]
    unfold wd
    (repeat' split) <;> first | rfl | (exfalso; omega)
  · refine aw_tabIn (off := 41) (tgt := 73) dX11_would_32 (by first | assumption | (unfold ab_In at *; omega)) (by omega) (by omega) (by rw [c_32]; rfl) rfl ?_
    refine aw_aload_n dX11_would_73 rfl (by decide) ?_
    refine aw_getrv (r := 44) dX11_would_74 fX11_42 ⟨Nat.le_of_ble_eq_true rfl, Nat.le_of_ble_eq_true rfl⟩ rfl rfl (by first | exact (hF2.at 1 5 44 rfl rfl rfl) | exact (hF.at 1 5 44 rfl rfl rfl)) ?_
    refine aw_iconst dX11_would_77 ?_
    refine aw_callV (as := [ab_i 0]) (rest := []) dX11_would_78 (ct_X1_total_44 G I2 F2 hF2 0 (by decide)) ⟨Nat.le_of_ble_eq_true rfl, Nat.le_of_ble_eq_true rfl⟩ rfl kc1 rfl kX1_total iX1_total eX1_total lX11_207 rfl (Nat.le_of_ble_eq_true rfl) (by decide) (by decide) (by decide) (by decide) ?_
    rintro _ _ ⟨rfl, rfl⟩
    refine aw_ireturn dX11_would_81 rfl ?_
    refine ⟨?_, I2, F2, rfl, hY2⟩
    rw [tot_eq hT2 (show 0 < 6 by decide)]
    unfold wd
    (repeat' split) <;> first | rfl | (exfalso; omega)
  · refine aw_tabIn (off := 50) (tgt := 82) dX11_would_32 (by first | assumption | (unfold ab_In at *; omega)) (by omega) (by omega) (by rw [c_32]; rfl) rfl ?_
    refine aw_aload_n dX11_would_82 rfl (by decide) ?_
    refine aw_getrv (r := 44) dX11_would_83 fX11_42 ⟨Nat.le_of_ble_eq_true rfl, Nat.le_of_ble_eq_true rfl⟩ rfl rfl (by first | exact (hF2.at 1 5 44 rfl rfl rfl) | exact (hF.at 1 5 44 rfl rfl rfl)) ?_
    refine aw_geti dX11_would_86 fX11_166 ⟨Nat.le_of_ble_eq_true rfl, Nat.le_of_ble_eq_true rfl⟩ rfl rfl ?_
    refine aw_ireturn dX11_would_89 rfl ?_
    refine ⟨?_, I2, F2, rfl, hY2⟩
    rw [hE2]
    unfold wd
    (repeat' split) <;> first | rfl | (exfalso; omega)
  · refine aw_tabIn (off := 58) (tgt := 90) dX11_would_32 (by first | assumption | (unfold ab_In at *; omega)) (by omega) (by omega) (by rw [c_32]; rfl) rfl ?_
    refine aw_aload_n dX11_would_90 rfl (by decide) ?_
    refine aw_getrv (r := 44) dX11_would_91 fX11_42 ⟨Nat.le_of_ble_eq_true rfl, Nat.le_of_ble_eq_true rfl⟩ rfl rfl (by first | exact (hF2.at 1 5 44 rfl rfl rfl) | exact (hF.at 1 5 44 rfl rfl rfl)) ?_
    refine aw_iconst dX11_would_94 ?_
    refine aw_callV (as := [ab_i 3]) (rest := []) dX11_would_95 (ct_X1_total_44 G I2 F2 hF2 3 (by decide)) ⟨Nat.le_of_ble_eq_true rfl, Nat.le_of_ble_eq_true rfl⟩ rfl kc1 rfl kX1_total iX1_total eX1_total lX11_207 rfl (Nat.le_of_ble_eq_true rfl) (by decide) (by decide) (by decide) (by decide) ?_
    rintro _ _ ⟨rfl, rfl⟩
    refine aw_ireturn dX11_would_98 rfl ?_
    refine ⟨?_, I2, F2, rfl, hY2⟩
    rw [tot_eq hT2 (show 3 < 6 by decide)]
    unfold wd
    (repeat' split) <;> first | rfl | (exfalso; omega)
  · refine aw_tabOut (tgt := 99) dX11_would_32 (by first | assumption | (unfold ab_In at *; omega)) c_32 rfl ?_
    refine aw_aload_n dX11_would_99 rfl (by decide) ?_
    refine aw_getrv (r := 44) dX11_would_100 fX11_42 ⟨Nat.le_of_ble_eq_true rfl, Nat.le_of_ble_eq_true rfl⟩ rfl rfl (by first | exact (hF2.at 1 5 44 rfl rfl rfl) | exact (hF.at 1 5 44 rfl rfl rfl)) ?_
    refine aw_iconst dX11_would_103 ?_
    refine aw_callV (as := [ab_i 4]) (rest := []) dX11_would_104 (ct_X1_total_44 G I2 F2 hF2 4 (by decide)) ⟨Nat.le_of_ble_eq_true rfl, Nat.le_of_ble_eq_true rfl⟩ rfl kc1 rfl kX1_total iX1_total eX1_total lX11_207 rfl (Nat.le_of_ble_eq_true rfl) (by decide) (by decide) (by decide) (by decide) ?_
    rintro _ _ ⟨rfl, rfl⟩
    refine aw_ireturn dX11_would_107 rfl ?_
    refine ⟨?_, I2, F2, rfl, hY2⟩
    rw [tot_eq hT2 (show 4 < 6 by decide)]
    unfold wd
    (repeat' split) <;> first | rfl | (exfalso; omega)
set_option maxHeartbeats 4000000 in
set_option maxRecDepth 100000 in
theorem ct_X12_would (G : ab_G) (I : Nat → Nat → Int) (F : Nat → Nat → Nat) (hF : ab_FB F) (L : List P5) (wk nx : Int) (n : Nat) (hC : RS I L wk nx (2 * wk)) (hq : Nq L nx) (hwk : 0 ≤ wk ∧ wk + n ≤ 2900) (hnx : 0 ≤ nx ∧ nx + 13 * n ≤ 90000) (hT : TBM I) (hR : RBM I) (hn : 1 ≤ n ∧ n ≤ 60) (b : Int) (hb : 0 ≤ b ∧ b ≤ 4) : Ct G 5 0 0 YX12_would [ab_r 84, ab_i (n : Int), ab_i b] (104, I, F) (fun r h => r = some (ab_i (wd (wkM I n wk L nx).2.2.1 (wkM I n wk L nx).2.2.2 b)) ∧ ∃ I3, h = (104, I3, F) ∧ ∀ i b, i ≠ 90 → i ≠ 91 → i ≠ 92 → (i = 89 → b < 88) → I3 i b = I i b) := by
  refine Ct.ofW kX12_would (ls := [some (ab_r 84), some (ab_i (n : Int)), some (ab_i b), none]) (Nat.le_of_ble_eq_true rfl) rfl ?_
  refine aw_iload_n dX12_would_0 rfl ?_
  refine aw_iconst dX12_would_1 ?_
  refine aw_bipush dX12_would_2 rfl ?_
  refine aw_callS (as := [ab_i (n : Int), ab_i 1, ab_i 60]) (rest := []) dX12_would_4 (ct_X12_in G (104, I, F) (n : Int) 1 60 (by first | assumption | (unfold ab_In at *; omega)) (by first | assumption | (unfold ab_In at *; omega)) (by first | assumption | (unfold ab_In at *; omega))) kX12_in sX12_in lX12_75 rfl (Nat.le_of_ble_eq_true rfl) (by decide) (by decide) (by decide) (by decide) ?_
  rintro r9 _ ⟨e9, rfl⟩
  rw [if_pos (by omega)] at e9
  subst e9
  refine aw_if_eq (tgt := 19) dX12_would_7 rfl ⟨by decide, by decide⟩ (fun c9 => absurd c9 (by decide)) (fun _ => ?_)
  refine aw_iload_n dX12_would_10 rfl ?_
  refine aw_iconst dX12_would_11 ?_
  refine aw_iconst dX12_would_12 ?_
  refine aw_callS (as := [ab_i b, ab_i 0, ab_i 4]) (rest := []) dX12_would_13 (ct_X12_in G (104, I, F) b 0 4 (by first | assumption | (unfold ab_In at *; omega)) (by first | assumption | (unfold ab_In at *; omega)) (by first | assumption | (unfold ab_In at *; omega))) kX12_in sX12_in lX12_75 rfl (Nat.le_of_ble_eq_true rfl) (by decide) (by decide) (by decide) (by decide) ?_
  rintro r9 _ ⟨e9, rfl⟩
  rw [if_pos (by omega)] at e9
  subst e9
  refine aw_if_ne (tgt := 22) dX12_would_16 rfl ⟨by decide, by decide⟩ (fun _ => ?_) (fun c9 => absurd c9 (by decide))
  refine aw_aload_n dX12_would_22 rfl (by decide) ?_
  refine aw_iload_n dX12_would_23 rfl ?_
  refine aw_callV (as := [ab_i (n : Int)]) (rest := []) dX12_would_24 (ct_X12_goOn G I F hF L wk nx n hC hq hwk hnx hT hR) ⟨Nat.le_of_ble_eq_true rfl, Nat.le_of_ble_eq_true rfl⟩ rfl kc12 rfl kX12_goOn iX12_goOn eX12_goOn lX12_200 rfl (Nat.le_of_ble_eq_true rfl) (by decide) (by decide) (by decide) (by decide) ?_
  rintro _ _ ⟨rfl, I2, L2, rfl, hC2, hp2, hD2⟩
  refine aw_iload_n dX12_would_27 rfl ?_
  refine aw_iconst dX12_would_28 ?_
  refine aw_icmp_ne (tgt := 50) dX12_would_29 rfl (by first | assumption | (unfold ab_In at *; omega)) (by first | assumption | (unfold ab_In at *; omega)) (fun c_29 => ?_) (fun c_29 => ?_)
  · refine aw_aload_n dX12_would_50 rfl (by decide) ?_
    refine aw_iload_n dX12_would_51 rfl ?_
    refine aw_if_ne (tgt := 60) dX12_would_52 rfl (by first | assumption | (unfold ab_In at *; omega)) (fun c_52 => ?_) (fun c_52 => ?_)
    · refine aw_iload_n dX12_would_60 rfl ?_
      refine aw_iconst dX12_would_61 ?_
      refine aw_icmp_ne (tgt := 70) dX12_would_62 rfl (by first | assumption | (unfold ab_In at *; omega)) (by first | assumption | (unfold ab_In at *; omega)) (fun c_62 => ?_) (fun c_62 => ?_)
      · refine aw_iload_n dX12_would_70 rfl ?_
        refine aw_iconst dX12_would_71 ?_
        refine aw_icmp_ne (tgt := 80) dX12_would_72 rfl (by first | assumption | (unfold ab_In at *; omega)) (by first | assumption | (unfold ab_In at *; omega)) (fun c_72 => ?_) (fun c_72 => ?_)
        · refine aw_bipush dX12_would_80 rfl ?_
          refine aw_callV (as := [ab_i 76]) (rest := []) dX12_would_82 (ct_X12_more G I2 F hF 76 (by decide)) ⟨Nat.le_of_ble_eq_true rfl, Nat.le_of_ble_eq_true rfl⟩ rfl kc12 rfl kX12_more iX12_more eX12_more lX12_203 rfl (Nat.le_of_ble_eq_true rfl) (by decide) (by decide) (by decide) (by decide) ?_
          rintro _ _ ⟨rfl, rfl⟩
          refine aw_istore_n (ls' := [some (ab_r 84), some (ab_i (n : Int)), some (ab_i b), some (ab_i (0 + (I2 89 76 - I2 90 76) + (I2 89 (76 + 1) - I2 90 (76 + 1)) + (I2 89 (76 + 2) - I2 90 (76 + 2)) + (I2 89 (76 + 3) - I2 90 (76 + 3))))]) dX12_would_85 (by decide) rfl ?_
          refine aw_aload_n dX12_would_86 rfl (by decide) ?_
          refine aw_callV (as := []) (rest := []) dX12_would_87 (ct_X12_layBack G I2 F hF) ⟨Nat.le_of_ble_eq_true rfl, Nat.le_of_ble_eq_true rfl⟩ rfl kc12 rfl kX12_layBack iX12_layBack eX12_layBack lX12_207 rfl (Nat.le_of_ble_eq_true rfl) (by decide) (by decide) (by decide) (by decide) ?_
          rintro _ _ ⟨rfl, rfl⟩
          refine aw_iload_n dX12_would_90 rfl ?_
          refine aw_ireturn dX12_would_91 rfl ?_
          refine ⟨?_, _, rfl, lb_at hD2⟩
          rw [more_eq hD2 (show 4 < 6 by decide) (show 76 = 60 + 4 * 4 by decide)]
          unfold wd
          (repeat' split) <;> first | rfl | (exfalso; omega)
        · refine aw_bipush dX12_would_75 rfl ?_
          refine aw_goto (tgt := 82) dX12_would_77 rfl ?_
          refine aw_callV (as := [ab_i 72]) (rest := []) dX12_would_82 (ct_X12_more G I2 F hF 72 (by decide)) ⟨Nat.le_of_ble_eq_true rfl, Nat.le_of_ble_eq_true rfl⟩ rfl kc12 rfl kX12_more iX12_more eX12_more lX12_203 rfl (Nat.le_of_ble_eq_true rfl) (by decide) (by decide) (by decide) (by decide) ?_
          rintro _ _ ⟨rfl, rfl⟩
          refine aw_istore_n (ls' := [some (ab_r 84), some (ab_i (n : Int)), some (ab_i b), some (ab_i (0 + (I2 89 72 - I2 90 72) + (I2 89 (72 + 1) - I2 90 (72 + 1)) + (I2 89 (72 + 2) - I2 90 (72 + 2)) + (I2 89 (72 + 3) - I2 90 (72 + 3))))]) dX12_would_85 (by decide) rfl ?_
          refine aw_aload_n dX12_would_86 rfl (by decide) ?_
          refine aw_callV (as := []) (rest := []) dX12_would_87 (ct_X12_layBack G I2 F hF) ⟨Nat.le_of_ble_eq_true rfl, Nat.le_of_ble_eq_true rfl⟩ rfl kc12 rfl kX12_layBack iX12_layBack eX12_layBack lX12_207 rfl (Nat.le_of_ble_eq_true rfl) (by decide) (by decide) (by decide) (by decide) ?_
          rintro _ _ ⟨rfl, rfl⟩
          refine aw_iload_n dX12_would_90 rfl ?_
          refine aw_ireturn dX12_would_91 rfl ?_
          refine ⟨?_, _, rfl, lb_at hD2⟩
          rw [more_eq hD2 (show 3 < 6 by decide) (show 72 = 60 + 4 * 3 by decide)]
          unfold wd
          (repeat' split) <;> first | rfl | (exfalso; omega)
      · refine aw_bipush dX12_would_65 rfl ?_
        refine aw_goto (tgt := 82) dX12_would_67 rfl ?_
        refine aw_callV (as := [ab_i 60]) (rest := []) dX12_would_82 (ct_X12_more G I2 F hF 60 (by decide)) ⟨Nat.le_of_ble_eq_true rfl, Nat.le_of_ble_eq_true rfl⟩ rfl kc12 rfl kX12_more iX12_more eX12_more lX12_203 rfl (Nat.le_of_ble_eq_true rfl) (by decide) (by decide) (by decide) (by decide) ?_
        rintro _ _ ⟨rfl, rfl⟩
        refine aw_istore_n (ls' := [some (ab_r 84), some (ab_i (n : Int)), some (ab_i b), some (ab_i (0 + (I2 89 60 - I2 90 60) + (I2 89 (60 + 1) - I2 90 (60 + 1)) + (I2 89 (60 + 2) - I2 90 (60 + 2)) + (I2 89 (60 + 3) - I2 90 (60 + 3))))]) dX12_would_85 (by decide) rfl ?_
        refine aw_aload_n dX12_would_86 rfl (by decide) ?_
        refine aw_callV (as := []) (rest := []) dX12_would_87 (ct_X12_layBack G I2 F hF) ⟨Nat.le_of_ble_eq_true rfl, Nat.le_of_ble_eq_true rfl⟩ rfl kc12 rfl kX12_layBack iX12_layBack eX12_layBack lX12_207 rfl (Nat.le_of_ble_eq_true rfl) (by decide) (by decide) (by decide) (by decide) ?_
        rintro _ _ ⟨rfl, rfl⟩
        refine aw_iload_n dX12_would_90 rfl ?_
        refine aw_ireturn dX12_would_91 rfl ?_
        refine ⟨?_, _, rfl, lb_at hD2⟩
        rw [more_eq hD2 (show 0 < 6 by decide) (show 60 = 60 + 4 * 0 by decide)]
        unfold wd
        (repeat' split) <;> first | rfl | (exfalso; omega)
    · refine aw_bipush dX12_would_55 rfl ?_
      refine aw_goto (tgt := 82) dX12_would_57 rfl ?_
      refine aw_callV (as := [ab_i 80]) (rest := []) dX12_would_82 (ct_X12_more G I2 F hF 80 (by decide)) ⟨Nat.le_of_ble_eq_true rfl, Nat.le_of_ble_eq_true rfl⟩ rfl kc12 rfl kX12_more iX12_more eX12_more lX12_203 rfl (Nat.le_of_ble_eq_true rfl) (by decide) (by decide) (by decide) (by decide) ?_
      rintro _ _ ⟨rfl, rfl⟩
      refine aw_istore_n (ls' := [some (ab_r 84), some (ab_i (n : Int)), some (ab_i b), some (ab_i (0 + (I2 89 80 - I2 90 80) + (I2 89 (80 + 1) - I2 90 (80 + 1)) + (I2 89 (80 + 2) - I2 90 (80 + 2)) + (I2 89 (80 + 3) - I2 90 (80 + 3))))]) dX12_would_85 (by decide) rfl ?_
      refine aw_aload_n dX12_would_86 rfl (by decide) ?_
      refine aw_callV (as := []) (rest := []) dX12_would_87 (ct_X12_layBack G I2 F hF) ⟨Nat.le_of_ble_eq_true rfl, Nat.le_of_ble_eq_true rfl⟩ rfl kc12 rfl kX12_layBack iX12_layBack eX12_layBack lX12_207 rfl (Nat.le_of_ble_eq_true rfl) (by decide) (by decide) (by decide) (by decide) ?_
      rintro _ _ ⟨rfl, rfl⟩
      refine aw_iload_n dX12_would_90 rfl ?_
      refine aw_ireturn dX12_would_91 rfl ?_
      refine ⟨?_, _, rfl, lb_at hD2⟩
      rw [more_eq hD2 (show 5 < 6 by decide) (show 80 = 60 + 4 * 5 by decide)]
      unfold wd
      (repeat' split) <;> first | rfl | (exfalso; omega)
  · refine aw_aload_n dX12_would_32 rfl (by decide) ?_
    refine aw_getrv (r := 89) dX12_would_33 fX12_22 ⟨Nat.le_of_ble_eq_true rfl, Nat.le_of_ble_eq_true rfl⟩ rfl rfl (hF.at 84 6 89 rfl rfl rfl) ?_
    refine aw_bipush dX12_would_36 rfl ?_
    refine aw_ialdq (q := 87) (v := I2 89 87) dX12_would_38 ⟨Nat.le_of_ble_eq_true rfl, Nat.le_of_ble_eq_true rfl⟩ rfl (by omega) (by omega) (by decide) rfl rfl ?_
    refine aw_aload_n dX12_would_39 rfl (by decide) ?_
    refine aw_getrv (r := 90) dX12_would_40 fX12_25 ⟨Nat.le_of_ble_eq_true rfl, Nat.le_of_ble_eq_true rfl⟩ rfl rfl (hF.at 84 7 90 rfl rfl rfl) ?_
    refine aw_bipush dX12_would_43 rfl ?_
    refine aw_ialdq (q := 87) (v := I2 90 87) dX12_would_45 ⟨Nat.le_of_ble_eq_true rfl, Nat.le_of_ble_eq_true rfl⟩ rfl (by omega) (by omega) (by decide) rfl rfl ?_
    refine aw_isub dX12_would_46 ?_
    refine aw_goto (tgt := 85) dX12_would_47 rfl ?_
    refine aw_istore_n (ls' := [some (ab_r 84), some (ab_i (n : Int)), some (ab_i b), some (ab_i ((I2 89 87) - (I2 90 87)))]) dX12_would_85 (by decide) rfl ?_
    refine aw_aload_n dX12_would_86 rfl (by decide) ?_
    refine aw_callV (as := []) (rest := []) dX12_would_87 (ct_X12_layBack G I2 F hF) ⟨Nat.le_of_ble_eq_true rfl, Nat.le_of_ble_eq_true rfl⟩ rfl kc12 rfl kX12_layBack iX12_layBack eX12_layBack lX12_207 rfl (Nat.le_of_ble_eq_true rfl) (by decide) (by decide) (by decide) (by decide) ?_
    rintro _ _ ⟨rfl, rfl⟩
    refine aw_iload_n dX12_would_90 rfl ?_
    refine aw_ireturn dX12_would_91 rfl ?_
    refine ⟨?_, _, rfl, lb_at hD2⟩
    rw [go_e hD2]
    unfold wd
    (repeat' split) <;> first | rfl | (exfalso; omega)
set_option maxHeartbeats 4000000 in
set_option maxRecDepth 100000 in
theorem pr_would (G : ab_G) (I : Nat → Nat → Int) (F : Nat → Nat → Nat) (c : Nat) (h : INV c I F) (hc : c ≤ 600) (a : Int) (ha : ab_In a) (b : Int) (hb : ab_In b) : Pair G 5 5 YX11_would YX12_would [ab_i a, ab_i b] ab_i c I F := by
  obtain ⟨L, M, wk, nx, hC, hM⟩ := id h.2.2.2.2.2.2.2.2
  obtain ⟨c1, c2, c3, c4, c5, c6, c7, c8⟩ := id hC
  by_cases hv9 : (1 ≤ a ∧ a ≤ 60) ∧ (0 ≤ b ∧ b ≤ 4)
  · obtain ⟨n, rfl⟩ : ∃ n : Nat, a = n := ⟨a.toNat, by omega⟩
    refine (ct_X11_would G I F h.1 L wk nx n c1 c4 (by omega) (by omega) h.2.1 h.2.2.2.1 h.2.2.2.2.2.2.2.1 (by omega) b hv9.2).mono ?_
    rintro _ _ ⟨rfl, J, F2, rfl, hY⟩
    refine ⟨_, _, _, rfl, rfl, ?_⟩
    obtain ⟨m1, m2, m3, m4, m5⟩ := hY.m h c2
    refine (ct_X12_would G J F2 m5 M wk nx n m1 (c4.perm c3) (by omega) (by omega) m2 m3 (by omega) b hv9.2).mono ?_
    rintro _ _ ⟨rfl, J2, rfl, hk⟩
    refine ⟨?_, _, _, rfl, h.tried hY hk⟩
    rw [m4, h.wk c3 c4 n]
  · refine (ct_X11_would_bad G I F h.1 a ha b hb hv9).mono ?_
    rintro _ _ ⟨rfl, rfl⟩
    refine ⟨_, _, _, rfl, rfl, ?_⟩
    refine (ct_X12_would_bad G I F h.1 a ha b hb hv9).mono ?_
    rintro _ _ ⟨rfl, rfl⟩
    exact ⟨rfl, _, _, rfl, h.up (by omega)⟩
set_option maxHeartbeats 4000000 in
set_option maxRecDepth 100000 in
theorem ct_X11_gain_bad (G : ab_G) (I : Nat → Nat → Int) (F : Nat → Nat → Nat) (hF : ab_FB F) (a : Int) (ha : ab_In a) (b : Int) (hb : ab_In b)  (hbad : ¬ ((0 ≤ a ∧ a ≤ 3) ∧ (1 ≤ b ∧ b ≤ 60))) : Ct G 5 0 0 YX11_gain [ab_r 1, ab_i a, ab_i b] (104, I, F) (fun r h => r = some (ab_i (-2147483648)) ∧ h = (104, I, F)) := by
  refine Ct.ofW kX11_gain (ls := [some (ab_r 1), some (ab_i a), some (ab_i b)]) (Nat.le_of_ble_eq_true rfl) rfl ?_
  refine aw_iload_n dX11_gain_0 rfl ?_
  refine aw_callS (as := [ab_i a]) (rest := []) dX11_gain_1 (ct_X11_isSort G (104, I, F) a (by first | assumption | (unfold ab_In at *; omega))) kX11_isSort sX11_isSort lX11_82 rfl (Nat.le_of_ble_eq_true rfl) (by decide) (by decide) (by decide) (by decide) ?_
  rintro r9 _ ⟨e9, rfl⟩
  by_cases q1 : 0 ≤ a ∧ a ≤ 3
  · rw [if_pos q1] at e9
    subst e9
    refine aw_if_eq (tgt := 17) dX11_gain_4 rfl ⟨by decide, by decide⟩ (fun c9 => absurd c9 (by decide)) (fun _ => ?_)
    refine aw_iload_n dX11_gain_7 rfl ?_
    refine aw_iconst dX11_gain_8 ?_
    refine aw_bipush dX11_gain_9 rfl ?_
    refine aw_callS (as := [ab_i b, ab_i 1, ab_i 60]) (rest := []) dX11_gain_11 (ct_X11_within G (104, I, F) b 1 60 (by first | assumption | (unfold ab_In at *; omega)) (by first | assumption | (unfold ab_In at *; omega)) (by first | assumption | (unfold ab_In at *; omega))) kX11_within sX11_within lX11_89 rfl (Nat.le_of_ble_eq_true rfl) (by decide) (by decide) (by decide) (by decide) ?_
    rintro r9 _ ⟨e9, rfl⟩
    by_cases q2 : 1 ≤ b ∧ b ≤ 60
    · rw [if_pos q2] at e9
      subst e9
      refine aw_if_ne (tgt := 20) dX11_gain_14 rfl ⟨by decide, by decide⟩ (fun _ => ?_) (fun c9 => absurd c9 (by decide))
      exfalso; omega
    · rw [if_neg q2] at e9
      subst e9
      refine aw_if_ne (tgt := 20) dX11_gain_14 rfl ⟨by decide, by decide⟩ (fun c9 => absurd rfl c9) (fun _ => ?_)
      refine aw_ldc (z := (-2147483648)) dX11_gain_17 nX11_210 ?_
      refine aw_ireturn dX11_gain_19 rfl ?_
      exact ⟨by first | rw [if_pos (by omega)] | rw [if_neg (by omega)] | rfl, rfl⟩
  · rw [if_neg q1] at e9
    subst e9
    refine aw_if_eq (tgt := 17) dX11_gain_4 rfl ⟨by decide, by decide⟩ (fun _ => ?_) (fun c9 => absurd (by decide) c9)
    refine aw_ldc (z := (-2147483648)) dX11_gain_17 nX11_210 ?_
    refine aw_ireturn dX11_gain_19 rfl ?_
    exact ⟨by first | rw [if_pos (by omega)] | rw [if_neg (by omega)] | rfl, rfl⟩
set_option maxHeartbeats 4000000 in
set_option maxRecDepth 100000 in
theorem ct_X12_gain_bad (G : ab_G) (I : Nat → Nat → Int) (F : Nat → Nat → Nat) (hF : ab_FB F) (a : Int) (ha : ab_In a) (b : Int) (hb : ab_In b)  (hbad : ¬ ((0 ≤ a ∧ a ≤ 3) ∧ (1 ≤ b ∧ b ≤ 60))) : Ct G 5 0 0 YX12_gain [ab_r 84, ab_i a, ab_i b] (104, I, F) (fun r h => r = some (ab_i (-2147483648)) ∧ h = (104, I, F)) := by
  refine Ct.ofW kX12_gain (ls := [some (ab_r 84), some (ab_i a), some (ab_i b), none]) (Nat.le_of_ble_eq_true rfl) rfl ?_
  refine aw_iload_n dX12_gain_0 rfl ?_
  refine aw_callS (as := [ab_i a]) (rest := []) dX12_gain_1 (ct_X12_isFour G (104, I, F) a (by first | assumption | (unfold ab_In at *; omega))) kX12_isFour sX12_isFour lX12_79 rfl (Nat.le_of_ble_eq_true rfl) (by decide) (by decide) (by decide) (by decide) ?_
  rintro r9 _ ⟨e9, rfl⟩
  by_cases q1 : 0 ≤ a ∧ a ≤ 3
  · rw [if_pos q1] at e9
    subst e9
    refine aw_if_eq (tgt := 17) dX12_gain_4 rfl ⟨by decide, by decide⟩ (fun c9 => absurd c9 (by decide)) (fun _ => ?_)
    refine aw_iload_n dX12_gain_7 rfl ?_
    refine aw_iconst dX12_gain_8 ?_
    refine aw_bipush dX12_gain_9 rfl ?_
    refine aw_callS (as := [ab_i b, ab_i 1, ab_i 60]) (rest := []) dX12_gain_11 (ct_X12_in G (104, I, F) b 1 60 (by first | assumption | (unfold ab_In at *; omega)) (by first | assumption | (unfold ab_In at *; omega)) (by first | assumption | (unfold ab_In at *; omega))) kX12_in sX12_in lX12_75 rfl (Nat.le_of_ble_eq_true rfl) (by decide) (by decide) (by decide) (by decide) ?_
    rintro r9 _ ⟨e9, rfl⟩
    by_cases q2 : 1 ≤ b ∧ b ≤ 60
    · rw [if_pos q2] at e9
      subst e9
      refine aw_if_ne (tgt := 20) dX12_gain_14 rfl ⟨by decide, by decide⟩ (fun _ => ?_) (fun c9 => absurd c9 (by decide))
      exfalso; omega
    · rw [if_neg q2] at e9
      subst e9
      refine aw_if_ne (tgt := 20) dX12_gain_14 rfl ⟨by decide, by decide⟩ (fun c9 => absurd rfl c9) (fun _ => ?_)
      refine aw_ldc (z := (-2147483648)) dX12_gain_17 nX12_210 ?_
      refine aw_ireturn dX12_gain_19 rfl ?_
      exact ⟨by first | rw [if_pos (by omega)] | rw [if_neg (by omega)] | rfl, rfl⟩
  · rw [if_neg q1] at e9
    subst e9
    refine aw_if_eq (tgt := 17) dX12_gain_4 rfl ⟨by decide, by decide⟩ (fun _ => ?_) (fun c9 => absurd (by decide) c9)
    refine aw_ldc (z := (-2147483648)) dX12_gain_17 nX12_210 ?_
    refine aw_ireturn dX12_gain_19 rfl ?_
    exact ⟨by first | rw [if_pos (by omega)] | rw [if_neg (by omega)] | rfl, rfl⟩
set_option maxHeartbeats 4000000 in
set_option maxRecDepth 100000 in
theorem ct_X11_gain (G : ab_G) (I : Nat → Nat → Int) (F : Nat → Nat → Nat) (hF : ab_FB F) (L : List P5) (wk nx : Int) (n : Nat) (hC : CS 23 I F L wk nx (2 * wk)) (hq : Nq L nx) (hwk : 0 ≤ wk ∧ wk + n ≤ 2900) (hnx : 0 ≤ nx ∧ nx + 13 * n ≤ 90000) (hT : TB I) (hR : RB 13 I) (hy : IVy I F) (hn : 1 ≤ n ∧ n ≤ 60) (s : Nat) (hs : s < 4) : Ct G 5 0 0 YX11_gain [ab_r 1, ab_i (s : Int), ab_i (n : Int)] (104, I, F) (fun r h => r = some (ab_i ((wkN (ruX I 13) (tnX I) (kdX I 9 10) (kdX I 11 12) n wk L nx).2.2.1 2 s - (wkN (ruX I 13) (tnX I) (kdX I 9 10) (kdX I 11 12) n wk L nx).2.2.1 5 s)) ∧ ∃ I2 F2, h = (104, I2, F2) ∧ TY I F I2 F2) := by
  refine Ct.ofW kX11_gain (ls := [some (ab_r 1), some (ab_i (s : Int)), some (ab_i (n : Int))]) (Nat.le_of_ble_eq_true rfl) rfl ?_
  refine aw_iload_n dX11_gain_0 rfl ?_
  refine aw_callS (as := [ab_i (s : Int)]) (rest := []) dX11_gain_1 (ct_X11_isSort G (104, I, F) (s : Int) (by first | assumption | (unfold ab_In at *; omega))) kX11_isSort sX11_isSort lX11_82 rfl (Nat.le_of_ble_eq_true rfl) (by decide) (by decide) (by decide) (by decide) ?_
  rintro r9 _ ⟨e9, rfl⟩
  rw [if_pos (by omega)] at e9
  subst e9
  refine aw_if_eq (tgt := 17) dX11_gain_4 rfl ⟨by decide, by decide⟩ (fun c9 => absurd c9 (by decide)) (fun _ => ?_)
  refine aw_iload_n dX11_gain_7 rfl ?_
  refine aw_iconst dX11_gain_8 ?_
  refine aw_bipush dX11_gain_9 rfl ?_
  refine aw_callS (as := [ab_i (n : Int), ab_i 1, ab_i 60]) (rest := []) dX11_gain_11 (ct_X11_within G (104, I, F) (n : Int) 1 60 (by first | assumption | (unfold ab_In at *; omega)) (by first | assumption | (unfold ab_In at *; omega)) (by first | assumption | (unfold ab_In at *; omega))) kX11_within sX11_within lX11_89 rfl (Nat.le_of_ble_eq_true rfl) (by decide) (by decide) (by decide) (by decide) ?_
  rintro r9 _ ⟨e9, rfl⟩
  rw [if_pos (by omega)] at e9
  subst e9
  refine aw_if_ne (tgt := 20) dX11_gain_14 rfl ⟨by decide, by decide⟩ (fun _ => ?_) (fun c9 => absurd c9 (by decide))
  refine aw_aload_n dX11_gain_20 rfl (by decide) ?_
  refine aw_iload_n dX11_gain_21 rfl ?_
  refine aw_aload_n dX11_gain_22 rfl (by decide) ?_
  refine aw_getrv (r := 13) dX11_gain_23 fX11_19 ⟨Nat.le_of_ble_eq_true rfl, Nat.le_of_ble_eq_true rfl⟩ rfl rfl (by first | exact (hF2.at 1 1 13 rfl rfl rfl) | exact (hF.at 1 1 13 rfl rfl rfl)) ?_
  refine aw_callV (as := [ab_i (n : Int), ab_r 13]) (rest := []) dX11_gain_26 (ct_X11_tryOut_13 G I F hF L wk nx n hC hq hwk hnx hT hR hy.1 hy.2.1 hy.2.2) ⟨Nat.le_of_ble_eq_true rfl, Nat.le_of_ble_eq_true rfl⟩ rfl kc11 rfl kX11_tryOut iX11_tryOut eX11_tryOut lX11_204 rfl (Nat.le_of_ble_eq_true rfl) (by decide) (by decide) (by decide) (by decide) ?_
  rintro _ _ ⟨rfl, I2, F2, rfl, hT2, hE2, hY2⟩
  have hF2 : ab_FB F2 := fun i j q1 q2 => (hY2.2.1 i j q2).trans (hF i j q1 q2)
  refine aw_aload_n dX11_gain_29 rfl (by decide) ?_
  refine aw_getrv (r := 44) dX11_gain_30 fX11_42 ⟨Nat.le_of_ble_eq_true rfl, Nat.le_of_ble_eq_true rfl⟩ rfl rfl (by first | exact (hF2.at 1 5 44 rfl rfl rfl) | exact (hF.at 1 5 44 rfl rfl rfl)) ?_
  refine aw_iload_n dX11_gain_33 rfl ?_
  refine aw_callV (as := [ab_i (s : Int)]) (rest := []) dX11_gain_34 (ct_X1_gained_44 G I2 F2 hF2 s hs) ⟨Nat.le_of_ble_eq_true rfl, Nat.le_of_ble_eq_true rfl⟩ rfl kc1 rfl kX1_gained iX1_gained eX1_gained lX11_211 rfl (Nat.le_of_ble_eq_true rfl) (by decide) (by decide) (by decide) (by decide) ?_
  rintro _ _ ⟨rfl, rfl⟩
  refine aw_ireturn dX11_gain_37 rfl ?_
  refine ⟨?_, I2, F2, rfl, hY2⟩
  rw [show I2 49 s = _ from hT2 2 s (by decide) hs, show I2 52 s = _ from hT2 5 s (by decide) hs]
set_option maxHeartbeats 4000000 in
set_option maxRecDepth 100000 in
theorem ct_X12_gain (G : ab_G) (I : Nat → Nat → Int) (F : Nat → Nat → Nat) (hF : ab_FB F) (L : List P5) (wk nx : Int) (n : Nat) (hC : RS I L wk nx (2 * wk)) (hq : Nq L nx) (hwk : 0 ≤ wk ∧ wk + n ≤ 2900) (hnx : 0 ≤ nx ∧ nx + 13 * n ≤ 90000) (hT : TBM I) (hR : RBM I) (hn : 1 ≤ n ∧ n ≤ 60) (s : Nat) (hs : s < 4) : Ct G 5 0 0 YX12_gain [ab_r 84, ab_i (s : Int), ab_i (n : Int)] (104, I, F) (fun r h => r = some (ab_i ((wkM I n wk L nx).2.2.1 2 s - (wkM I n wk L nx).2.2.1 5 s)) ∧ ∃ I3, h = (104, I3, F) ∧ ∀ i b, i ≠ 90 → i ≠ 91 → i ≠ 92 → (i = 89 → b < 88) → I3 i b = I i b) := by
  refine Ct.ofW kX12_gain (ls := [some (ab_r 84), some (ab_i (s : Int)), some (ab_i (n : Int)), none]) (Nat.le_of_ble_eq_true rfl) rfl ?_
  refine aw_iload_n dX12_gain_0 rfl ?_
  refine aw_callS (as := [ab_i (s : Int)]) (rest := []) dX12_gain_1 (ct_X12_isFour G (104, I, F) (s : Int) (by first | assumption | (unfold ab_In at *; omega))) kX12_isFour sX12_isFour lX12_79 rfl (Nat.le_of_ble_eq_true rfl) (by decide) (by decide) (by decide) (by decide) ?_
  rintro r9 _ ⟨e9, rfl⟩
  rw [if_pos (by omega)] at e9
  subst e9
  refine aw_if_eq (tgt := 17) dX12_gain_4 rfl ⟨by decide, by decide⟩ (fun c9 => absurd c9 (by decide)) (fun _ => ?_)
  refine aw_iload_n dX12_gain_7 rfl ?_
  refine aw_iconst dX12_gain_8 ?_
  refine aw_bipush dX12_gain_9 rfl ?_
  refine aw_callS (as := [ab_i (n : Int), ab_i 1, ab_i 60]) (rest := []) dX12_gain_11 (ct_X12_in G (104, I, F) (n : Int) 1 60 (by first | assumption | (unfold ab_In at *; omega)) (by first | assumption | (unfold ab_In at *; omega)) (by first | assumption | (unfold ab_In at *; omega))) kX12_in sX12_in lX12_75 rfl (Nat.le_of_ble_eq_true rfl) (by decide) (by decide) (by decide) (by decide) ?_
  rintro r9 _ ⟨e9, rfl⟩
  rw [if_pos (by omega)] at e9
  subst e9
  refine aw_if_ne (tgt := 20) dX12_gain_14 rfl ⟨by decide, by decide⟩ (fun _ => ?_) (fun c9 => absurd c9 (by decide))
  refine aw_aload_n dX12_gain_20 rfl (by decide) ?_
  refine aw_iload_n dX12_gain_21 rfl ?_
  refine aw_callV (as := [ab_i (n : Int)]) (rest := []) dX12_gain_22 (ct_X12_goOn G I F hF L wk nx n hC hq hwk hnx hT hR) ⟨Nat.le_of_ble_eq_true rfl, Nat.le_of_ble_eq_true rfl⟩ rfl kc12 rfl kX12_goOn iX12_goOn eX12_goOn lX12_200 rfl (Nat.le_of_ble_eq_true rfl) (by decide) (by decide) (by decide) (by decide) ?_
  rintro _ _ ⟨rfl, I2, L2, rfl, hC2, hp2, hD2⟩
  refine aw_aload_n dX12_gain_25 rfl (by decide) ?_
  refine aw_iload_n dX12_gain_26 rfl ?_
  refine aw_callV (as := [ab_i (s : Int)]) (rest := []) dX12_gain_27 (ct_X12_gainOf G I2 F hF s hs) ⟨Nat.le_of_ble_eq_true rfl, Nat.le_of_ble_eq_true rfl⟩ rfl kc12 rfl kX12_gainOf iX12_gainOf eX12_gainOf lX12_211 rfl (Nat.le_of_ble_eq_true rfl) (by decide) (by decide) (by decide) (by decide) ?_
  rintro _ _ ⟨rfl, rfl⟩
  refine aw_istore_n (ls' := [some (ab_r 84), some (ab_i (s : Int)), some (ab_i (n : Int)), some (ab_i (I2 89 (68 + s) - I2 90 (68 + s) - I2 89 (80 + s) + I2 90 (80 + s)))]) dX12_gain_30 (by decide) rfl ?_
  refine aw_aload_n dX12_gain_31 rfl (by decide) ?_
  refine aw_callV (as := []) (rest := []) dX12_gain_32 (ct_X12_layBack G I2 F hF) ⟨Nat.le_of_ble_eq_true rfl, Nat.le_of_ble_eq_true rfl⟩ rfl kc12 rfl kX12_layBack iX12_layBack eX12_layBack lX12_207 rfl (Nat.le_of_ble_eq_true rfl) (by decide) (by decide) (by decide) (by decide) ?_
  rintro _ _ ⟨rfl, rfl⟩
  refine aw_iload_n dX12_gain_35 rfl ?_
  refine aw_ireturn dX12_gain_36 rfl ?_
  refine ⟨?_, _, rfl, lb_at hD2⟩
  rw [gain_eq hD2 hs]
set_option maxHeartbeats 4000000 in
set_option maxRecDepth 100000 in
theorem pr_gain (G : ab_G) (I : Nat → Nat → Int) (F : Nat → Nat → Nat) (c : Nat) (h : INV c I F) (hc : c ≤ 600) (a : Int) (ha : ab_In a) (b : Int) (hb : ab_In b) : Pair G 5 5 YX11_gain YX12_gain [ab_i a, ab_i b] ab_i c I F := by
  obtain ⟨L, M, wk, nx, hC, hM⟩ := id h.2.2.2.2.2.2.2.2
  obtain ⟨c1, c2, c3, c4, c5, c6, c7, c8⟩ := id hC
  by_cases hv9 : (0 ≤ a ∧ a ≤ 3) ∧ (1 ≤ b ∧ b ≤ 60)
  · obtain ⟨s, rfl⟩ : ∃ s : Nat, a = s := ⟨a.toNat, by omega⟩
    obtain ⟨n, rfl⟩ : ∃ n : Nat, b = n := ⟨b.toNat, by omega⟩
    refine (ct_X11_gain G I F h.1 L wk nx n c1 c4 (by omega) (by omega) h.2.1 h.2.2.2.1 h.2.2.2.2.2.2.2.1 (by omega) s (by omega)).mono ?_
    rintro _ _ ⟨rfl, J, F2, rfl, hY⟩
    refine ⟨_, _, _, rfl, rfl, ?_⟩
    obtain ⟨m1, m2, m3, m4, m5⟩ := hY.m h c2
    refine (ct_X12_gain G J F2 m5 M wk nx n m1 (c4.perm c3) (by omega) (by omega) m2 m3 (by omega) s (by omega)).mono ?_
    rintro _ _ ⟨rfl, J2, rfl, hk⟩
    refine ⟨?_, _, _, rfl, h.tried hY hk⟩
    rw [m4, h.wk c3 c4 n]
  · refine (ct_X11_gain_bad G I F h.1 a ha b hb hv9).mono ?_
    rintro _ _ ⟨rfl, rfl⟩
    refine ⟨_, _, _, rfl, rfl, ?_⟩
    refine (ct_X12_gain_bad G I F h.1 a ha b hb hv9).mono ?_
    rintro _ _ ⟨rfl, rfl⟩
    exact ⟨rfl, _, _, rfl, h.up (by omega)⟩
