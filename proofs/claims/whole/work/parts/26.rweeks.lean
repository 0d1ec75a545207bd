/-- the first k of row b laid into row a -/
def cp (I : Nat → Nat → Int) (a b k : Nat) : Nat → Nat → Int := fun x y => if x = a ∧ y < k then I b y else I x y
theorem cp_0 (I : Nat → Nat → Int) (a b : Nat) : cp I a b 0 = I := by funext x y; unfold cp; rw [if_neg (by omega)]
theorem cp_s (I : Nat → Nat → Int) {a b k : Nat} (h : b ≠ a) : ab_u (cp I a b k) a k (cp I a b k b k) = cp I a b (k + 1) := by
  funext x y
  unfold ab_u cp
  rw [if_neg (show ¬ (b = a ∧ k < k) by omega)]
  by_cases h1 : x = a
  · subst h1
    by_cases h2 : y = k
    · subst h2; simp
    · by_cases h3 : y < k
      · simp [h2, h3, show y < k + 1 by omega]
      · simp [h2, h3, show ¬ y < k + 1 by omega]
  · simp [h1]
theorem cp_in {I : Nat → Nat → Int} {a b k y : Nat} (h : y < k) : cp I a b k a y = I b y := by unfold cp; rw [if_pos ⟨rfl, h⟩]
theorem cp_ne {I : Nat → Nat → Int} {a b k x y : Nat} (h : x ≠ a) : cp I a b k x y = I x y := by unfold cp; rw [if_neg (by omega)]
theorem cp_out {I : Nat → Nat → Int} {a b k x y : Nat} (h : ¬ y < k) : cp I a b k x y = I x y := by unfold cp; rw [if_neg (by omega)]
/-- what n weeks bring, told in the reference's own numbers -/
def wkM (I : Nat → Nat → Int) (n : Nat) (wk : Int) (L : List P5) (nx : Int) : List P5 × Int × (Nat → Nat → Int) × Int := wkN (ruM I) (tnM I) (kdM I 2 87) (kdM I 4 88) n wk L nx
theorem wkM_congr {I J : Nat → Nat → Int} (he : ∀ i b, i ≠ 89 → i ≠ 91 → i ≠ 92 → J i b = I i b) : wkM J = wkM I := by
  funext n wk L nx
  unfold wkM
  rw [ruM_congr (eqM he 95 (by decide)), tnM_congr he, show kdM J 2 87 = kdM I 2 87 from funext fun w => kdM_congr he (by decide) w, show kdM J 4 88 = kdM I 4 88 from funext fun w => kdM_congr he (by decide) w]
/-- where k weeks have gone by, and d are to come, of those that end in fin -/
def WK (I : Nat → Nat → Int) (fin : List P5 × Int × (Nat → Nat → Int) × Int) (d k : Nat) (wk : Int) (Lk : List P5) (nk : Int) (Tk : Nat → Nat → Int) (ek : Int) : Prop :=
  (wkM I d (wk + k) Lk nk).1.Perm fin.1 ∧ (wkM I d (wk + k) Lk nk).2.1 = fin.2.1 ∧ (∀ w s, Tk w s + (wkM I d (wk + k) Lk nk).2.2.1 w s = fin.2.2.1 w s) ∧ ek + (wkM I d (wk + k) Lk nk).2.2.2 = fin.2.2.2
theorem WK_step {I I1 : Nat → Nat → Int} {fin : List P5 × Int × (Nat → Nat → Int) × Int} {d k : Nat} {wk nk ek : Int} {Lk L2 : List P5} {Tk : Nat → Nat → Int} (h : WK I fin (d + 1) k wk Lk nk Tk ek) (he : ∀ i b, i ≠ 89 → i ≠ 91 → i ≠ 92 → I1 i b = I i b) (hq : Nq Lk nk)
    (hp : L2.Perm (wkS (ruM I1) (tnM I1) (kdM I1 2 87 (wk + k)) (kdM I1 4 88 (wk + k)) Lk nk).1) : WK I fin d (k + 1) wk L2 (wkS (ruM I1) (tnM I1) (kdM I1 2 87 (wk + k)) (kdM I1 4 88 (wk + k)) Lk nk).2.1 (fun w s => Tk w s + (wkS (ruM I1) (tnM I1) (kdM I1 2 87 (wk + k)) (kdM I1 4 88 (wk + k)) Lk nk).2.2.1 w s) (ek + (wkS (ruM I1) (tnM I1) (kdM I1 2 87 (wk + k)) (kdM I1 4 88 (wk + k)) Lk nk).2.2.2) ∧ Nq L2 (wkS (ruM I1) (tnM I1) (kdM I1 2 87 (wk + k)) (kdM I1 4 88 (wk + k)) Lk nk).2.1 := by
  rw [ruM_congr (eqM he 95 (by decide)), tnM_congr he, kdM_congr he (by decide), kdM_congr he (by decide)] at *
  have hq2 := wkS_nq (ru := ruM I) (tn := tnM I) (kd := kdM I 2 87 (wk + k)) (js := kdM I 4 88 (wk + k)) hq
  have hN := wkN_perm (ru := ruM I) (tn := tnM I) (kd := kdM I 2 87) (js := kdM I 4 88) d (wk := wk + ((k + 1 : Nat) : Int)) hp.symm hq2.1
  obtain ⟨h1, h2, h3, h4⟩ := h
  have ew : wk + (k : Int) + 1 = wk + ((k + 1 : Nat) : Int) := by omega
  unfold wkM at h1 h2 h3 h4
  simp only [wkN, ew] at h1 h2 h3 h4
  refine ⟨⟨?_, ?_, fun w s => ?_, ?_⟩, hq2.1.perm hp.symm⟩
  · exact hN.1.symm.trans h1
  · unfold wkM; rw [← hN.2]; exact h2
  · unfold wkM; rw [← hN.2, ← h3 w s]; dsimp only; omega
  · unfold wkM; rw [← hN.2, ← h4]; omega
theorem WK_0 {I : Nat → Nat → Int} {n : Nat} {wk nx : Int} {L : List P5} : WK I (wkM I n wk L nx) n 0 wk L nx (fun _ _ => 0) 0 := by
  unfold WK
  rw [show wk + ((0 : Nat) : Int) = wk by omega]
  exact ⟨List.Perm.refl _, rfl, fun w s => by simp, by omega⟩
theorem WK_end {I : Nat → Nat → Int} {fin : List P5 × Int × (Nat → Nat → Int) × Int} {k : Nat} {wk nk ek : Int} {Lk : List P5} {Tk : Nat → Nat → Int} (h : WK I fin 0 k wk Lk nk Tk ek) : Lk.Perm fin.1 ∧ nk = fin.2.1 ∧ Tk = fin.2.2.1 ∧ ek = fin.2.2.2 := by
  obtain ⟨h1, h2, h3, h4⟩ := h
  unfold wkM at h1 h2 h3 h4
  simp only [wkN] at h1 h2 h3 h4
  refine ⟨h1, h2, funext fun w => funext fun s => ?_, by omega⟩
  have := h3 w s; omega
theorem cp_eqM (I : Nat → Nat → Int) (i : Nat) (h : i ≠ 90) : cp I 90 89 88 i = I i := funext fun b => cp_ne h
theorem wkM_cp (I : Nat → Nat → Int) (n : Nat) (wk : Int) (L : List P5) (nx : Int) : wkM (cp I 90 89 88) n wk L nx = wkM I n wk L nx := by
  unfold wkM ruM tnM kdM
  rw [cp_eqM I 95 (by decide), cp_eqM I 86 (by decide), cp_eqM I 85 (by decide), cp_eqM I 84 (by decide), cp_eqM I 87 (by decide), cp_eqM I 88 (by decide)]
theorem TBM_cp {I : Nat → Nat → Int} (h : TBM I) : TBM (cp I 90 89 88) := by
  unfold TBM at *
  rw [cp_eqM I 86 (by decide), cp_eqM I 85 (by decide), cp_eqM I 84 (by decide), cp_eqM I 87 (by decide), cp_eqM I 88 (by decide)]
  exact h
theorem RS_cp {I : Nat → Nat → Int} {L : List P5} {wk nx W : Int} (h : RS I L wk nx W) : RS (cp I 90 89 88) L wk nx W := by
  unfold RS at *
  rw [cp_eqM I 89 (by decide)]
  exact h
set_option maxHeartbeats 4000000 in
set_option maxRecDepth 100000 in
theorem ct_X12_run (G : ab_G) (I : Nat → Nat → Int) (F : Nat → Nat → Nat) (hF : ab_FB F) (L : List P5) (wk nx : Int) (n : Nat) (hC : RS I L wk nx (2 * wk)) (hq : Nq L nx) (hwk : 0 ≤ wk ∧ wk + n ≤ 2900) (hnx : 0 ≤ nx ∧ nx + 13 * n ≤ 90000) (hT : TBM I) (hR : RBM I) (hn : 1 ≤ n ∧ n ≤ 100) (hw2 : wk + n ≤ 2000) : Ct G 4 0 0 YX12_run [ab_r 84, ab_i (n : Int)] (104, I, F) (fun r h => r = some (ab_i (wk + n)) ∧ ∃ I2 L2, h = (104, I2, F) ∧ RS I2 L2 (wk + n) (wkM I n wk L nx).2.1 (2 * (wk + n)) ∧ L2.Perm (wkM I n wk L nx).1 ∧ RD I I2 (wkM I n wk L nx).2.2.1 (wkM I n wk L nx).2.2.2 ∧ Nq L2 (wkM I n wk L nx).2.1) := by
  refine Ct.ofW kX12_run (ls := [some (ab_r 84), some (ab_i (n : Int)), none]) (Nat.le_of_ble_eq_true rfl) rfl ?_
  have hw0 : WK I (wkM I n wk L nx) n 0 wk L nx (fun _ _ => 0) 0 := WK_0
  generalize hfe : (wkM I n wk L nx) = fin at *
  generalize hZ : ab_Z G (fun r h => r = some (ab_i (wk + n)) ∧ ∃ I2 L2, h = (104, I2, F) ∧ RS I2 L2 (wk + n) fin.2.1 (2 * (wk + n)) ∧ L2.Perm fin.1 ∧ RD I I2 fin.2.2.1 fin.2.2.2 ∧ Nq L2 fin.2.1) 0 0 = Z
  have hTb := hT
  have hRb := hR
  have e86 : I 89 86 = wk := hC.2.1.2.1
  have loop : ∀ (d k : Nat) (I1 : Nat → Nat → Int) (Lk : List P5) (nk : Int) (Tk : Nat → Nat → Int) (ek : Int), k + d = n → RS I1 Lk (wk + k) nk (2 * (wk + k)) → RD I I1 Tk ek → Nq Lk nk → 0 ≤ nk → nk + 13 * d ≤ 90000 → WK I fin d k wk Lk nk Tk ek → aW G YX12_run (ab_rm 4 0 0) Z 0 0 (104, I1, F) 30 [some (ab_r 84), some (ab_i (n : Int)), some (ab_i (k : Int))] [] := by
    intro d
    induction d with
    | zero =>
      intro k I1 Lk nk Tk ek hk hC1 hD1 hq1 hn1 hn2 hw
      have hkn : k = n := by omega
      subst hkn
      obtain ⟨w1, w2, w3, w4⟩ := WK_end hw
      refine aw_iload_n dX12_run_30 rfl ?_
      refine aw_iload_n dX12_run_31 rfl ?_
      refine aw_icmp_ge (tgt := 45) dX12_run_32 rfl (by first | assumption | (unfold ab_In at *; omega)) (by first | assumption | (unfold ab_In at *; omega)) (fun c_32 => ?_) (fun c_32 => ?_)
      · refine aw_aload_n dX12_run_45 rfl (by decide) ?_
        refine aw_getrv (r := 89) dX12_run_46 fX12_22 ⟨Nat.le_of_ble_eq_true rfl, Nat.le_of_ble_eq_true rfl⟩ rfl rfl (hF.at 84 6 89 rfl rfl rfl) ?_
        refine aw_bipush dX12_run_49 rfl ?_
        refine aw_ialdq (q := 86) (v := (wk + k)) dX12_run_51 ⟨Nat.le_of_ble_eq_true rfl, Nat.le_of_ble_eq_true rfl⟩ rfl (by omega) (by omega) (by decide) rfl hC1.2.1.2.1 ?_
        rw [← hZ]
        refine aw_ireturn dX12_run_52 rfl ?_
        rw [w2] at hC1 hq1
        rw [w3, w4] at hD1
        exact ⟨rfl, I1, Lk, rfl, hC1, w1, hD1, hq1⟩
      · exfalso; omega
    | succ d ih =>
      intro k I1 Lk nk Tk ek hk hC1 hD1 hq1 hn1 hn2 hw
      have hT1 : TBM I1 := hTb.of hD1.2.2
      have hR1 : RBM I1 := hRb.of (eqM hD1.2.2 95 (by decide))
      have hws := wkS_nq (ru := ruM I1) (tn := tnM I1) (kd := kdM I1 2 87 (wk + k)) (js := kdM I1 4 88 (wk + k)) hq1
      have hLk := hC1.1
      refine aw_iload_n dX12_run_30 rfl ?_
      refine aw_iload_n dX12_run_31 rfl ?_
      refine aw_icmp_ge (tgt := 45) dX12_run_32 rfl (by first | assumption | (unfold ab_In at *; omega)) (by first | assumption | (unfold ab_In at *; omega)) (fun c_32 => ?_) (fun c_32 => ?_)
      · exfalso; omega
      · refine aw_aload_n dX12_run_35 rfl (by decide) ?_
        refine aw_callV (as := []) (rest := []) dX12_run_36 (ct_X12_goWeek G I1 F hF Lk (wk + k) nk (2 * (wk + k)) hC1 hq1 hT1 hR1 (by omega) (by omega) (by omega)) ⟨Nat.le_of_ble_eq_true rfl, Nat.le_of_ble_eq_true rfl⟩ rfl kc12 rfl kX12_goWeek iX12_goWeek eX12_goWeek lX12_107 rfl (Nat.le_of_ble_eq_true rfl) (by decide) (by decide) (by decide) (by decide) ?_
        rintro _ _ ⟨rfl, I2, L2, rfl, hC2, hp2, hD2⟩
        refine aw_iinc (ls' := [some (ab_r 84), some (ab_i (n : Int)), some (ab_i ((k : Int) + 1))]) dX12_run_39 (by decide) rfl rfl ?_
        refine aw_goto (tgt := 30) dX12_run_42 rfl ?_
        have h9 := WK_step hw hD1.2.2 hq1 hp2
        have hD9 := hD1.trans hD2
        rw [show wk + (k : Int) + 1 = wk + ((k + 1 : Nat) : Int) by omega, show 2 * (wk + (k : Int)) + 2 = 2 * (wk + ((k + 1 : Nat) : Int)) by omega] at hC2
        exact ih (k + 1) I2 L2 _ _ _ (by omega) hC2 hD9 h9.2 (by omega) (by omega) h9.1
  refine aw_iload_n dX12_run_0 rfl ?_
  refine aw_iconst dX12_run_1 ?_
  refine aw_bipush dX12_run_2 rfl ?_
  refine aw_callS (as := [ab_i (n : Int), ab_i 1, ab_i 100]) (rest := []) dX12_run_4 (ct_X12_in G (104, I, F) (n : Int) 1 100 (by unfold ab_In; omega) (by unfold ab_In; omega) (by unfold ab_In; omega)) kX12_in sX12_in lX12_75 rfl (Nat.le_of_ble_eq_true rfl) (by decide) (by decide) (by decide) (by decide) ?_
  rintro _ _ ⟨rfl, rfl⟩
  rw [if_pos (by omega)]
  refine aw_if_eq (tgt := 25) dX12_run_7 rfl ⟨by decide, by decide⟩ (fun c9 => absurd c9 (by decide)) (fun _ => ?_)
  refine aw_aload_n dX12_run_10 rfl (by decide) ?_
  refine aw_getrv (r := 89) dX12_run_11 fX12_22 ⟨Nat.le_of_ble_eq_true rfl, Nat.le_of_ble_eq_true rfl⟩ rfl rfl (hF.at 84 6 89 rfl rfl rfl) ?_
  refine aw_bipush dX12_run_14 rfl ?_
  refine aw_ialdq (q := 86) (v := wk) dX12_run_16 ⟨Nat.le_of_ble_eq_true rfl, Nat.le_of_ble_eq_true rfl⟩ rfl (by omega) (by omega) (by decide) rfl e86 ?_
  refine aw_iload_n dX12_run_17 rfl ?_
  refine aw_iadd dX12_run_18 ?_
  refine aw_sipush dX12_run_19 rfl ?_
  refine aw_icmp_le (tgt := 28) dX12_run_22 rfl (by first | assumption | (unfold ab_In at *; omega)) (by first | assumption | (unfold ab_In at *; omega)) (fun c_22 => ?_) (fun c_22 => ?_)
  · refine aw_iconst dX12_run_28 ?_
    refine aw_istore_n (ls' := [some (ab_r 84), some (ab_i (n : Int)), some (ab_i 0)]) dX12_run_29 (by decide) rfl ?_
    exact loop n 0 I L nx _ _ (by omega) (by simpa using hC) RD.rf hq hnx.1 hnx.2 hw0
  · exfalso; omega
set_option maxHeartbeats 4000000 in
set_option maxRecDepth 100000 in
theorem ct_X12_goOn (G : ab_G) (I : Nat → Nat → Int) (F : Nat → Nat → Nat) (hF : ab_FB F) (L : List P5) (wk nx : Int) (n : Nat) (hC : RS I L wk nx (2 * wk)) (hq : Nq L nx) (hwk : 0 ≤ wk ∧ wk + n ≤ 2900) (hnx : 0 ≤ nx ∧ nx + 13 * n ≤ 90000) (hT : TBM I) (hR : RBM I) : Ct G 4 0 0 YX12_goOn [ab_r 84, ab_i (n : Int)] (104, I, F) (fun r h => r = none ∧ ∃ I2 L2, h = (104, I2, F) ∧ RS I2 L2 (wk + n) (wkM I n wk L nx).2.1 (2 * (wk + n)) ∧ L2.Perm (wkM I n wk L nx).1 ∧ RD (cp I 90 89 88) I2 (wkM I n wk L nx).2.2.1 (wkM I n wk L nx).2.2.2) := by
  refine Ct.ofW kX12_goOn (ls := [some (ab_r 84), some (ab_i (n : Int)), none]) (Nat.le_of_ble_eq_true rfl) rfl ?_
  have hM : ∀ n9 w9 L9 x9, wkM (cp I 90 89 88) n9 w9 L9 x9 = wkM I n9 w9 L9 x9 := fun n9 w9 L9 x9 => wkM_cp I n9 w9 L9 x9
  have hw0 : WK (cp I 90 89 88) (wkM (cp I 90 89 88) n wk L nx) n 0 wk L nx (fun _ _ => 0) 0 := WK_0
  rw [hM] at hw0
  generalize hfe : (wkM I n wk L nx) = fin at *
  generalize hZ : ab_Z G (fun r h => r = none ∧ ∃ I2 L2, h = (104, I2, F) ∧ RS I2 L2 (wk + n) fin.2.1 (2 * (wk + n)) ∧ L2.Perm fin.1 ∧ RD (cp I 90 89 88) I2 fin.2.2.1 fin.2.2.2) 0 0 = Z
  have hTb : TBM (cp I 90 89 88) := TBM_cp hT
  have hRb : RBM (cp I 90 89 88) := hR.of (funext fun b => cp_ne (by decide))
  have hCb : RS (cp I 90 89 88) L wk nx (2 * wk) := RS_cp hC
  have loop : ∀ (d k : Nat) (I1 : Nat → Nat → Int) (Lk : List P5) (nk : Int) (Tk : Nat → Nat → Int) (ek : Int), k + d = n → RS I1 Lk (wk + k) nk (2 * (wk + k)) → RD (cp I 90 89 88) I1 Tk ek → Nq Lk nk → 0 ≤ nk → nk + 13 * d ≤ 90000 → WK (cp I 90 89 88) fin d k wk Lk nk Tk ek → aW G YX12_goOn (ab_rm 4 0 0) Z 0 0 (104, I1, F) 28 [some (ab_r 84), some (ab_i (n : Int)), some (ab_i (k : Int))] [] := by
    intro d
    induction d with
    | zero =>
      intro k I1 Lk nk Tk ek hk hC1 hD1 hq1 hn1 hn2 hw
      have hkn : k = n := by omega
      subst hkn
      obtain ⟨w1, w2, w3, w4⟩ := WK_end hw
      refine aw_iload_n dX12_goOn_28 rfl ?_
      refine aw_iload_n dX12_goOn_29 rfl ?_
      refine aw_icmp_ge (tgt := 43) dX12_goOn_30 rfl (by first | assumption | (unfold ab_In at *; omega)) (by first | assumption | (unfold ab_In at *; omega)) (fun c_30 => ?_) (fun c_30 => ?_)
      · rw [← hZ]
        refine aw_return dX12_goOn_43 rfl ?_
        rw [w2] at hC1
        rw [w3, w4] at hD1
        exact ⟨rfl, I1, Lk, rfl, hC1, w1, hD1⟩
      · exfalso; omega
    | succ d ih =>
      intro k I1 Lk nk Tk ek hk hC1 hD1 hq1 hn1 hn2 hw
      have hT1 : TBM I1 := hTb.of hD1.2.2
      have hR1 : RBM I1 := hRb.of (eqM hD1.2.2 95 (by decide))
      have hws := wkS_nq (ru := ruM I1) (tn := tnM I1) (kd := kdM I1 2 87 (wk + k)) (js := kdM I1 4 88 (wk + k)) hq1
      have hLk := hC1.1
      refine aw_iload_n dX12_goOn_28 rfl ?_
      refine aw_iload_n dX12_goOn_29 rfl ?_
      refine aw_icmp_ge (tgt := 43) dX12_goOn_30 rfl (by first | assumption | (unfold ab_In at *; omega)) (by first | assumption | (unfold ab_In at *; omega)) (fun c_30 => ?_) (fun c_30 => ?_)
      · exfalso; omega
      · refine aw_aload_n dX12_goOn_33 rfl (by decide) ?_
        refine aw_callV (as := []) (rest := []) dX12_goOn_34 (ct_X12_goWeek G I1 F hF Lk (wk + k) nk (2 * (wk + k)) hC1 hq1 hT1 hR1 (by omega) (by omega) (by omega)) ⟨Nat.le_of_ble_eq_true rfl, Nat.le_of_ble_eq_true rfl⟩ rfl kc12 rfl kX12_goWeek iX12_goWeek eX12_goWeek lX12_107 rfl (Nat.le_of_ble_eq_true rfl) (by decide) (by decide) (by decide) (by decide) ?_
        rintro _ _ ⟨rfl, I2, L2, rfl, hC2, hp2, hD2⟩
        refine aw_iinc (ls' := [some (ab_r 84), some (ab_i (n : Int)), some (ab_i ((k : Int) + 1))]) dX12_goOn_37 (by decide) rfl rfl ?_
        refine aw_goto (tgt := 28) dX12_goOn_40 rfl ?_
        have h9 := WK_step hw hD1.2.2 hq1 hp2
        have hD9 := hD1.trans hD2
        rw [show wk + (k : Int) + 1 = wk + ((k + 1 : Nat) : Int) by omega, show 2 * (wk + (k : Int)) + 2 = 2 * (wk + ((k + 1 : Nat) : Int)) by omega] at hC2
        exact ih (k + 1) I2 L2 _ _ _ (by omega) hC2 hD9 h9.2 (by omega) (by omega) h9.1
  have cloop : ∀ (d k : Nat), k + d = 88 → aW G YX12_goOn (ab_rm 4 0 0) Z 0 0 (104, cp I 90 89 k, F) 2 [some (ab_r 84), some (ab_i (n : Int)), some (ab_i (k : Int))] [] := by
    intro d
    induction d with
    | zero =>
      intro k hk
      have hk9 : k = 88 := by omega
      subst hk9
      refine aw_iload_n dX12_goOn_2 rfl ?_
      refine aw_bipush dX12_goOn_3 rfl ?_
      refine aw_icmp_ge (tgt := 26) dX12_goOn_5 rfl (by first | assumption | (unfold ab_In at *; omega)) (by first | assumption | (unfold ab_In at *; omega)) (fun c_5 => ?_) (fun c_5 => ?_)
      · refine aw_iconst dX12_goOn_26 ?_
        refine aw_istore_n (ls' := [some (ab_r 84), some (ab_i (n : Int)), some (ab_i 0)]) dX12_goOn_27 (by decide) rfl ?_
        exact loop n 0 (cp I 90 89 88) L nx _ _ (by omega) (by simpa using hCb) RD.rf hq hnx.1 hnx.2 hw0
      · exfalso; omega
    | succ d ih =>
      intro k hk
      refine aw_iload_n dX12_goOn_2 rfl ?_
      refine aw_bipush dX12_goOn_3 rfl ?_
      refine aw_icmp_ge (tgt := 26) dX12_goOn_5 rfl (by first | assumption | (unfold ab_In at *; omega)) (by first | assumption | (unfold ab_In at *; omega)) (fun c_5 => ?_) (fun c_5 => ?_)
      · exfalso; omega
      · refine aw_aload_n dX12_goOn_8 rfl (by decide) ?_
        refine aw_getrv (r := 90) dX12_goOn_9 fX12_25 ⟨Nat.le_of_ble_eq_true rfl, Nat.le_of_ble_eq_true rfl⟩ rfl rfl (hF.at 84 7 90 rfl rfl rfl) ?_
        refine aw_iload_n dX12_goOn_12 rfl ?_
        refine aw_aload_n dX12_goOn_13 rfl (by decide) ?_
        refine aw_getrv (r := 89) dX12_goOn_14 fX12_22 ⟨Nat.le_of_ble_eq_true rfl, Nat.le_of_ble_eq_true rfl⟩ rfl rfl (hF.at 84 6 89 rfl rfl rfl) ?_
        refine aw_iload_n dX12_goOn_17 rfl ?_
        refine aw_ialdq (q := k) (v := (cp I 90 89 k) 89 k) dX12_goOn_18 ⟨Nat.le_of_ble_eq_true rfl, Nat.le_of_ble_eq_true rfl⟩ rfl (by omega) (by omega) (by decide) rfl rfl ?_
        refine aw_iastv (q := k) dX12_goOn_19 ⟨Nat.le_of_ble_eq_true rfl, Nat.le_of_ble_eq_true rfl⟩ rfl (by omega) (by omega) (by decide) rfl ?_
        refine aw_iinc (ls' := [some (ab_r 84), some (ab_i (n : Int)), some (ab_i ((k : Int) + 1))]) dX12_goOn_20 (by decide) rfl rfl ?_
        refine aw_goto (tgt := 2) dX12_goOn_23 rfl ?_
        rw [cp_s I (by decide)]
        exact ih (k + 1) (by omega)
  refine aw_iconst dX12_goOn_0 ?_
  refine aw_istore_n (ls' := [some (ab_r 84), some (ab_i (n : Int)), some (ab_i 0)]) dX12_goOn_1 (by decide) rfl ?_
  have h9 := cloop 88 0 (by omega)
  rw [cp_0] at h9
  exact h9
set_option maxHeartbeats 4000000 in
set_option maxRecDepth 100000 in
theorem ct_X12_layBack (G : ab_G) (I : Nat → Nat → Int) (F : Nat → Nat → Nat) (hF : ab_FB F) : Ct G 0 0 0 YX12_layBack [ab_r 84] (104, I, F) (fun r h => r = none ∧ h = (104, cp I 89 90 88, F)) := by
  refine Ct.ofW kX12_layBack (ls := [some (ab_r 84), none]) (Nat.le_of_ble_eq_true rfl) rfl ?_
  generalize hZ : ab_Z G (fun r h => r = none ∧ h = (104, cp I 89 90 88, F)) 0 0 = Z
  have cloop : ∀ (d k : Nat), k + d = 88 → aW G YX12_layBack (ab_rm 0 0 0) Z 0 0 (104, cp I 89 90 k, F) 2 [some (ab_r 84), some (ab_i (k : Int))] [] := by
    intro d
    induction d with
    | zero =>
      intro k hk
      have hk9 : k = 88 := by omega
      subst hk9
      refine aw_iload_n dX12_layBack_2 rfl ?_
      refine aw_bipush dX12_layBack_3 rfl ?_
      refine aw_icmp_ge (tgt := 26) dX12_layBack_5 rfl (by first | assumption | (unfold ab_In at *; omega)) (by first | assumption | (unfold ab_In at *; omega)) (fun c_5 => ?_) (fun c_5 => ?_)
      · rw [← hZ]
        refine aw_return dX12_layBack_26 rfl ?_
        exact ⟨rfl, rfl⟩
      · exfalso; omega
    | succ d ih =>
      intro k hk
      refine aw_iload_n dX12_layBack_2 rfl ?_
      refine aw_bipush dX12_layBack_3 rfl ?_
      refine aw_icmp_ge (tgt := 26) dX12_layBack_5 rfl (by first | assumption | (unfold ab_In at *; omega)) (by first | assumption | (unfold ab_In at *; omega)) (fun c_5 => ?_) (fun c_5 => ?_)
      · exfalso; omega
      · refine aw_aload_n dX12_layBack_8 rfl (by decide) ?_
        refine aw_getrv (r := 89) dX12_layBack_9 fX12_22 ⟨Nat.le_of_ble_eq_true rfl, Nat.le_of_ble_eq_true rfl⟩ rfl rfl (hF.at 84 6 89 rfl rfl rfl) ?_
        refine aw_iload_n dX12_layBack_12 rfl ?_
        refine aw_aload_n dX12_layBack_13 rfl (by decide) ?_
        refine aw_getrv (r := 90) dX12_layBack_14 fX12_25 ⟨Nat.le_of_ble_eq_true rfl, Nat.le_of_ble_eq_true rfl⟩ rfl rfl (hF.at 84 7 90 rfl rfl rfl) ?_
        refine aw_iload_n dX12_layBack_17 rfl ?_
        refine aw_ialdq (q := k) (v := (cp I 89 90 k) 90 k) dX12_layBack_18 ⟨Nat.le_of_ble_eq_true rfl, Nat.le_of_ble_eq_true rfl⟩ rfl (by omega) (by omega) (by decide) rfl rfl ?_
        refine aw_iastv (q := k) dX12_layBack_19 ⟨Nat.le_of_ble_eq_true rfl, Nat.le_of_ble_eq_true rfl⟩ rfl (by omega) (by omega) (by decide) rfl ?_
        refine aw_iinc (ls' := [some (ab_r 84), some (ab_i ((k : Int) + 1))]) dX12_layBack_20 (by decide) rfl rfl ?_
        refine aw_goto (tgt := 2) dX12_layBack_23 rfl ?_
        rw [cp_s I (by decide)]
        exact ih (k + 1) (by omega)
  refine aw_iconst dX12_layBack_0 ?_
  refine aw_istore_n (ls' := [some (ab_r 84), some (ab_i 0)]) dX12_layBack_1 (by decide) rfl ?_
  have h9 := cloop 88 0 (by omega)
  rw [cp_0] at h9
  exact h9
set_option maxHeartbeats 4000000 in
set_option maxRecDepth 100000 in
theorem ct_X12_keepRules (G : ab_G) (I : Nat → Nat → Int) (F : Nat → Nat → Nat) (hF : ab_FB F) : Ct G 0 0 0 YX12_keepRules [ab_r 84] (104, I, F) (fun r h => r = none ∧ h = (104, cp I 96 95 16, F)) := by
  refine Ct.ofW kX12_keepRules (ls := [some (ab_r 84), none]) (Nat.le_of_ble_eq_true rfl) rfl ?_
  generalize hZ : ab_Z G (fun r h => r = none ∧ h = (104, cp I 96 95 16, F)) 0 0 = Z
  have cloop : ∀ (d k : Nat), k + d = 16 → aW G YX12_keepRules (ab_rm 0 0 0) Z 0 0 (104, cp I 96 95 k, F) 2 [some (ab_r 84), some (ab_i (k : Int))] [] := by
    intro d
    induction d with
    | zero =>
      intro k hk
      have hk9 : k = 16 := by omega
      subst hk9
      refine aw_iload_n dX12_keepRules_2 rfl ?_
      refine aw_bipush dX12_keepRules_3 rfl ?_
      refine aw_icmp_ge (tgt := 26) dX12_keepRules_5 rfl (by first | assumption | (unfold ab_In at *; omega)) (by first | assumption | (unfold ab_In at *; omega)) (fun c_5 => ?_) (fun c_5 => ?_)
      · rw [← hZ]
        refine aw_return dX12_keepRules_26 rfl ?_
        exact ⟨rfl, rfl⟩
      · exfalso; omega
    | succ d ih =>
      intro k hk
      refine aw_iload_n dX12_keepRules_2 rfl ?_
      refine aw_bipush dX12_keepRules_3 rfl ?_
      refine aw_icmp_ge (tgt := 26) dX12_keepRules_5 rfl (by first | assumption | (unfold ab_In at *; omega)) (by first | assumption | (unfold ab_In at *; omega)) (fun c_5 => ?_) (fun c_5 => ?_)
      · exfalso; omega
      · refine aw_aload_n dX12_keepRules_8 rfl (by decide) ?_
        refine aw_getrv (r := 96) dX12_keepRules_9 fX12_44 ⟨Nat.le_of_ble_eq_true rfl, Nat.le_of_ble_eq_true rfl⟩ rfl rfl (hF.at 84 21 96 rfl rfl rfl) ?_
        refine aw_iload_n dX12_keepRules_12 rfl ?_
        refine aw_aload_n dX12_keepRules_13 rfl (by decide) ?_
        refine aw_getrv (r := 95) dX12_keepRules_14 fX12_41 ⟨Nat.le_of_ble_eq_true rfl, Nat.le_of_ble_eq_true rfl⟩ rfl rfl (hF.at 84 20 95 rfl rfl rfl) ?_
        refine aw_iload_n dX12_keepRules_17 rfl ?_
        refine aw_ialdq (q := k) (v := (cp I 96 95 k) 95 k) dX12_keepRules_18 ⟨Nat.le_of_ble_eq_true rfl, Nat.le_of_ble_eq_true rfl⟩ rfl (by omega) (by omega) (by decide) rfl rfl ?_
        refine aw_iastv (q := k) dX12_keepRules_19 ⟨Nat.le_of_ble_eq_true rfl, Nat.le_of_ble_eq_true rfl⟩ rfl (by omega) (by omega) (by decide) rfl ?_
        refine aw_iinc (ls' := [some (ab_r 84), some (ab_i ((k : Int) + 1))]) dX12_keepRules_20 (by decide) rfl rfl ?_
        refine aw_goto (tgt := 2) dX12_keepRules_23 rfl ?_
        rw [cp_s I (by decide)]
        exact ih (k + 1) (by omega)
  refine aw_iconst dX12_keepRules_0 ?_
  refine aw_istore_n (ls' := [some (ab_r 84), some (ab_i 0)]) dX12_keepRules_1 (by decide) rfl ?_
  have h9 := cloop 16 0 (by omega)
  rw [cp_0] at h9
  exact h9
set_option maxHeartbeats 4000000 in
set_option maxRecDepth 100000 in
theorem ct_X12_layBackRules (G : ab_G) (I : Nat → Nat → Int) (F : Nat → Nat → Nat) (hF : ab_FB F) : Ct G 0 0 0 YX12_layBackRules [ab_r 84] (104, I, F) (fun r h => r = none ∧ h = (104, cp I 95 96 16, F)) := by
  refine Ct.ofW kX12_layBackRules (ls := [some (ab_r 84), none]) (Nat.le_of_ble_eq_true rfl) rfl ?_
  generalize hZ : ab_Z G (fun r h => r = none ∧ h = (104, cp I 95 96 16, F)) 0 0 = Z
  have cloop : ∀ (d k : Nat), k + d = 16 → aW G YX12_layBackRules (ab_rm 0 0 0) Z 0 0 (104, cp I 95 96 k, F) 2 [some (ab_r 84), some (ab_i (k : Int))] [] := by
    intro d
    induction d with
    | zero =>
      intro k hk
      have hk9 : k = 16 := by omega
      subst hk9
      refine aw_iload_n dX12_layBackRules_2 rfl ?_
      refine aw_bipush dX12_layBackRules_3 rfl ?_
      refine aw_icmp_ge (tgt := 26) dX12_layBackRules_5 rfl (by first | assumption | (unfold ab_In at *; omega)) (by first | assumption | (unfold ab_In at *; omega)) (fun c_5 => ?_) (fun c_5 => ?_)
      · rw [← hZ]
        refine aw_return dX12_layBackRules_26 rfl ?_
        exact ⟨rfl, rfl⟩
      · exfalso; omega
    | succ d ih =>
      intro k hk
      refine aw_iload_n dX12_layBackRules_2 rfl ?_
      refine aw_bipush dX12_layBackRules_3 rfl ?_
      refine aw_icmp_ge (tgt := 26) dX12_layBackRules_5 rfl (by first | assumption | (unfold ab_In at *; omega)) (by first | assumption | (unfold ab_In at *; omega)) (fun c_5 => ?_) (fun c_5 => ?_)
      · exfalso; omega
      · refine aw_aload_n dX12_layBackRules_8 rfl (by decide) ?_
        refine aw_getrv (r := 95) dX12_layBackRules_9 fX12_41 ⟨Nat.le_of_ble_eq_true rfl, Nat.le_of_ble_eq_true rfl⟩ rfl rfl (hF.at 84 20 95 rfl rfl rfl) ?_
        refine aw_iload_n dX12_layBackRules_12 rfl ?_
        refine aw_aload_n dX12_layBackRules_13 rfl (by decide) ?_
        refine aw_getrv (r := 96) dX12_layBackRules_14 fX12_44 ⟨Nat.le_of_ble_eq_true rfl, Nat.le_of_ble_eq_true rfl⟩ rfl rfl (hF.at 84 21 96 rfl rfl rfl) ?_
        refine aw_iload_n dX12_layBackRules_17 rfl ?_
        refine aw_ialdq (q := k) (v := (cp I 95 96 k) 96 k) dX12_layBackRules_18 ⟨Nat.le_of_ble_eq_true rfl, Nat.le_of_ble_eq_true rfl⟩ rfl (by omega) (by omega) (by decide) rfl rfl ?_
        refine aw_iastv (q := k) dX12_layBackRules_19 ⟨Nat.le_of_ble_eq_true rfl, Nat.le_of_ble_eq_true rfl⟩ rfl (by omega) (by omega) (by decide) rfl ?_
        refine aw_iinc (ls' := [some (ab_r 84), some (ab_i ((k : Int) + 1))]) dX12_layBackRules_20 (by decide) rfl rfl ?_
        refine aw_goto (tgt := 2) dX12_layBackRules_23 rfl ?_
        rw [cp_s I (by decide)]
        exact ih (k + 1) (by omega)
  refine aw_iconst dX12_layBackRules_0 ?_
  refine aw_istore_n (ls' := [some (ab_r 84), some (ab_i 0)]) dX12_layBackRules_1 (by decide) rfl ?_
  have h9 := cloop 16 0 (by omega)
  rw [cp_0] at h9
  exact h9
set_option maxHeartbeats 4000000 in
set_option maxRecDepth 100000 in
theorem ct_X12_more (G : ab_G) (I : Nat → Nat → Int) (F : Nat → Nat → Nat) (hF : ab_FB F) (a : Nat) (ha : a ≤ 80) : Ct G 0 0 0 YX12_more [ab_r 84, ab_i (a : Int)] (104, I, F) (fun r h => r = some (ab_i (0 + (I 89 a - I 90 a) + (I 89 (a + 1) - I 90 (a + 1)) + (I 89 (a + 2) - I 90 (a + 2)) + (I 89 (a + 3) - I 90 (a + 3)))) ∧ h = (104, I, F)) := by
  refine Ct.ofW kX12_more (ls := [some (ab_r 84), some (ab_i (a : Int)), none, none]) (Nat.le_of_ble_eq_true rfl) rfl ?_
  refine aw_iconst dX12_more_0 ?_
  refine aw_istore_n (ls' := [some (ab_r 84), some (ab_i (a : Int)), some (ab_i 0), none]) dX12_more_1 (by decide) rfl ?_
  refine aw_iconst dX12_more_2 ?_
  refine aw_istore_n (ls' := [some (ab_r 84), some (ab_i (a : Int)), some (ab_i 0), some (ab_i 0)]) dX12_more_3 (by decide) rfl ?_
  refine aw_iload_n dX12_more_4 rfl ?_
  refine aw_iconst dX12_more_5 ?_
  refine aw_icmp_ge (tgt := 35) dX12_more_6 rfl ⟨by decide, by decide⟩ ⟨by decide, by decide⟩ (fun c9 => absurd c9 (by decide)) (fun _ => ?_)
  refine aw_iload_n dX12_more_9 rfl ?_
  refine aw_aload_n dX12_more_10 rfl (by decide) ?_
  refine aw_getrv (r := 89) dX12_more_11 fX12_22 ⟨Nat.le_of_ble_eq_true rfl, Nat.le_of_ble_eq_true rfl⟩ rfl rfl (hF.at 84 6 89 rfl rfl rfl) ?_
  refine aw_iload_n dX12_more_14 rfl ?_
  refine aw_iload_n dX12_more_15 rfl ?_
  refine aw_iadd dX12_more_16 ?_
  refine aw_ialdq (q := a) (v := I 89 a) dX12_more_17 ⟨Nat.le_of_ble_eq_true rfl, Nat.le_of_ble_eq_true rfl⟩ rfl (by omega) (by omega) (by decide) (by omega) rfl ?_
  refine aw_aload_n dX12_more_18 rfl (by decide) ?_
  refine aw_getrv (r := 90) dX12_more_19 fX12_25 ⟨Nat.le_of_ble_eq_true rfl, Nat.le_of_ble_eq_true rfl⟩ rfl rfl (hF.at 84 7 90 rfl rfl rfl) ?_
  refine aw_iload_n dX12_more_22 rfl ?_
  refine aw_iload_n dX12_more_23 rfl ?_
  refine aw_iadd dX12_more_24 ?_
  refine aw_ialdq (q := a) (v := I 90 a) dX12_more_25 ⟨Nat.le_of_ble_eq_true rfl, Nat.le_of_ble_eq_true rfl⟩ rfl (by omega) (by omega) (by decide) (by omega) rfl ?_
  refine aw_isub dX12_more_26 ?_
  refine aw_iadd dX12_more_27 ?_
  refine aw_istore_n (ls' := [some (ab_r 84), some (ab_i (a : Int)), some (ab_i (0 + ((I 89 a) - (I 90 a)))), some (ab_i 0)]) dX12_more_28 (by decide) rfl ?_
  refine aw_iinc (ls' := [some (ab_r 84), some (ab_i (a : Int)), some (ab_i (0 + ((I 89 a) - (I 90 a)))), some (ab_i 1)]) dX12_more_29 (by decide) rfl rfl ?_
  refine aw_goto (tgt := 4) dX12_more_32 rfl ?_
  refine aw_iload_n dX12_more_4 rfl ?_
  refine aw_iconst dX12_more_5 ?_
  refine aw_icmp_ge (tgt := 35) dX12_more_6 rfl ⟨by decide, by decide⟩ ⟨by decide, by decide⟩ (fun c9 => absurd c9 (by decide)) (fun _ => ?_)
  refine aw_iload_n dX12_more_9 rfl ?_
  refine aw_aload_n dX12_more_10 rfl (by decide) ?_
  refine aw_getrv (r := 89) dX12_more_11 fX12_22 ⟨Nat.le_of_ble_eq_true rfl, Nat.le_of_ble_eq_true rfl⟩ rfl rfl (hF.at 84 6 89 rfl rfl rfl) ?_
  refine aw_iload_n dX12_more_14 rfl ?_
  refine aw_iload_n dX12_more_15 rfl ?_
  refine aw_iadd dX12_more_16 ?_
  refine aw_ialdq (q := (a + 1)) (v := I 89 (a + 1)) dX12_more_17 ⟨Nat.le_of_ble_eq_true rfl, Nat.le_of_ble_eq_true rfl⟩ rfl (by omega) (by omega) (by decide) (by omega) rfl ?_
  refine aw_aload_n dX12_more_18 rfl (by decide) ?_
  refine aw_getrv (r := 90) dX12_more_19 fX12_25 ⟨Nat.le_of_ble_eq_true rfl, Nat.le_of_ble_eq_true rfl⟩ rfl rfl (hF.at 84 7 90 rfl rfl rfl) ?_
  refine aw_iload_n dX12_more_22 rfl ?_
  refine aw_iload_n dX12_more_23 rfl ?_
  refine aw_iadd dX12_more_24 ?_
  refine aw_ialdq (q := (a + 1)) (v := I 90 (a + 1)) dX12_more_25 ⟨Nat.le_of_ble_eq_true rfl, Nat.le_of_ble_eq_true rfl⟩ rfl (by omega) (by omega) (by decide) (by omega) rfl ?_
  refine aw_isub dX12_more_26 ?_
  refine aw_iadd dX12_more_27 ?_
  refine aw_istore_n (ls' := [some (ab_r 84), some (ab_i (a : Int)), some (ab_i ((0 + ((I 89 a) - (I 90 a))) + ((I 89 (a + 1)) - (I 90 (a + 1))))), some (ab_i 1)]) dX12_more_28 (by decide) rfl ?_
  refine aw_iinc (ls' := [some (ab_r 84), some (ab_i (a : Int)), some (ab_i ((0 + ((I 89 a) - (I 90 a))) + ((I 89 (a + 1)) - (I 90 (a + 1))))), some (ab_i 2)]) dX12_more_29 (by decide) rfl rfl ?_
  refine aw_goto (tgt := 4) dX12_more_32 rfl ?_
  refine aw_iload_n dX12_more_4 rfl ?_
  refine aw_iconst dX12_more_5 ?_
  refine aw_icmp_ge (tgt := 35) dX12_more_6 rfl ⟨by decide, by decide⟩ ⟨by decide, by decide⟩ (fun c9 => absurd c9 (by decide)) (fun _ => ?_)
  refine aw_iload_n dX12_more_9 rfl ?_
  refine aw_aload_n dX12_more_10 rfl (by decide) ?_
  refine aw_getrv (r := 89) dX12_more_11 fX12_22 ⟨Nat.le_of_ble_eq_true rfl, Nat.le_of_ble_eq_true rfl⟩ rfl rfl (hF.at 84 6 89 rfl rfl rfl) ?_
  refine aw_iload_n dX12_more_14 rfl ?_
  refine aw_iload_n dX12_more_15 rfl ?_
  refine aw_iadd dX12_more_16 ?_
  refine aw_ialdq (q := (a + 2)) (v := I 89 (a + 2)) dX12_more_17 ⟨Nat.le_of_ble_eq_true rfl, Nat.le_of_ble_eq_true rfl⟩ rfl (by omega) (by omega) (by decide) (by omega) rfl ?_
  refine aw_aload_n dX12_more_18 rfl (by decide) ?_
  refine aw_getrv (r := 90) dX12_more_19 fX12_25 ⟨Nat.le_of_ble_eq_true rfl, Nat.le_of_ble_eq_true rfl⟩ rfl rfl (hF.at 84 7 90 rfl rfl rfl) ?_
  refine aw_iload_n dX12_more_22 rfl ?_
  refine aw_iload_n dX12_more_23 rfl ?_
  refine aw_iadd dX12_more_24 ?_
  refine aw_ialdq (q := (a + 2)) (v := I 90 (a + 2)) dX12_more_25 ⟨Nat.le_of_ble_eq_true rfl, Nat.le_of_ble_eq_true rfl⟩ rfl (by omega) (by omega) (by decide) (by omega) rfl ?_
  refine aw_isub dX12_more_26 ?_
  refine aw_iadd dX12_more_27 ?_
  refine aw_istore_n (ls' := [some (ab_r 84), some (ab_i (a : Int)), some (ab_i (((0 + ((I 89 a) - (I 90 a))) + ((I 89 (a + 1)) - (I 90 (a + 1)))) + ((I 89 (a + 2)) - (I 90 (a + 2))))), some (ab_i 2)]) dX12_more_28 (by decide) rfl ?_
  refine aw_iinc (ls' := [some (ab_r 84), some (ab_i (a : Int)), some (ab_i (((0 + ((I 89 a) - (I 90 a))) + ((I 89 (a + 1)) - (I 90 (a + 1)))) + ((I 89 (a + 2)) - (I 90 (a + 2))))), some (ab_i 3)]) dX12_more_29 (by decide) rfl rfl ?_
  refine aw_goto (tgt := 4) dX12_more_32 rfl ?_
  refine aw_iload_n dX12_more_4 rfl ?_
  refine aw_iconst dX12_more_5 ?_
  refine aw_icmp_ge (tgt := 35) dX12_more_6 rfl ⟨by decide, by decide⟩ ⟨by decide, by decide⟩ (fun c9 => absurd c9 (by decide)) (fun _ => ?_)
  refine aw_iload_n dX12_more_9 rfl ?_
  refine aw_aload_n dX12_more_10 rfl (by decide) ?_
  refine aw_getrv (r := 89) dX12_more_11 fX12_22 ⟨Nat.le_of_ble_eq_true rfl, Nat.le_of_ble_eq_true rfl⟩ rfl rfl (hF.at 84 6 89 rfl rfl rfl) ?_
  refine aw_iload_n dX12_more_14 rfl ?_
  refine aw_iload_n dX12_more_15 rfl ?_
  refine aw_iadd dX12_more_16 ?_
  refine aw_ialdq (q := (a + 3)) (v := I 89 (a + 3)) dX12_more_17 ⟨Nat.le_of_ble_eq_true rfl, Nat.le_of_ble_eq_true rfl⟩ rfl (by omega) (by omega) (by decide) (by omega) rfl ?_
  refine aw_aload_n dX12_more_18 rfl (by decide) ?_
  refine aw_getrv (r := 90) dX12_more_19 fX12_25 ⟨Nat.le_of_ble_eq_true rfl, Nat.le_of_ble_eq_true rfl⟩ rfl rfl (hF.at 84 7 90 rfl rfl rfl) ?_
  refine aw_iload_n dX12_more_22 rfl ?_
  refine aw_iload_n dX12_more_23 rfl ?_
  refine aw_iadd dX12_more_24 ?_
  refine aw_ialdq (q := (a + 3)) (v := I 90 (a + 3)) dX12_more_25 ⟨Nat.le_of_ble_eq_true rfl, Nat.le_of_ble_eq_true rfl⟩ rfl (by omega) (by omega) (by decide) (by omega) rfl ?_
  refine aw_isub dX12_more_26 ?_
  refine aw_iadd dX12_more_27 ?_
  refine aw_istore_n (ls' := [some (ab_r 84), some (ab_i (a : Int)), some (ab_i ((((0 + ((I 89 a) - (I 90 a))) + ((I 89 (a + 1)) - (I 90 (a + 1)))) + ((I 89 (a + 2)) - (I 90 (a + 2)))) + ((I 89 (a + 3)) - (I 90 (a + 3))))), some (ab_i 3)]) dX12_more_28 (by decide) rfl ?_
  refine aw_iinc (ls' := [some (ab_r 84), some (ab_i (a : Int)), some (ab_i ((((0 + ((I 89 a) - (I 90 a))) + ((I 89 (a + 1)) - (I 90 (a + 1)))) + ((I 89 (a + 2)) - (I 90 (a + 2)))) + ((I 89 (a + 3)) - (I 90 (a + 3))))), some (ab_i 4)]) dX12_more_29 (by decide) rfl rfl ?_
  refine aw_goto (tgt := 4) dX12_more_32 rfl ?_
  refine aw_iload_n dX12_more_4 rfl ?_
  refine aw_iconst dX12_more_5 ?_
  refine aw_icmp_ge (tgt := 35) dX12_more_6 rfl ⟨by decide, by decide⟩ ⟨by decide, by decide⟩ (fun _ => ?_) (fun c9 => absurd (by decide) c9)
  refine aw_iload_n dX12_more_35 rfl ?_
  refine aw_ireturn dX12_more_36 rfl ?_
  exact ⟨rfl, rfl⟩
set_option maxHeartbeats 4000000 in
set_option maxRecDepth 100000 in
theorem ct_X12_gainOf (G : ab_G) (I : Nat → Nat → Int) (F : Nat → Nat → Nat) (hF : ab_FB F) (s : Nat) (hs : s < 4) : Ct G 0 0 0 YX12_gainOf [ab_r 84, ab_i (s : Int)] (104, I, F) (fun r h => r = some (ab_i (I 89 (68 + s) - I 90 (68 + s) - I 89 (80 + s) + I 90 (80 + s))) ∧ h = (104, I, F)) := by
  refine Ct.ofW kX12_gainOf (ls := [some (ab_r 84), some (ab_i (s : Int))]) (Nat.le_of_ble_eq_true rfl) rfl ?_
  refine aw_aload_n dX12_gainOf_0 rfl (by decide) ?_
  refine aw_getrv (r := 89) dX12_gainOf_1 fX12_22 ⟨Nat.le_of_ble_eq_true rfl, Nat.le_of_ble_eq_true rfl⟩ rfl rfl (hF.at 84 6 89 rfl rfl rfl) ?_
  refine aw_bipush dX12_gainOf_4 rfl ?_
  refine aw_iload_n dX12_gainOf_6 rfl ?_
  refine aw_iadd dX12_gainOf_7 ?_
  refine aw_ialdq (q := (68 + s)) (v := I 89 (68 + s)) dX12_gainOf_8 ⟨Nat.le_of_ble_eq_true rfl, Nat.le_of_ble_eq_true rfl⟩ rfl (by omega) (by omega) (by decide) (by omega) rfl ?_
  refine aw_aload_n dX12_gainOf_9 rfl (by decide) ?_
  refine aw_getrv (r := 90) dX12_gainOf_10 fX12_25 ⟨Nat.le_of_ble_eq_true rfl, Nat.le_of_ble_eq_true rfl⟩ rfl rfl (hF.at 84 7 90 rfl rfl rfl) ?_
  refine aw_bipush dX12_gainOf_13 rfl ?_
  refine aw_iload_n dX12_gainOf_15 rfl ?_
  refine aw_iadd dX12_gainOf_16 ?_
  refine aw_ialdq (q := (68 + s)) (v := I 90 (68 + s)) dX12_gainOf_17 ⟨Nat.le_of_ble_eq_true rfl, Nat.le_of_ble_eq_true rfl⟩ rfl (by omega) (by omega) (by decide) (by omega) rfl ?_
  refine aw_isub dX12_gainOf_18 ?_
  refine aw_aload_n dX12_gainOf_19 rfl (by decide) ?_
  refine aw_getrv (r := 89) dX12_gainOf_20 fX12_22 ⟨Nat.le_of_ble_eq_true rfl, Nat.le_of_ble_eq_true rfl⟩ rfl rfl (hF.at 84 6 89 rfl rfl rfl) ?_
  refine aw_bipush dX12_gainOf_23 rfl ?_
  refine aw_iload_n dX12_gainOf_25 rfl ?_
  refine aw_iadd dX12_gainOf_26 ?_
  refine aw_ialdq (q := (80 + s)) (v := I 89 (80 + s)) dX12_gainOf_27 ⟨Nat.le_of_ble_eq_true rfl, Nat.le_of_ble_eq_true rfl⟩ rfl (by omega) (by omega) (by decide) (by omega) rfl ?_
  refine aw_isub dX12_gainOf_28 ?_
  refine aw_aload_n dX12_gainOf_29 rfl (by decide) ?_
  refine aw_getrv (r := 90) dX12_gainOf_30 fX12_25 ⟨Nat.le_of_ble_eq_true rfl, Nat.le_of_ble_eq_true rfl⟩ rfl rfl (hF.at 84 7 90 rfl rfl rfl) ?_
  refine aw_bipush dX12_gainOf_33 rfl ?_
  refine aw_iload_n dX12_gainOf_35 rfl ?_
  refine aw_iadd dX12_gainOf_36 ?_
  refine aw_ialdq (q := (80 + s)) (v := I 90 (80 + s)) dX12_gainOf_37 ⟨Nat.le_of_ble_eq_true rfl, Nat.le_of_ble_eq_true rfl⟩ rfl (by omega) (by omega) (by decide) (by omega) rfl ?_
  refine aw_iadd dX12_gainOf_38 ?_
  refine aw_ireturn dX12_gainOf_39 rfl ?_
  exact ⟨rfl, rfl⟩
