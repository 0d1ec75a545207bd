theorem aw_to {G : ab_G} {Y : ab_Y} {R : Room} {Z : ab_Zt} {kc ks : Nat} {h : ab_H} {pc : Nat} {ls : List (Option ab_V)} {st : List ab_V} {e z : Int} (he : e = z) (k : aW G Y R Z kc ks h pc ls (ab_i z :: st)) : aW G Y R Z kc ks h pc ls (ab_i e :: st) := he ▸ k
theorem nat_div {a b : Nat} (ha : a < 2147483648) (hb : 0 < b) (hb2 : b < 2147483648) : ab_div (a : Int) (b : Int) = ((a / b : Nat) : Int) := by
  rw [ab_div_n (by omega) (by omega) (by omega) (by omega)]; exact (Int.natCast_ediv a b).symm
theorem nat_rem {a b : Nat} (ha : a < 2147483648) (hb : 0 < b) (hb2 : b < 2147483648) : ab_rem (a : Int) (b : Int) = ((a % b : Nat) : Int) := by
  rw [ab_rem_n (by omega) (by omega) (by omega) (by omega)]; exact (Int.natCast_emod a b).symm
theorem fig_eq {s : Nat} (hs : s < 4) : ab_fig (s : Int).toNat = ((5 ^ s : Nat) : Int) := by
  match s, hs with
  | 0, _ => rfl
  | 1, _ => rfl
  | 2, _ => rfl
  | 3, _ => rfl
theorem pw5 {s : Nat} (hs : s < 4) : 1 ≤ 5 ^ s ∧ 5 ^ s ≤ 125 := by
  match s, hs with
  | 0, _ => decide
  | 1, _ => decide
  | 2, _ => decide
  | 3, _ => decide
theorem bq_lt (q s : Nat) : bq q s < 5 := Nat.mod_lt _ (by decide)
/-- which kinds a bar takes, as bits; w: what the kinds are worth -/
def kmW (w : Nat → Int) (b : Nat) : Int := if b = 0 then 15 else (if w (b - 1) ≤ w 0 then 1 else 0) + (if w (b - 1) ≤ w 1 then 2 else 0) + (if w (b - 1) ≤ w 2 then 4 else 0) + (if w (b - 1) ≤ w 3 then 8 else 0)
theorem kmW_bd (w : Nat → Int) (b : Nat) : 0 ≤ kmW w b ∧ kmW w b ≤ 15 := by
  unfold kmW; (repeat' split) <;> omega
def ktW (w : Nat → Int) (b k : Nat) : Bool := decide (b = 0) || decide (w (b - 1) ≤ w k)
theorem kmW_kt {w : Nat → Int} {a b : Nat} (h : kmW w a = kmW w b) {k : Nat} (hk : k < 4) : ktW w a k = ktW w b k := by
  have hm : ∀ c, kmW w c = (if ktW w c 0 = true then 1 else 0) + (if ktW w c 1 = true then 2 else 0) + (if ktW w c 2 = true then 4 else 0) + (if ktW w c 3 = true then 8 else 0) := fun c => by
    unfold kmW ktW
    by_cases hc : c = 0
    · simp [hc]
    · simp [hc]
  rw [hm, hm] at h
  cases a0 : ktW w a 0 <;> cases a1 : ktW w a 1 <;> cases a2 : ktW w a 2 <;> cases a3 : ktW w a 3 <;> cases b0 : ktW w b 0 <;> cases b1 : ktW w b 1 <;> cases b2 : ktW w b 2 <;> cases b3 : ktW w b 3 <;> simp only [a0, a1, a2, a3, b0, b1, b2, b3, if_true, if_false, Bool.false_eq_true] at h <;> first | (exfalso; omega) | (match k, hk with
    | 0, _ => rw [a0, b0]
    | 1, _ => rw [a1, b1]
    | 2, _ => rw [a2, b2]
    | 3, _ => rw [a3, b3])
/-- where the least bars lie -/
def PL (I I1 : Nat → Nat → Int) (s b : Nat) : Prop := 0 ≤ I1 (68 + s) b ∧ I1 (68 + s) b ≤ b ∧ kmW (I (4 + s)) (I1 (68 + s) b).toNat = kmW (I (4 + s)) b
def lq (I : Nat → Nat → Int) (q : Nat) : Int := 0 + I 68 (bq q 0) * 1 + I 69 (bq q 1) * 5 + I 70 (bq q 2) * 25 + I 71 (bq q 3) * 125
theorem lq_n {I0 I : Nat → Nat → Int} {q : Nat} (hq : q < 625) (h : ∀ s b, s < 4 → b < 5 → PL I0 I s b) : ∃ p : Nat, lq I q = (p : Int) ∧ p ≤ q ∧ ∀ s, s < 4 → bq p s = (I (68 + s) (bq q s)).toNat := by
  have h0 := h 0 (bq q 0) (by omega) (bq_lt q 0)
  have h1 := h 1 (bq q 1) (by omega) (bq_lt q 1)
  have h2 := h 2 (bq q 2) (by omega) (bq_lt q 2)
  have h3 := h 3 (bq q 3) (by omega) (bq_lt q 3)
  obtain ⟨h01, h02, _⟩ := h0
  obtain ⟨h11, h12, _⟩ := h1
  obtain ⟨h21, h22, _⟩ := h2
  obtain ⟨h31, h32, _⟩ := h3
  unfold lq
  rw [show 68 + 0 = 68 from rfl] at *
  rw [show 68 + 1 = 69 from rfl] at *
  rw [show 68 + 2 = 70 from rfl] at *
  rw [show 68 + 3 = 71 from rfl] at *
  have e0 : bq q 0 = q % 5 := by unfold bq; simp
  have e1 : bq q 1 = q / 5 % 5 := by unfold bq; simp
  have e2 : bq q 2 = q / 25 % 5 := by unfold bq; simp
  have e3 : bq q 3 = q / 125 % 5 := by unfold bq; simp
  generalize hx0 : I 68 (bq q 0) = x0 at *
  generalize hx1 : I 69 (bq q 1) = x1 at *
  generalize hx2 : I 70 (bq q 2) = x2 at *
  generalize hx3 : I 71 (bq q 3) = x3 at *
  refine ⟨(0 + x0 * 1 + x1 * 5 + x2 * 25 + x3 * 125).toNat, by omega, by omega, fun s hs => ?_⟩
  match s, hs with
  | 0, _ => rw [show 68 + 0 = 68 from rfl, hx0]; unfold bq; simp; omega
  | 1, _ => rw [show 68 + 1 = 69 from rfl, hx1]; unfold bq; simp; omega
  | 2, _ => rw [show 68 + 2 = 70 from rfl, hx2]; unfold bq; simp; omega
  | 3, _ => rw [show 68 + 3 = 71 from rfl, hx3]; unfold bq; simp; omega
theorem PL_o {I I2 : Nat → Nat → Int} {i j s b : Nat} {v : Int} (h : PL I I2 s b) (hn : 68 + s ≠ i ∨ b ≠ j) : PL I (ab_u I2 i j v) s b := by
  unfold PL; rw [ab_u_o hn]; exact h
theorem PL_s {I I2 : Nat → Nat → Int} {s b l : Nat} (hl : l ≤ b) (hk : kmW (I (4 + s)) l = kmW (I (4 + s)) b) : PL I (ab_u I2 (68 + s) b (l : Int)) s b := by
  unfold PL; rw [ab_u_s, Int.toNat_natCast]; exact ⟨by omega, by omega, hk⟩
theorem gNX5_74 : Cond.fieldLinkNest RX5 74 "ThreeOffers" "FIGURES" "[I" "ThreeOffers" ∈ lw_nest := lw_nest_in (k := 0) rfl
theorem gNX3_60 : Cond.fieldLinkNest RX3 60 "ThreeOffers" "FACTORIALS" "[I" "ThreeOffers" ∈ lw_nest := lw_nest_in (k := 1) rfl
set_option maxHeartbeats 4000000 in
set_option maxRecDepth 100000 in
theorem ct_X5_barOf (G : ab_G) (h0 : ab_H) (q s : Nat) (hq : q < 625) (hs : s < 4) : Ct G 0 0 0 YX5_barOf [ab_i (q : Int), ab_i (s : Int)] h0 (fun r h => r = some (ab_i (bq q s : Int)) ∧ h = h0) := by
  refine Ct.ofW kX5_barOf (ls := [some (ab_i (q : Int)), some (ab_i (s : Int))]) (Nat.le_of_ble_eq_true rfl) rfl ?_
  have h5 := pw5 hs
  have hdq : q / 5 ^ s < 2147483648 := Nat.lt_of_le_of_lt (Nat.div_le_self _ _) (by omega)
  refine aw_iload_n dX5_barOf_0 rfl ?_
  refine aw_getsN dX5_barOf_1 ab_zfig gNX5_74 ?_
  refine aw_iload_n dX5_barOf_4 rfl ?_
  refine aw_ifig dX5_barOf_5 (by omega) (by omega) ?_
  refine aw_to (z := ((5 ^ s : Nat) : Int)) (fig_eq hs) ?_
  refine aw_idiv dX5_barOf_6 (by unfold ab_In; omega) (by omega) ?_
  refine aw_to (z := ((q / 5 ^ s : Nat) : Int)) (nat_div (by omega) (by omega) (by omega)) ?_
  refine aw_iconst dX5_barOf_7 ?_
  refine aw_irem dX5_barOf_8 (by unfold ab_In; omega) (by omega) ?_
  refine aw_to (z := ((bq q s : Nat) : Int)) (nat_rem (b := 5) hdq (by decide) (by decide)) ?_
  refine aw_ireturn dX5_barOf_9 rfl ?_
  exact ⟨rfl, rfl⟩
set_option maxHeartbeats 4000000 in
set_option maxRecDepth 100000 in
theorem ct_X5_kinds0 (G : ab_G) (I : Nat → Nat → Int) (F : Nat → Nat → Nat) (hF : ab_FB F) (s : Nat) (hs : s < 4) : Ct G 0 0 0 YX5_kindsTaken [ab_r 65, ab_i (s : Int), ab_i 0] (104, I, F) (fun r h => r = some (ab_i (kmW (I (4 + s)) 0)) ∧ h = (104, I, F)) := by
  refine Ct.ofW kX5_kindsTaken (ls := [some (ab_r 65), some (ab_i (s : Int)), some (ab_i 0), none, none]) (Nat.le_of_ble_eq_true rfl) rfl ?_
  refine aw_iconst dX5_kindsTaken_0 ?_
  refine aw_istore_n (ls' := [some (ab_r 65), some (ab_i (s : Int)), some (ab_i 0), some (ab_i 0), none]) dX5_kindsTaken_1 (by decide) rfl ?_
  refine aw_iconst dX5_kindsTaken_2 ?_
  refine aw_istore (ls' := [some (ab_r 65), some (ab_i (s : Int)), some (ab_i 0), some (ab_i 0), some (ab_i 0)]) dX5_kindsTaken_3 (by decide) rfl ?_
  refine aw_iload dX5_kindsTaken_5 rfl ?_
  refine aw_iconst dX5_kindsTaken_7 ?_
  refine aw_icmp_ge (tgt := 56) dX5_kindsTaken_8 rfl ⟨by decide, by decide⟩ ⟨by decide, by decide⟩ (fun c9 => absurd c9 (by decide)) (fun _ => ?_)
  refine aw_iload_n dX5_kindsTaken_11 rfl ?_
  refine aw_if_eq (tgt := 43) dX5_kindsTaken_12 rfl ⟨by decide, by decide⟩ (fun _ => ?_) (fun c9 => absurd (by decide) c9)
  refine aw_iload_n dX5_kindsTaken_43 rfl ?_
  refine aw_iconst dX5_kindsTaken_44 ?_
  refine aw_iload dX5_kindsTaken_45 rfl ?_
  refine aw_ishl dX5_kindsTaken_47 ?_
  refine aw_ior dX5_kindsTaken_48 ?_
  refine aw_istore_n (ls' := [some (ab_r 65), some (ab_i (s : Int)), some (ab_i 0), some (ab_i (ab_or 0 (ab_sl 1 0))), some (ab_i 0)]) dX5_kindsTaken_49 (by decide) rfl ?_
  refine aw_iinc (ls' := [some (ab_r 65), some (ab_i (s : Int)), some (ab_i 0), some (ab_i (ab_or 0 (ab_sl 1 0))), some (ab_i 1)]) dX5_kindsTaken_50 (by decide) rfl rfl ?_
  refine aw_goto (tgt := 5) dX5_kindsTaken_53 rfl ?_
  refine aw_iload dX5_kindsTaken_5 rfl ?_
  refine aw_iconst dX5_kindsTaken_7 ?_
  refine aw_icmp_ge (tgt := 56) dX5_kindsTaken_8 rfl ⟨by decide, by decide⟩ ⟨by decide, by decide⟩ (fun c9 => absurd c9 (by decide)) (fun _ => ?_)
  refine aw_iload_n dX5_kindsTaken_11 rfl ?_
  refine aw_if_eq (tgt := 43) dX5_kindsTaken_12 rfl ⟨by decide, by decide⟩ (fun _ => ?_) (fun c9 => absurd (by decide) c9)
  refine aw_iload_n dX5_kindsTaken_43 rfl ?_
  refine aw_iconst dX5_kindsTaken_44 ?_
  refine aw_iload dX5_kindsTaken_45 rfl ?_
  refine aw_ishl dX5_kindsTaken_47 ?_
  refine aw_ior dX5_kindsTaken_48 ?_
  refine aw_istore_n (ls' := [some (ab_r 65), some (ab_i (s : Int)), some (ab_i 0), some (ab_i (ab_or (ab_or 0 (ab_sl 1 0)) (ab_sl 1 1))), some (ab_i 1)]) dX5_kindsTaken_49 (by decide) rfl ?_
  refine aw_iinc (ls' := [some (ab_r 65), some (ab_i (s : Int)), some (ab_i 0), some (ab_i (ab_or (ab_or 0 (ab_sl 1 0)) (ab_sl 1 1))), some (ab_i 2)]) dX5_kindsTaken_50 (by decide) rfl rfl ?_
  refine aw_goto (tgt := 5) dX5_kindsTaken_53 rfl ?_
  refine aw_iload dX5_kindsTaken_5 rfl ?_
  refine aw_iconst dX5_kindsTaken_7 ?_
  refine aw_icmp_ge (tgt := 56) dX5_kindsTaken_8 rfl ⟨by decide, by decide⟩ ⟨by decide, by decide⟩ (fun c9 => absurd c9 (by decide)) (fun _ => ?_)
  refine aw_iload_n dX5_kindsTaken_11 rfl ?_
  refine aw_if_eq (tgt := 43) dX5_kindsTaken_12 rfl ⟨by decide, by decide⟩ (fun _ => ?_) (fun c9 => absurd (by decide) c9)
  refine aw_iload_n dX5_kindsTaken_43 rfl ?_
  refine aw_iconst dX5_kindsTaken_44 ?_
  refine aw_iload dX5_kindsTaken_45 rfl ?_
  refine aw_ishl dX5_kindsTaken_47 ?_
  refine aw_ior dX5_kindsTaken_48 ?_
  refine aw_istore_n (ls' := [some (ab_r 65), some (ab_i (s : Int)), some (ab_i 0), some (ab_i (ab_or (ab_or (ab_or 0 (ab_sl 1 0)) (ab_sl 1 1)) (ab_sl 1 2))), some (ab_i 2)]) dX5_kindsTaken_49 (by decide) rfl ?_
  refine aw_iinc (ls' := [some (ab_r 65), some (ab_i (s : Int)), some (ab_i 0), some (ab_i (ab_or (ab_or (ab_or 0 (ab_sl 1 0)) (ab_sl 1 1)) (ab_sl 1 2))), some (ab_i 3)]) dX5_kindsTaken_50 (by decide) rfl rfl ?_
  refine aw_goto (tgt := 5) dX5_kindsTaken_53 rfl ?_
  refine aw_iload dX5_kindsTaken_5 rfl ?_
  refine aw_iconst dX5_kindsTaken_7 ?_
  refine aw_icmp_ge (tgt := 56) dX5_kindsTaken_8 rfl ⟨by decide, by decide⟩ ⟨by decide, by decide⟩ (fun c9 => absurd c9 (by decide)) (fun _ => ?_)
  refine aw_iload_n dX5_kindsTaken_11 rfl ?_
  refine aw_if_eq (tgt := 43) dX5_kindsTaken_12 rfl ⟨by decide, by decide⟩ (fun _ => ?_) (fun c9 => absurd (by decide) c9)
  refine aw_iload_n dX5_kindsTaken_43 rfl ?_
  refine aw_iconst dX5_kindsTaken_44 ?_
  refine aw_iload dX5_kindsTaken_45 rfl ?_
  refine aw_ishl dX5_kindsTaken_47 ?_
  refine aw_ior dX5_kindsTaken_48 ?_
  refine aw_istore_n (ls' := [some (ab_r 65), some (ab_i (s : Int)), some (ab_i 0), some (ab_i (ab_or (ab_or (ab_or (ab_or 0 (ab_sl 1 0)) (ab_sl 1 1)) (ab_sl 1 2)) (ab_sl 1 3))), some (ab_i 3)]) dX5_kindsTaken_49 (by decide) rfl ?_
  refine aw_iinc (ls' := [some (ab_r 65), some (ab_i (s : Int)), some (ab_i 0), some (ab_i (ab_or (ab_or (ab_or (ab_or 0 (ab_sl 1 0)) (ab_sl 1 1)) (ab_sl 1 2)) (ab_sl 1 3))), some (ab_i 4)]) dX5_kindsTaken_50 (by decide) rfl rfl ?_
  refine aw_goto (tgt := 5) dX5_kindsTaken_53 rfl ?_
  refine aw_iload dX5_kindsTaken_5 rfl ?_
  refine aw_iconst dX5_kindsTaken_7 ?_
  refine aw_icmp_ge (tgt := 56) dX5_kindsTaken_8 rfl ⟨by decide, by decide⟩ ⟨by decide, by decide⟩ (fun _ => ?_) (fun c9 => absurd (by decide) c9)
  refine aw_iload_n dX5_kindsTaken_56 rfl ?_
  refine aw_ireturn dX5_kindsTaken_57 rfl ?_
  exact ⟨rfl, rfl⟩
set_option maxHeartbeats 4000000 in
set_option maxRecDepth 100000 in
theorem ct_X5_kinds1 (G : ab_G) (I : Nat → Nat → Int) (F : Nat → Nat → Nat) (hF : ab_FB F) (s b : Nat) (hs : s < 4) (hb : b < 4) (hw : ∀ k, k < 4 → 0 ≤ I (4 + s) k ∧ I (4 + s) k ≤ 99) : Ct G 0 0 0 YX5_kindsTaken [ab_r 65, ab_i (s : Int), ab_i ((b : Int) + 1)] (104, I, F) (fun r h => r = some (ab_i (kmW (I (4 + s)) (b + 1))) ∧ h = (104, I, F)) := by
  refine Ct.ofW kX5_kindsTaken (ls := [some (ab_r 65), some (ab_i (s : Int)), some (ab_i ((b : Int) + 1)), none, none]) (Nat.le_of_ble_eq_true rfl) rfl ?_
  have w0 := hw 0 (by omega)
  have w1 := hw 1 (by omega)
  have w2 := hw 2 (by omega)
  have w3 := hw 3 (by omega)
  have wb := hw b hb
  refine aw_iconst dX5_kindsTaken_0 ?_
  refine aw_istore_n (ls' := [some (ab_r 65), some (ab_i (s : Int)), some (ab_i ((b : Int) + 1)), some (ab_i 0), none]) dX5_kindsTaken_1 (by decide) rfl ?_
  refine aw_iconst dX5_kindsTaken_2 ?_
  refine aw_istore (ls' := [some (ab_r 65), some (ab_i (s : Int)), some (ab_i ((b : Int) + 1)), some (ab_i 0), some (ab_i 0)]) dX5_kindsTaken_3 (by decide) rfl ?_
  refine aw_iload dX5_kindsTaken_5 rfl ?_
  refine aw_iconst dX5_kindsTaken_7 ?_
  refine aw_icmp_ge (tgt := 56) dX5_kindsTaken_8 rfl ⟨by decide, by decide⟩ ⟨by decide, by decide⟩ (fun c9 => absurd c9 (by decide)) (fun _ => ?_)
  refine aw_iload_n dX5_kindsTaken_11 rfl ?_
  refine aw_if_eq (tgt := 43) dX5_kindsTaken_12 rfl (by first | assumption | (unfold ab_In at *; omega)) (fun c_12 => ?_) (fun c_12 => ?_)
  · exfalso; omega
  · refine aw_aload_n dX5_kindsTaken_15 rfl (by decide) ?_
    refine aw_getrv (r := 2) dX5_kindsTaken_16 fX5_30 ⟨Nat.le_of_ble_eq_true rfl, Nat.le_of_ble_eq_true rfl⟩ rfl rfl (hF.at 65 0 2 rfl rfl rfl) ?_
    refine aw_getrv (r := 3) dX5_kindsTaken_19 fX5_66 ⟨Nat.le_of_ble_eq_true rfl, Nat.le_of_ble_eq_true rfl⟩ rfl rfl (hF.at 2 0 3 rfl rfl rfl) ?_
    refine aw_iload_n dX5_kindsTaken_22 rfl ?_
    refine aw_aaldv (r := 4 + s) dX5_kindsTaken_23 ⟨Nat.le_of_ble_eq_true rfl, Nat.le_of_ble_eq_true rfl⟩ rfl (by decide) (by omega) (by omega) (by decide) (hF.w hs) ?_
    refine aw_iload dX5_kindsTaken_24 rfl ?_
    refine aw_ialdq (q := 0) (v := I (4 + s) 0) dX5_kindsTaken_26 ⟨by omega, by omega⟩ (sh_w hs) (by omega) (by omega) (by decide) rfl rfl ?_
    refine aw_aload_n dX5_kindsTaken_27 rfl (by decide) ?_
    refine aw_getrv (r := 2) dX5_kindsTaken_28 fX5_30 ⟨Nat.le_of_ble_eq_true rfl, Nat.le_of_ble_eq_true rfl⟩ rfl rfl (hF.at 65 0 2 rfl rfl rfl) ?_
    refine aw_getrv (r := 3) dX5_kindsTaken_31 fX5_66 ⟨Nat.le_of_ble_eq_true rfl, Nat.le_of_ble_eq_true rfl⟩ rfl rfl (hF.at 2 0 3 rfl rfl rfl) ?_
    refine aw_iload_n dX5_kindsTaken_34 rfl ?_
    refine aw_aaldv (r := 4 + s) dX5_kindsTaken_35 ⟨Nat.le_of_ble_eq_true rfl, Nat.le_of_ble_eq_true rfl⟩ rfl (by decide) (by omega) (by omega) (by decide) (hF.w hs) ?_
    refine aw_iload_n dX5_kindsTaken_36 rfl ?_
    refine aw_iconst dX5_kindsTaken_37 ?_
    refine aw_isub dX5_kindsTaken_38 ?_
    refine aw_to (z := (b : Int)) (by omega) ?_
    refine aw_ialdq (q := b) (v := I (4 + s) b) dX5_kindsTaken_39 ⟨by omega, by omega⟩ (sh_w hs) (by omega) (by omega) (by decide) rfl rfl ?_
    refine aw_icmp_lt (tgt := 50) dX5_kindsTaken_40 rfl (by first | assumption | (unfold ab_In at *; omega)) (by first | assumption | (unfold ab_In at *; omega)) (fun c_40 => ?_) (fun c_40 => ?_)
    · refine aw_iinc (ls' := [some (ab_r 65), some (ab_i (s : Int)), some (ab_i ((b : Int) + 1)), some (ab_i 0), some (ab_i 1)]) dX5_kindsTaken_50 (by decide) rfl rfl ?_
      refine aw_goto (tgt := 5) dX5_kindsTaken_53 rfl ?_
      refine aw_iload dX5_kindsTaken_5 rfl ?_
      refine aw_iconst dX5_kindsTaken_7 ?_
      refine aw_icmp_ge (tgt := 56) dX5_kindsTaken_8 rfl ⟨by decide, by decide⟩ ⟨by decide, by decide⟩ (fun c9 => absurd c9 (by decide)) (fun _ => ?_)
      refine aw_iload_n dX5_kindsTaken_11 rfl ?_
      refine aw_if_eq (tgt := 43) dX5_kindsTaken_12 rfl (by first | assumption | (unfold ab_In at *; omega)) (fun c_12 => ?_) (fun c_12 => ?_)
      · exfalso; omega
      · refine aw_aload_n dX5_kindsTaken_15 rfl (by decide) ?_
        refine aw_getrv (r := 2) dX5_kindsTaken_16 fX5_30 ⟨Nat.le_of_ble_eq_true rfl, Nat.le_of_ble_eq_true rfl⟩ rfl rfl (hF.at 65 0 2 rfl rfl rfl) ?_
        refine aw_getrv (r := 3) dX5_kindsTaken_19 fX5_66 ⟨Nat.le_of_ble_eq_true rfl, Nat.le_of_ble_eq_true rfl⟩ rfl rfl (hF.at 2 0 3 rfl rfl rfl) ?_
        refine aw_iload_n dX5_kindsTaken_22 rfl ?_
        refine aw_aaldv (r := 4 + s) dX5_kindsTaken_23 ⟨Nat.le_of_ble_eq_true rfl, Nat.le_of_ble_eq_true rfl⟩ rfl (by decide) (by omega) (by omega) (by decide) (hF.w hs) ?_
        refine aw_iload dX5_kindsTaken_24 rfl ?_
        refine aw_ialdq (q := 1) (v := I (4 + s) 1) dX5_kindsTaken_26 ⟨by omega, by omega⟩ (sh_w hs) (by omega) (by omega) (by decide) rfl rfl ?_
        refine aw_aload_n dX5_kindsTaken_27 rfl (by decide) ?_
        refine aw_getrv (r := 2) dX5_kindsTaken_28 fX5_30 ⟨Nat.le_of_ble_eq_true rfl, Nat.le_of_ble_eq_true rfl⟩ rfl rfl (hF.at 65 0 2 rfl rfl rfl) ?_
        refine aw_getrv (r := 3) dX5_kindsTaken_31 fX5_66 ⟨Nat.le_of_ble_eq_true rfl, Nat.le_of_ble_eq_true rfl⟩ rfl rfl (hF.at 2 0 3 rfl rfl rfl) ?_
        refine aw_iload_n dX5_kindsTaken_34 rfl ?_
        refine aw_aaldv (r := 4 + s) dX5_kindsTaken_35 ⟨Nat.le_of_ble_eq_true rfl, Nat.le_of_ble_eq_true rfl⟩ rfl (by decide) (by omega) (by omega) (by decide) (hF.w hs) ?_
        refine aw_iload_n dX5_kindsTaken_36 rfl ?_
        refine aw_iconst dX5_kindsTaken_37 ?_
        refine aw_isub dX5_kindsTaken_38 ?_
        refine aw_to (z := (b : Int)) (by omega) ?_
        refine aw_ialdq (q := b) (v := I (4 + s) b) dX5_kindsTaken_39 ⟨by omega, by omega⟩ (sh_w hs) (by omega) (by omega) (by decide) rfl rfl ?_
        refine aw_icmp_lt (tgt := 50) dX5_kindsTaken_40 rfl (by first | assumption | (unfold ab_In at *; omega)) (by first | assumption | (unfold ab_In at *; omega)) (fun c_40 => ?_) (fun c_40 => ?_)
        · refine aw_iinc (ls' := [some (ab_r 65), some (ab_i (s : Int)), some (ab_i ((b : Int) + 1)), some (ab_i 0), some (ab_i 2)]) dX5_kindsTaken_50 (by decide) rfl rfl ?_
          refine aw_goto (tgt := 5) dX5_kindsTaken_53 rfl ?_
          refine aw_iload dX5_kindsTaken_5 rfl ?_
          refine aw_iconst dX5_kindsTaken_7 ?_
          refine aw_icmp_ge (tgt := 56) dX5_kindsTaken_8 rfl ⟨by decide, by decide⟩ ⟨by decide, by decide⟩ (fun c9 => absurd c9 (by decide)) (fun _ => ?_)
          refine aw_iload_n dX5_kindsTaken_11 rfl ?_
          refine aw_if_eq (tgt := 43) dX5_kindsTaken_12 rfl (by first | assumption | (unfold ab_In at *; omega)) (fun c_12 => ?_) (fun c_12 => ?_)
          · exfalso; omega
          · refine aw_aload_n dX5_kindsTaken_15 rfl (by decide) ?_
            refine aw_getrv (r := 2) dX5_kindsTaken_16 fX5_30 ⟨Nat.le_of_ble_eq_true rfl, Nat.le_of_ble_eq_true rfl⟩ rfl rfl (hF.at 65 0 2 rfl rfl rfl) ?_
            refine aw_getrv (r := 3) dX5_kindsTaken_19 fX5_66 ⟨Nat.le_of_ble_eq_true rfl, Nat.le_of_ble_eq_true rfl⟩ rfl rfl (hF.at 2 0 3 rfl rfl rfl) ?_
            refine aw_iload_n dX5_kindsTaken_22 rfl ?_
            refine aw_aaldv (r := 4 + s) dX5_kindsTaken_23 ⟨Nat.le_of_ble_eq_true rfl, Nat.le_of_ble_eq_true rfl⟩ rfl (by decide) (by omega) (by omega) (by decide) (hF.w hs) ?_
            refine aw_iload dX5_kindsTaken_24 rfl ?_
            refine aw_ialdq (q := 2) (v := I (4 + s) 2) dX5_kindsTaken_26 ⟨by omega, by omega⟩ (sh_w hs) (by omega) (by omega) (by decide) rfl rfl ?_
            refine aw_aload_n dX5_kindsTaken_27 rfl (by decide) ?_
            refine aw_getrv (r := 2) dX5_kindsTaken_28 fX5_30 ⟨Nat.le_of_ble_eq_true rfl, Nat.le_of_ble_eq_true rfl⟩ rfl rfl (hF.at 65 0 2 rfl rfl rfl) ?_
            refine aw_getrv (r := 3) dX5_kindsTaken_31 fX5_66 ⟨Nat.le_of_ble_eq_true rfl, Nat.le_of_ble_eq_true rfl⟩ rfl rfl (hF.at 2 0 3 rfl rfl rfl) ?_
            refine aw_iload_n dX5_kindsTaken_34 rfl ?_
            refine aw_aaldv (r := 4 + s) dX5_kindsTaken_35 ⟨Nat.le_of_ble_eq_true rfl, Nat.le_of_ble_eq_true rfl⟩ rfl (by decide) (by omega) (by omega) (by decide) (hF.w hs) ?_
            refine aw_iload_n dX5_kindsTaken_36 rfl ?_
            refine aw_iconst dX5_kindsTaken_37 ?_
            refine aw_isub dX5_kindsTaken_38 ?_
            refine aw_to (z := (b : Int)) (by omega) ?_
            refine aw_ialdq (q := b) (v := I (4 + s) b) dX5_kindsTaken_39 ⟨by omega, by omega⟩ (sh_w hs) (by omega) (by omega) (by decide) rfl rfl ?_
            refine aw_icmp_lt (tgt := 50) dX5_kindsTaken_40 rfl (by first | assumption | (unfold ab_In at *; omega)) (by first | assumption | (unfold ab_In at *; omega)) (fun c_40 => ?_) (fun c_40 => ?_)
            · refine aw_iinc (ls' := [some (ab_r 65), some (ab_i (s : Int)), some (ab_i ((b : Int) + 1)), some (ab_i 0), some (ab_i 3)]) dX5_kindsTaken_50 (by decide) rfl rfl ?_
              refine aw_goto (tgt := 5) dX5_kindsTaken_53 rfl ?_
              refine aw_iload dX5_kindsTaken_5 rfl ?_
              refine aw_iconst dX5_kindsTaken_7 ?_
              refine aw_icmp_ge (tgt := 56) dX5_kindsTaken_8 rfl ⟨by decide, by decide⟩ ⟨by decide, by decide⟩ (fun c9 => absurd c9 (by decide)) (fun _ => ?_)
              refine aw_iload_n dX5_kindsTaken_11 rfl ?_
              refine aw_if_eq (tgt := 43) dX5_kindsTaken_12 rfl (by first | assumption | (unfold ab_In at *; omega)) (fun c_12 => ?_) (fun c_12 => ?_)
              · exfalso; omega
              · refine aw_aload_n dX5_kindsTaken_15 rfl (by decide) ?_
                refine aw_getrv (r := 2) dX5_kindsTaken_16 fX5_30 ⟨Nat.le_of_ble_eq_true rfl, Nat.le_of_ble_eq_true rfl⟩ rfl rfl (hF.at 65 0 2 rfl rfl rfl) ?_
                refine aw_getrv (r := 3) dX5_kindsTaken_19 fX5_66 ⟨Nat.le_of_ble_eq_true rfl, Nat.le_of_ble_eq_true rfl⟩ rfl rfl (hF.at 2 0 3 rfl rfl rfl) ?_
                refine aw_iload_n dX5_kindsTaken_22 rfl ?_
                refine aw_aaldv (r := 4 + s) dX5_kindsTaken_23 ⟨Nat.le_of_ble_eq_true rfl, Nat.le_of_ble_eq_true rfl⟩ rfl (by decide) (by omega) (by omega) (by decide) (hF.w hs) ?_
                refine aw_iload dX5_kindsTaken_24 rfl ?_
                refine aw_ialdq (q := 3) (v := I (4 + s) 3) dX5_kindsTaken_26 ⟨by omega, by omega⟩ (sh_w hs) (by omega) (by omega) (by decide) rfl rfl ?_
                refine aw_aload_n dX5_kindsTaken_27 rfl (by decide) ?_
                refine aw_getrv (r := 2) dX5_kindsTaken_28 fX5_30 ⟨Nat.le_of_ble_eq_true rfl, Nat.le_of_ble_eq_true rfl⟩ rfl rfl (hF.at 65 0 2 rfl rfl rfl) ?_
                refine aw_getrv (r := 3) dX5_kindsTaken_31 fX5_66 ⟨Nat.le_of_ble_eq_true rfl, Nat.le_of_ble_eq_true rfl⟩ rfl rfl (hF.at 2 0 3 rfl rfl rfl) ?_
                refine aw_iload_n dX5_kindsTaken_34 rfl ?_
                refine aw_aaldv (r := 4 + s) dX5_kindsTaken_35 ⟨Nat.le_of_ble_eq_true rfl, Nat.le_of_ble_eq_true rfl⟩ rfl (by decide) (by omega) (by omega) (by decide) (hF.w hs) ?_
                refine aw_iload_n dX5_kindsTaken_36 rfl ?_
                refine aw_iconst dX5_kindsTaken_37 ?_
                refine aw_isub dX5_kindsTaken_38 ?_
                refine aw_to (z := (b : Int)) (by omega) ?_
                refine aw_ialdq (q := b) (v := I (4 + s) b) dX5_kindsTaken_39 ⟨by omega, by omega⟩ (sh_w hs) (by omega) (by omega) (by decide) rfl rfl ?_
                refine aw_icmp_lt (tgt := 50) dX5_kindsTaken_40 rfl (by first | assumption | (unfold ab_In at *; omega)) (by first | assumption | (unfold ab_In at *; omega)) (fun c_40 => ?_) (fun c_40 => ?_)
                · refine aw_iinc (ls' := [some (ab_r 65), some (ab_i (s : Int)), some (ab_i ((b : Int) + 1)), some (ab_i 0), some (ab_i 4)]) dX5_kindsTaken_50 (by decide) rfl rfl ?_
                  refine aw_goto (tgt := 5) dX5_kindsTaken_53 rfl ?_
                  refine aw_iload dX5_kindsTaken_5 rfl ?_
                  refine aw_iconst dX5_kindsTaken_7 ?_
                  refine aw_icmp_ge (tgt := 56) dX5_kindsTaken_8 rfl ⟨by decide, by decide⟩ ⟨by decide, by decide⟩ (fun _ => ?_) (fun c9 => absurd (by decide) c9)
                  refine aw_iload_n dX5_kindsTaken_56 rfl ?_
                  refine aw_ireturn dX5_kindsTaken_57 rfl ?_
                  refine ⟨?_, rfl⟩
                  unfold kmW
                  rw [if_neg (by omega), show b + 1 - 1 = b by omega]
                  (repeat' split) <;> first | rfl | (exfalso; omega)
                · refine aw_iload_n dX5_kindsTaken_43 rfl ?_
                  refine aw_iconst dX5_kindsTaken_44 ?_
                  refine aw_iload dX5_kindsTaken_45 rfl ?_
                  refine aw_ishl dX5_kindsTaken_47 ?_
                  refine aw_ior dX5_kindsTaken_48 ?_
                  refine aw_istore_n (ls' := [some (ab_r 65), some (ab_i (s : Int)), some (ab_i ((b : Int) + 1)), some (ab_i (ab_or 0 (ab_sl 1 3))), some (ab_i 3)]) dX5_kindsTaken_49 (by decide) rfl ?_
                  refine aw_iinc (ls' := [some (ab_r 65), some (ab_i (s : Int)), some (ab_i ((b : Int) + 1)), some (ab_i (ab_or 0 (ab_sl 1 3))), some (ab_i 4)]) dX5_kindsTaken_50 (by decide) rfl rfl ?_
                  refine aw_goto (tgt := 5) dX5_kindsTaken_53 rfl ?_
                  refine aw_iload dX5_kindsTaken_5 rfl ?_
                  refine aw_iconst dX5_kindsTaken_7 ?_
                  refine aw_icmp_ge (tgt := 56) dX5_kindsTaken_8 rfl ⟨by decide, by decide⟩ ⟨by decide, by decide⟩ (fun _ => ?_) (fun c9 => absurd (by decide) c9)
                  refine aw_iload_n dX5_kindsTaken_56 rfl ?_
                  refine aw_ireturn dX5_kindsTaken_57 rfl ?_
                  refine ⟨?_, rfl⟩
                  unfold kmW
                  rw [if_neg (by omega), show b + 1 - 1 = b by omega]
                  (repeat' split) <;> first | rfl | (exfalso; omega)
            · refine aw_iload_n dX5_kindsTaken_43 rfl ?_
              refine aw_iconst dX5_kindsTaken_44 ?_
              refine aw_iload dX5_kindsTaken_45 rfl ?_
              refine aw_ishl dX5_kindsTaken_47 ?_
              refine aw_ior dX5_kindsTaken_48 ?_
              refine aw_istore_n (ls' := [some (ab_r 65), some (ab_i (s : Int)), some (ab_i ((b : Int) + 1)), some (ab_i (ab_or 0 (ab_sl 1 2))), some (ab_i 2)]) dX5_kindsTaken_49 (by decide) rfl ?_
              refine aw_iinc (ls' := [some (ab_r 65), some (ab_i (s : Int)), some (ab_i ((b : Int) + 1)), some (ab_i (ab_or 0 (ab_sl 1 2))), some (ab_i 3)]) dX5_kindsTaken_50 (by decide) rfl rfl ?_
              refine aw_goto (tgt := 5) dX5_kindsTaken_53 rfl ?_
              refine aw_iload dX5_kindsTaken_5 rfl ?_
              refine aw_iconst dX5_kindsTaken_7 ?_
              refine aw_icmp_ge (tgt := 56) dX5_kindsTaken_8 rfl ⟨by decide, by decide⟩ ⟨by decide, by decide⟩ (fun c9 => absurd c9 (by decide)) (fun _ => ?_)
              refine aw_iload_n dX5_kindsTaken_11 rfl ?_
              refine aw_if_eq (tgt := 43) dX5_kindsTaken_12 rfl (by first | assumption | (unfold ab_In at *; omega)) (fun c_12 => ?_) (fun c_12 => ?_)
              · exfalso; omega
              · refine aw_aload_n dX5_kindsTaken_15 rfl (by decide) ?_
                refine aw_getrv (r := 2) dX5_kindsTaken_16 fX5_30 ⟨Nat.le_of_ble_eq_true rfl, Nat.le_of_ble_eq_true rfl⟩ rfl rfl (hF.at 65 0 2 rfl rfl rfl) ?_
                refine aw_getrv (r := 3) dX5_kindsTaken_19 fX5_66 ⟨Nat.le_of_ble_eq_true rfl, Nat.le_of_ble_eq_true rfl⟩ rfl rfl (hF.at 2 0 3 rfl rfl rfl) ?_
                refine aw_iload_n dX5_kindsTaken_22 rfl ?_
                refine aw_aaldv (r := 4 + s) dX5_kindsTaken_23 ⟨Nat.le_of_ble_eq_true rfl, Nat.le_of_ble_eq_true rfl⟩ rfl (by decide) (by omega) (by omega) (by decide) (hF.w hs) ?_
                refine aw_iload dX5_kindsTaken_24 rfl ?_
                refine aw_ialdq (q := 3) (v := I (4 + s) 3) dX5_kindsTaken_26 ⟨by omega, by omega⟩ (sh_w hs) (by omega) (by omega) (by decide) rfl rfl ?_
                refine aw_aload_n dX5_kindsTaken_27 rfl (by decide) ?_
                refine aw_getrv (r := 2) dX5_kindsTaken_28 fX5_30 ⟨Nat.le_of_ble_eq_true rfl, Nat.le_of_ble_eq_true rfl⟩ rfl rfl (hF.at 65 0 2 rfl rfl rfl) ?_
                refine aw_getrv (r := 3) dX5_kindsTaken_31 fX5_66 ⟨Nat.le_of_ble_eq_true rfl, Nat.le_of_ble_eq_true rfl⟩ rfl rfl (hF.at 2 0 3 rfl rfl rfl) ?_
                refine aw_iload_n dX5_kindsTaken_34 rfl ?_
                refine aw_aaldv (r := 4 + s) dX5_kindsTaken_35 ⟨Nat.le_of_ble_eq_true rfl, Nat.le_of_ble_eq_true rfl⟩ rfl (by decide) (by omega) (by omega) (by decide) (hF.w hs) ?_
                refine aw_iload_n dX5_kindsTaken_36 rfl ?_
                refine aw_iconst dX5_kindsTaken_37 ?_
                refine aw_isub dX5_kindsTaken_38 ?_
                refine aw_to (z := (b : Int)) (by omega) ?_
                refine aw_ialdq (q := b) (v := I (4 + s) b) dX5_kindsTaken_39 ⟨by omega, by omega⟩ (sh_w hs) (by omega) (by omega) (by decide) rfl rfl ?_
                refine aw_icmp_lt (tgt := 50) dX5_kindsTaken_40 rfl (by first | assumption | (unfold ab_In at *; omega)) (by first | assumption | (unfold ab_In at *; omega)) (fun c_40 => ?_) (fun c_40 => ?_)
                · refine aw_iinc (ls' := [some (ab_r 65), some (ab_i (s : Int)), some (ab_i ((b : Int) + 1)), some (ab_i (ab_or 0 (ab_sl 1 2))), some (ab_i 4)]) dX5_kindsTaken_50 (by decide) rfl rfl ?_
                  refine aw_goto (tgt := 5) dX5_kindsTaken_53 rfl ?_
                  refine aw_iload dX5_kindsTaken_5 rfl ?_
                  refine aw_iconst dX5_kindsTaken_7 ?_
                  refine aw_icmp_ge (tgt := 56) dX5_kindsTaken_8 rfl ⟨by decide, by decide⟩ ⟨by decide, by decide⟩ (fun _ => ?_) (fun c9 => absurd (by decide) c9)
                  refine aw_iload_n dX5_kindsTaken_56 rfl ?_
                  refine aw_ireturn dX5_kindsTaken_57 rfl ?_
                  refine ⟨?_, rfl⟩
                  unfold kmW
                  rw [if_neg (by omega), show b + 1 - 1 = b by omega]
                  (repeat' split) <;> first | rfl | (exfalso; omega)
                · refine aw_iload_n dX5_kindsTaken_43 rfl ?_
                  refine aw_iconst dX5_kindsTaken_44 ?_
                  refine aw_iload dX5_kindsTaken_45 rfl ?_
                  refine aw_ishl dX5_kindsTaken_47 ?_
                  refine aw_ior dX5_kindsTaken_48 ?_
                  refine aw_istore_n (ls' := [some (ab_r 65), some (ab_i (s : Int)), some (ab_i ((b : Int) + 1)), some (ab_i (ab_or (ab_or 0 (ab_sl 1 2)) (ab_sl 1 3))), some (ab_i 3)]) dX5_kindsTaken_49 (by decide) rfl ?_
                  refine aw_iinc (ls' := [some (ab_r 65), some (ab_i (s : Int)), some (ab_i ((b : Int) + 1)), some (ab_i (ab_or (ab_or 0 (ab_sl 1 2)) (ab_sl 1 3))), some (ab_i 4)]) dX5_kindsTaken_50 (by decide) rfl rfl ?_
                  refine aw_goto (tgt := 5) dX5_kindsTaken_53 rfl ?_
                  refine aw_iload dX5_kindsTaken_5 rfl ?_
                  refine aw_iconst dX5_kindsTaken_7 ?_
                  refine aw_icmp_ge (tgt := 56) dX5_kindsTaken_8 rfl ⟨by decide, by decide⟩ ⟨by decide, by decide⟩ (fun _ => ?_) (fun c9 => absurd (by decide) c9)
                  refine aw_iload_n dX5_kindsTaken_56 rfl ?_
                  refine aw_ireturn dX5_kindsTaken_57 rfl ?_
                  refine ⟨?_, rfl⟩
                  unfold kmW
                  rw [if_neg (by omega), show b + 1 - 1 = b by omega]
                  (repeat' split) <;> first | rfl | (exfalso; omega)
        · refine aw_iload_n dX5_kindsTaken_43 rfl ?_
          refine aw_iconst dX5_kindsTaken_44 ?_
          refine aw_iload dX5_kindsTaken_45 rfl ?_
          refine aw_ishl dX5_kindsTaken_47 ?_
          refine aw_ior dX5_kindsTaken_48 ?_
          refine aw_istore_n (ls' := [some (ab_r 65), some (ab_i (s : Int)), some (ab_i ((b : Int) + 1)), some (ab_i (ab_or 0 (ab_sl 1 1))), some (ab_i 1)]) dX5_kindsTaken_49 (by decide) rfl ?_
          refine aw_iinc (ls' := [some (ab_r 65), some (ab_i (s : Int)), some (ab_i ((b : Int) + 1)), some (ab_i (ab_or 0 (ab_sl 1 1))), some (ab_i 2)]) dX5_kindsTaken_50 (by decide) rfl rfl ?_
          refine aw_goto (tgt := 5) dX5_kindsTaken_53 rfl ?_
          refine aw_iload dX5_kindsTaken_5 rfl ?_
          refine aw_iconst dX5_kindsTaken_7 ?_
          refine aw_icmp_ge (tgt := 56) dX5_kindsTaken_8 rfl ⟨by decide, by decide⟩ ⟨by decide, by decide⟩ (fun c9 => absurd c9 (by decide)) (fun _ => ?_)
          refine aw_iload_n dX5_kindsTaken_11 rfl ?_
          refine aw_if_eq (tgt := 43) dX5_kindsTaken_12 rfl (by first | assumption | (unfold ab_In at *; omega)) (fun c_12 => ?_) (fun c_12 => ?_)
          · exfalso; omega
          · refine aw_aload_n dX5_kindsTaken_15 rfl (by decide) ?_
            refine aw_getrv (r := 2) dX5_kindsTaken_16 fX5_30 ⟨Nat.le_of_ble_eq_true rfl, Nat.le_of_ble_eq_true rfl⟩ rfl rfl (hF.at 65 0 2 rfl rfl rfl) ?_
            refine aw_getrv (r := 3) dX5_kindsTaken_19 fX5_66 ⟨Nat.le_of_ble_eq_true rfl, Nat.le_of_ble_eq_true rfl⟩ rfl rfl (hF.at 2 0 3 rfl rfl rfl) ?_
            refine aw_iload_n dX5_kindsTaken_22 rfl ?_
            refine aw_aaldv (r := 4 + s) dX5_kindsTaken_23 ⟨Nat.le_of_ble_eq_true rfl, Nat.le_of_ble_eq_true rfl⟩ rfl (by decide) (by omega) (by omega) (by decide) (hF.w hs) ?_
            refine aw_iload dX5_kindsTaken_24 rfl ?_
            refine aw_ialdq (q := 2) (v := I (4 + s) 2) dX5_kindsTaken_26 ⟨by omega, by omega⟩ (sh_w hs) (by omega) (by omega) (by decide) rfl rfl ?_
            refine aw_aload_n dX5_kindsTaken_27 rfl (by decide) ?_
            refine aw_getrv (r := 2) dX5_kindsTaken_28 fX5_30 ⟨Nat.le_of_ble_eq_true rfl, Nat.le_of_ble_eq_true rfl⟩ rfl rfl (hF.at 65 0 2 rfl rfl rfl) ?_
            refine aw_getrv (r := 3) dX5_kindsTaken_31 fX5_66 ⟨Nat.le_of_ble_eq_true rfl, Nat.le_of_ble_eq_true rfl⟩ rfl rfl (hF.at 2 0 3 rfl rfl rfl) ?_
            refine aw_iload_n dX5_kindsTaken_34 rfl ?_
            refine aw_aaldv (r := 4 + s) dX5_kindsTaken_35 ⟨Nat.le_of_ble_eq_true rfl, Nat.le_of_ble_eq_true rfl⟩ rfl (by decide) (by omega) (by omega) (by decide) (hF.w hs) ?_
            refine aw_iload_n dX5_kindsTaken_36 rfl ?_
            refine aw_iconst dX5_kindsTaken_37 ?_
            refine aw_isub dX5_kindsTaken_38 ?_
            refine aw_to (z := (b : Int)) (by omega) ?_
            refine aw_ialdq (q := b) (v := I (4 + s) b) dX5_kindsTaken_39 ⟨by omega, by omega⟩ (sh_w hs) (by omega) (by omega) (by decide) rfl rfl ?_
            refine aw_icmp_lt (tgt := 50) dX5_kindsTaken_40 rfl (by first | assumption | (unfold ab_In at *; omega)) (by first | assumption | (unfold ab_In at *; omega)) (fun c_40 => ?_) (fun c_40 => ?_)
            · refine aw_iinc (ls' := [some (ab_r 65), some (ab_i (s : Int)), some (ab_i ((b : Int) + 1)), some (ab_i (ab_or 0 (ab_sl 1 1))), some (ab_i 3)]) dX5_kindsTaken_50 (by decide) rfl rfl ?_
              refine aw_goto (tgt := 5) dX5_kindsTaken_53 rfl ?_
              refine aw_iload dX5_kindsTaken_5 rfl ?_
              refine aw_iconst dX5_kindsTaken_7 ?_
              refine aw_icmp_ge (tgt := 56) dX5_kindsTaken_8 rfl ⟨by decide, by decide⟩ ⟨by decide, by decide⟩ (fun c9 => absurd c9 (by decide)) (fun _ => ?_)
              refine aw_iload_n dX5_kindsTaken_11 rfl ?_
              refine aw_if_eq (tgt := 43) dX5_kindsTaken_12 rfl (by first | assumption | (unfold ab_In at *; omega)) (fun c_12 => ?_) (fun c_12 => ?_)
              · exfalso; omega
              · refine aw_aload_n dX5_kindsTaken_15 rfl (by decide) ?_
                refine aw_getrv (r := 2) dX5_kindsTaken_16 fX5_30 ⟨Nat.le_of_ble_eq_true rfl, Nat.le_of_ble_eq_true rfl⟩ rfl rfl (hF.at 65 0 2 rfl rfl rfl) ?_
                refine aw_getrv (r := 3) dX5_kindsTaken_19 fX5_66 ⟨Nat.le_of_ble_eq_true rfl, Nat.le_of_ble_eq_true rfl⟩ rfl rfl (hF.at 2 0 3 rfl rfl rfl) ?_
                refine aw_iload_n dX5_kindsTaken_22 rfl ?_
                refine aw_aaldv (r := 4 + s) dX5_kindsTaken_23 ⟨Nat.le_of_ble_eq_true rfl, Nat.le_of_ble_eq_true rfl⟩ rfl (by decide) (by omega) (by omega) (by decide) (hF.w hs) ?_
                refine aw_iload dX5_kindsTaken_24 rfl ?_
                refine aw_ialdq (q := 3) (v := I (4 + s) 3) dX5_kindsTaken_26 ⟨by omega, by omega⟩ (sh_w hs) (by omega) (by omega) (by decide) rfl rfl ?_
                refine aw_aload_n dX5_kindsTaken_27 rfl (by decide) ?_
                refine aw_getrv (r := 2) dX5_kindsTaken_28 fX5_30 ⟨Nat.le_of_ble_eq_true rfl, Nat.le_of_ble_eq_true rfl⟩ rfl rfl (hF.at 65 0 2 rfl rfl rfl) ?_
                refine aw_getrv (r := 3) dX5_kindsTaken_31 fX5_66 ⟨Nat.le_of_ble_eq_true rfl, Nat.le_of_ble_eq_true rfl⟩ rfl rfl (hF.at 2 0 3 rfl rfl rfl) ?_
                refine aw_iload_n dX5_kindsTaken_34 rfl ?_
                refine aw_aaldv (r := 4 + s) dX5_kindsTaken_35 ⟨Nat.le_of_ble_eq_true rfl, Nat.le_of_ble_eq_true rfl⟩ rfl (by decide) (by omega) (by omega) (by decide) (hF.w hs) ?_
                refine aw_iload_n dX5_kindsTaken_36 rfl ?_
                refine aw_iconst dX5_kindsTaken_37 ?_
                refine aw_isub dX5_kindsTaken_38 ?_
                refine aw_to (z := (b : Int)) (by omega) ?_
                refine aw_ialdq (q := b) (v := I (4 + s) b) dX5_kindsTaken_39 ⟨by omega, by omega⟩ (sh_w hs) (by omega) (by omega) (by decide) rfl rfl ?_
                refine aw_icmp_lt (tgt := 50) dX5_kindsTaken_40 rfl (by first | assumption | (unfold ab_In at *; omega)) (by first | assumption | (unfold ab_In at *; omega)) (fun c_40 => ?_) (fun c_40 => ?_)
                · refine aw_iinc (ls' := [some (ab_r 65), some (ab_i (s : Int)), some (ab_i ((b : Int) + 1)), some (ab_i (ab_or 0 (ab_sl 1 1))), some (ab_i 4)]) dX5_kindsTaken_50 (by decide) rfl rfl ?_
                  refine aw_goto (tgt := 5) dX5_kindsTaken_53 rfl ?_
                  refine aw_iload dX5_kindsTaken_5 rfl ?_
                  refine aw_iconst dX5_kindsTaken_7 ?_
                  refine aw_icmp_ge (tgt := 56) dX5_kindsTaken_8 rfl ⟨by decide, by decide⟩ ⟨by decide, by decide⟩ (fun _ => ?_) (fun c9 => absurd (by decide) c9)
                  refine aw_iload_n dX5_kindsTaken_56 rfl ?_
                  refine aw_ireturn dX5_kindsTaken_57 rfl ?_
                  refine ⟨?_, rfl⟩
                  unfold kmW
                  rw [if_neg (by omega), show b + 1 - 1 = b by omega]
                  (repeat' split) <;> first | rfl | (exfalso; omega)
                · refine aw_iload_n dX5_kindsTaken_43 rfl ?_
                  refine aw_iconst dX5_kindsTaken_44 ?_
                  refine aw_iload dX5_kindsTaken_45 rfl ?_
                  refine aw_ishl dX5_kindsTaken_47 ?_
                  refine aw_ior dX5_kindsTaken_48 ?_
                  refine aw_istore_n (ls' := [some (ab_r 65), some (ab_i (s : Int)), some (ab_i ((b : Int) + 1)), some (ab_i (ab_or (ab_or 0 (ab_sl 1 1)) (ab_sl 1 3))), some (ab_i 3)]) dX5_kindsTaken_49 (by decide) rfl ?_
                  refine aw_iinc (ls' := [some (ab_r 65), some (ab_i (s : Int)), some (ab_i ((b : Int) + 1)), some (ab_i (ab_or (ab_or 0 (ab_sl 1 1)) (ab_sl 1 3))), some (ab_i 4)]) dX5_kindsTaken_50 (by decide) rfl rfl ?_
                  refine aw_goto (tgt := 5) dX5_kindsTaken_53 rfl ?_
                  refine aw_iload dX5_kindsTaken_5 rfl ?_
                  refine aw_iconst dX5_kindsTaken_7 ?_
                  refine aw_icmp_ge (tgt := 56) dX5_kindsTaken_8 rfl ⟨by decide, by decide⟩ ⟨by decide, by decide⟩ (fun _ => ?_) (fun c9 => absurd (by decide) c9)
                  refine aw_iload_n dX5_kindsTaken_56 rfl ?_
                  refine aw_ireturn dX5_kindsTaken_57 rfl ?_
                  refine ⟨?_, rfl⟩
                  unfold kmW
                  rw [if_neg (by omega), show b + 1 - 1 = b by omega]
                  (repeat' split) <;> first | rfl | (exfalso; omega)
            · refine aw_iload_n dX5_kindsTaken_43 rfl ?_
              refine aw_iconst dX5_kindsTaken_44 ?_
              refine aw_iload dX5_kindsTaken_45 rfl ?_
              refine aw_ishl dX5_kindsTaken_47 ?_
              refine aw_ior dX5_kindsTaken_48 ?_
              refine aw_istore_n (ls' := [some (ab_r 65), some (ab_i (s : Int)), some (ab_i ((b : Int) + 1)), some (ab_i (ab_or (ab_or 0 (ab_sl 1 1)) (ab_sl 1 2))), some (ab_i 2)]) dX5_kindsTaken_49 (by decide) rfl ?_
              refine aw_iinc (ls' := [some (ab_r 65), some (ab_i (s : Int)), some (ab_i ((b : Int) + 1)), some (ab_i (ab_or (ab_or 0 (ab_sl 1 1)) (ab_sl 1 2))), some (ab_i 3)]) dX5_kindsTaken_50 (by decide) rfl rfl ?_
              refine aw_goto (tgt := 5) dX5_kindsTaken_53 rfl ?_
              refine aw_iload dX5_kindsTaken_5 rfl ?_
              refine aw_iconst dX5_kindsTaken_7 ?_
              refine aw_icmp_ge (tgt := 56) dX5_kindsTaken_8 rfl ⟨by decide, by decide⟩ ⟨by decide, by decide⟩ (fun c9 => absurd c9 (by decide)) (fun _ => ?_)
              refine aw_iload_n dX5_kindsTaken_11 rfl ?_
              refine aw_if_eq (tgt := 43) dX5_kindsTaken_12 rfl (by first | assumption | (unfold ab_In at *; omega)) (fun c_12 => ?_) (fun c_12 => ?_)
              · exfalso; omega
              · refine aw_aload_n dX5_kindsTaken_15 rfl (by decide) ?_
                refine aw_getrv (r := 2) dX5_kindsTaken_16 fX5_30 ⟨Nat.le_of_ble_eq_true rfl, Nat.le_of_ble_eq_true rfl⟩ rfl rfl (hF.at 65 0 2 rfl rfl rfl) ?_
                refine aw_getrv (r := 3) dX5_kindsTaken_19 fX5_66 ⟨Nat.le_of_ble_eq_true rfl, Nat.le_of_ble_eq_true rfl⟩ rfl rfl (hF.at 2 0 3 rfl rfl rfl) ?_
                refine aw_iload_n dX5_kindsTaken_22 rfl ?_
                refine aw_aaldv (r := 4 + s) dX5_kindsTaken_23 ⟨Nat.le_of_ble_eq_true rfl, Nat.le_of_ble_eq_true rfl⟩ rfl (by decide) (by omega) (by omega) (by decide) (hF.w hs) ?_
                refine aw_iload dX5_kindsTaken_24 rfl ?_
                refine aw_ialdq (q := 3) (v := I (4 + s) 3) dX5_kindsTaken_26 ⟨by omega, by omega⟩ (sh_w hs) (by omega) (by omega) (by decide) rfl rfl ?_
                refine aw_aload_n dX5_kindsTaken_27 rfl (by decide) ?_
                refine aw_getrv (r := 2) dX5_kindsTaken_28 fX5_30 ⟨Nat.le_of_ble_eq_true rfl, Nat.le_of_ble_eq_true rfl⟩ rfl rfl (hF.at 65 0 2 rfl rfl rfl) ?_
                refine aw_getrv (r := 3) dX5_kindsTaken_31 fX5_66 ⟨Nat.le_of_ble_eq_true rfl, Nat.le_of_ble_eq_true rfl⟩ rfl rfl (hF.at 2 0 3 rfl rfl rfl) ?_
                refine aw_iload_n dX5_kindsTaken_34 rfl ?_
                refine aw_aaldv (r := 4 + s) dX5_kindsTaken_35 ⟨Nat.le_of_ble_eq_true rfl, Nat.le_of_ble_eq_true rfl⟩ rfl (by decide) (by omega) (by omega) (by decide) (hF.w hs) ?_
                refine aw_iload_n dX5_kindsTaken_36 rfl ?_
                refine aw_iconst dX5_kindsTaken_37 ?_
                refine aw_isub dX5_kindsTaken_38 ?_
                refine aw_to (z := (b : Int)) (by omega) ?_
                refine aw_ialdq (q := b) (v := I (4 + s) b) dX5_kindsTaken_39 ⟨by omega, by omega⟩ (sh_w hs) (by omega) (by omega) (by decide) rfl rfl ?_
                refine aw_icmp_lt (tgt := 50) dX5_kindsTaken_40 rfl (by first | assumption | (unfold ab_In at *; omega)) (by first | assumption | (unfold ab_In at *; omega)) (fun c_40 => ?_) (fun c_40 => ?_)
                · refine aw_iinc (ls' := [some (ab_r 65), some (ab_i (s : Int)), some (ab_i ((b : Int) + 1)), some (ab_i (ab_or (ab_or 0 (ab_sl 1 1)) (ab_sl 1 2))), some (ab_i 4)]) dX5_kindsTaken_50 (by decide) rfl rfl ?_
                  refine aw_goto (tgt := 5) dX5_kindsTaken_53 rfl ?_
                  refine aw_iload dX5_kindsTaken_5 rfl ?_
                  refine aw_iconst dX5_kindsTaken_7 ?_
                  refine aw_icmp_ge (tgt := 56) dX5_kindsTaken_8 rfl ⟨by decide, by decide⟩ ⟨by decide, by decide⟩ (fun _ => ?_) (fun c9 => absurd (by decide) c9)
                  refine aw_iload_n dX5_kindsTaken_56 rfl ?_
                  refine aw_ireturn dX5_kindsTaken_57 rfl ?_
                  refine ⟨?_, rfl⟩
                  unfold kmW
                  rw [if_neg (by omega), show b + 1 - 1 = b by omega]
                  (repeat' split) <;> first | rfl | (exfalso; omega)
                · refine aw_iload_n dX5_kindsTaken_43 rfl ?_
                  refine aw_iconst dX5_kindsTaken_44 ?_
                  refine aw_iload dX5_kindsTaken_45 rfl ?_
                  refine aw_ishl dX5_kindsTaken_47 ?_
                  refine aw_ior dX5_kindsTaken_48 ?_
                  refine aw_istore_n (ls' := [some (ab_r 65), some (ab_i (s : Int)), some (ab_i ((b : Int) + 1)), some (ab_i (ab_or (ab_or (ab_or 0 (ab_sl 1 1)) (ab_sl 1 2)) (ab_sl 1 3))), some (ab_i 3)]) dX5_kindsTaken_49 (by decide) rfl ?_
                  refine aw_iinc (ls' := [some (ab_r 65), some (ab_i (s : Int)), some (ab_i ((b : Int) + 1)), some (ab_i (ab_or (ab_or (ab_or 0 (ab_sl 1 1)) (ab_sl 1 2)) (ab_sl 1 3))), some (ab_i 4)]) dX5_kindsTaken_50 (by decide) rfl rfl ?_
                  refine aw_goto (tgt := 5) dX5_kindsTaken_53 rfl ?_
                  refine aw_iload dX5_kindsTaken_5 rfl ?_
                  refine aw_iconst dX5_kindsTaken_7 ?_
                  refine aw_icmp_ge (tgt := 56) dX5_kindsTaken_8 rfl ⟨by decide, by decide⟩ ⟨by decide, by decide⟩ (fun _ => ?_) (fun c9 => absurd (by decide) c9)
                  refine aw_iload_n dX5_kindsTaken_56 rfl ?_
                  refine aw_ireturn dX5_kindsTaken_57 rfl ?_
                  refine ⟨?_, rfl⟩
                  unfold kmW
                  rw [if_neg (by omega), show b + 1 - 1 = b by omega]
                  (repeat' split) <;> first | rfl | (exfalso; omega)
    · refine aw_iload_n dX5_kindsTaken_43 rfl ?_
      refine aw_iconst dX5_kindsTaken_44 ?_
      refine aw_iload dX5_kindsTaken_45 rfl ?_
      refine aw_ishl dX5_kindsTaken_47 ?_
      refine aw_ior dX5_kindsTaken_48 ?_
      refine aw_istore_n (ls' := [some (ab_r 65), some (ab_i (s : Int)), some (ab_i ((b : Int) + 1)), some (ab_i (ab_or 0 (ab_sl 1 0))), some (ab_i 0)]) dX5_kindsTaken_49 (by decide) rfl ?_
      refine aw_iinc (ls' := [some (ab_r 65), some (ab_i (s : Int)), some (ab_i ((b : Int) + 1)), some (ab_i (ab_or 0 (ab_sl 1 0))), some (ab_i 1)]) dX5_kindsTaken_50 (by decide) rfl rfl ?_
      refine aw_goto (tgt := 5) dX5_kindsTaken_53 rfl ?_
      refine aw_iload dX5_kindsTaken_5 rfl ?_
      refine aw_iconst dX5_kindsTaken_7 ?_
      refine aw_icmp_ge (tgt := 56) dX5_kindsTaken_8 rfl ⟨by decide, by decide⟩ ⟨by decide, by decide⟩ (fun c9 => absurd c9 (by decide)) (fun _ => ?_)
      refine aw_iload_n dX5_kindsTaken_11 rfl ?_
      refine aw_if_eq (tgt := 43) dX5_kindsTaken_12 rfl (by first | assumption | (unfold ab_In at *; omega)) (fun c_12 => ?_) (fun c_12 => ?_)
      · exfalso; omega
      · refine aw_aload_n dX5_kindsTaken_15 rfl (by decide) ?_
        refine aw_getrv (r := 2) dX5_kindsTaken_16 fX5_30 ⟨Nat.le_of_ble_eq_true rfl, Nat.le_of_ble_eq_true rfl⟩ rfl rfl (hF.at 65 0 2 rfl rfl rfl) ?_
        refine aw_getrv (r := 3) dX5_kindsTaken_19 fX5_66 ⟨Nat.le_of_ble_eq_true rfl, Nat.le_of_ble_eq_true rfl⟩ rfl rfl (hF.at 2 0 3 rfl rfl rfl) ?_
        refine aw_iload_n dX5_kindsTaken_22 rfl ?_
        refine aw_aaldv (r := 4 + s) dX5_kindsTaken_23 ⟨Nat.le_of_ble_eq_true rfl, Nat.le_of_ble_eq_true rfl⟩ rfl (by decide) (by omega) (by omega) (by decide) (hF.w hs) ?_
        refine aw_iload dX5_kindsTaken_24 rfl ?_
        refine aw_ialdq (q := 1) (v := I (4 + s) 1) dX5_kindsTaken_26 ⟨by omega, by omega⟩ (sh_w hs) (by omega) (by omega) (by decide) rfl rfl ?_
        refine aw_aload_n dX5_kindsTaken_27 rfl (by decide) ?_
        refine aw_getrv (r := 2) dX5_kindsTaken_28 fX5_30 ⟨Nat.le_of_ble_eq_true rfl, Nat.le_of_ble_eq_true rfl⟩ rfl rfl (hF.at 65 0 2 rfl rfl rfl) ?_
        refine aw_getrv (r := 3) dX5_kindsTaken_31 fX5_66 ⟨Nat.le_of_ble_eq_true rfl, Nat.le_of_ble_eq_true rfl⟩ rfl rfl (hF.at 2 0 3 rfl rfl rfl) ?_
        refine aw_iload_n dX5_kindsTaken_34 rfl ?_
        refine aw_aaldv (r := 4 + s) dX5_kindsTaken_35 ⟨Nat.le_of_ble_eq_true rfl, Nat.le_of_ble_eq_true rfl⟩ rfl (by decide) (by omega) (by omega) (by decide) (hF.w hs) ?_
        refine aw_iload_n dX5_kindsTaken_36 rfl ?_
        refine aw_iconst dX5_kindsTaken_37 ?_
        refine aw_isub dX5_kindsTaken_38 ?_
        refine aw_to (z := (b : Int)) (by omega) ?_
        refine aw_ialdq (q := b) (v := I (4 + s) b) dX5_kindsTaken_39 ⟨by omega, by omega⟩ (sh_w hs) (by omega) (by omega) (by decide) rfl rfl ?_
        refine aw_icmp_lt (tgt := 50) dX5_kindsTaken_40 rfl (by first | assumption | (unfold ab_In at *; omega)) (by first | assumption | (unfold ab_In at *; omega)) (fun c_40 => ?_) (fun c_40 => ?_)
        · refine aw_iinc (ls' := [some (ab_r 65), some (ab_i (s : Int)), some (ab_i ((b : Int) + 1)), some (ab_i (ab_or 0 (ab_sl 1 0))), some (ab_i 2)]) dX5_kindsTaken_50 (by decide) rfl rfl ?_
          refine aw_goto (tgt := 5) dX5_kindsTaken_53 rfl ?_
          refine aw_iload dX5_kindsTaken_5 rfl ?_
          refine aw_iconst dX5_kindsTaken_7 ?_
          refine aw_icmp_ge (tgt := 56) dX5_kindsTaken_8 rfl ⟨by decide, by decide⟩ ⟨by decide, by decide⟩ (fun c9 => absurd c9 (by decide)) (fun _ => ?_)
          refine aw_iload_n dX5_kindsTaken_11 rfl ?_
          refine aw_if_eq (tgt := 43) dX5_kindsTaken_12 rfl (by first | assumption | (unfold ab_In at *; omega)) (fun c_12 => ?_) (fun c_12 => ?_)
          · exfalso; omega
          · refine aw_aload_n dX5_kindsTaken_15 rfl (by decide) ?_
            refine aw_getrv (r := 2) dX5_kindsTaken_16 fX5_30 ⟨Nat.le_of_ble_eq_true rfl, Nat.le_of_ble_eq_true rfl⟩ rfl rfl (hF.at 65 0 2 rfl rfl rfl) ?_
            refine aw_getrv (r := 3) dX5_kindsTaken_19 fX5_66 ⟨Nat.le_of_ble_eq_true rfl, Nat.le_of_ble_eq_true rfl⟩ rfl rfl (hF.at 2 0 3 rfl rfl rfl) ?_
            refine aw_iload_n dX5_kindsTaken_22 rfl ?_
            refine aw_aaldv (r := 4 + s) dX5_kindsTaken_23 ⟨Nat.le_of_ble_eq_true rfl, Nat.le_of_ble_eq_true rfl⟩ rfl (by decide) (by omega) (by omega) (by decide) (hF.w hs) ?_
            refine aw_iload dX5_kindsTaken_24 rfl ?_
            refine aw_ialdq (q := 2) (v := I (4 + s) 2) dX5_kindsTaken_26 ⟨by omega, by omega⟩ (sh_w hs) (by omega) (by omega) (by decide) rfl rfl ?_
            refine aw_aload_n dX5_kindsTaken_27 rfl (by decide) ?_
            refine aw_getrv (r := 2) dX5_kindsTaken_28 fX5_30 ⟨Nat.le_of_ble_eq_true rfl, Nat.le_of_ble_eq_true rfl⟩ rfl rfl (hF.at 65 0 2 rfl rfl rfl) ?_
            refine aw_getrv (r := 3) dX5_kindsTaken_31 fX5_66 ⟨Nat.le_of_ble_eq_true rfl, Nat.le_of_ble_eq_true rfl⟩ rfl rfl (hF.at 2 0 3 rfl rfl rfl) ?_
            refine aw_iload_n dX5_kindsTaken_34 rfl ?_
            refine aw_aaldv (r := 4 + s) dX5_kindsTaken_35 ⟨Nat.le_of_ble_eq_true rfl, Nat.le_of_ble_eq_true rfl⟩ rfl (by decide) (by omega) (by omega) (by decide) (hF.w hs) ?_
            refine aw_iload_n dX5_kindsTaken_36 rfl ?_
            refine aw_iconst dX5_kindsTaken_37 ?_
            refine aw_isub dX5_kindsTaken_38 ?_
            refine aw_to (z := (b : Int)) (by omega) ?_
            refine aw_ialdq (q := b) (v := I (4 + s) b) dX5_kindsTaken_39 ⟨by omega, by omega⟩ (sh_w hs) (by omega) (by omega) (by decide) rfl rfl ?_
            refine aw_icmp_lt (tgt := 50) dX5_kindsTaken_40 rfl (by first | assumption | (unfold ab_In at *; omega)) (by first | assumption | (unfold ab_In at *; omega)) (fun c_40 => ?_) (fun c_40 => ?_)
            · refine aw_iinc (ls' := [some (ab_r 65), some (ab_i (s : Int)), some (ab_i ((b : Int) + 1)), some (ab_i (ab_or 0 (ab_sl 1 0))), some (ab_i 3)]) dX5_kindsTaken_50 (by decide) rfl rfl ?_
              refine aw_goto (tgt := 5) dX5_kindsTaken_53 rfl ?_
              refine aw_iload dX5_kindsTaken_5 rfl ?_
              refine aw_iconst dX5_kindsTaken_7 ?_
              refine aw_icmp_ge (tgt := 56) dX5_kindsTaken_8 rfl ⟨by decide, by decide⟩ ⟨by decide, by decide⟩ (fun c9 => absurd c9 (by decide)) (fun _ => ?_)
              refine aw_iload_n dX5_kindsTaken_11 rfl ?_
              refine aw_if_eq (tgt := 43) dX5_kindsTaken_12 rfl (by first | assumption | (unfold ab_In at *; omega)) (fun c_12 => ?_) (fun c_12 => ?_)
              · exfalso; omega
              · refine aw_aload_n dX5_kindsTaken_15 rfl (by decide) ?_
                refine aw_getrv (r := 2) dX5_kindsTaken_16 fX5_30 ⟨Nat.le_of_ble_eq_true rfl, Nat.le_of_ble_eq_true rfl⟩ rfl rfl (hF.at 65 0 2 rfl rfl rfl) ?_
                refine aw_getrv (r := 3) dX5_kindsTaken_19 fX5_66 ⟨Nat.le_of_ble_eq_true rfl, Nat.le_of_ble_eq_true rfl⟩ rfl rfl (hF.at 2 0 3 rfl rfl rfl) ?_
                refine aw_iload_n dX5_kindsTaken_22 rfl ?_
                refine aw_aaldv (r := 4 + s) dX5_kindsTaken_23 ⟨Nat.le_of_ble_eq_true rfl, Nat.le_of_ble_eq_true rfl⟩ rfl (by decide) (by omega) (by omega) (by decide) (hF.w hs) ?_
                refine aw_iload dX5_kindsTaken_24 rfl ?_
                refine aw_ialdq (q := 3) (v := I (4 + s) 3) dX5_kindsTaken_26 ⟨by omega, by omega⟩ (sh_w hs) (by omega) (by omega) (by decide) rfl rfl ?_
                refine aw_aload_n dX5_kindsTaken_27 rfl (by decide) ?_
                refine aw_getrv (r := 2) dX5_kindsTaken_28 fX5_30 ⟨Nat.le_of_ble_eq_true rfl, Nat.le_of_ble_eq_true rfl⟩ rfl rfl (hF.at 65 0 2 rfl rfl rfl) ?_
                refine aw_getrv (r := 3) dX5_kindsTaken_31 fX5_66 ⟨Nat.le_of_ble_eq_true rfl, Nat.le_of_ble_eq_true rfl⟩ rfl rfl (hF.at 2 0 3 rfl rfl rfl) ?_
                refine aw_iload_n dX5_kindsTaken_34 rfl ?_
                refine aw_aaldv (r := 4 + s) dX5_kindsTaken_35 ⟨Nat.le_of_ble_eq_true rfl, Nat.le_of_ble_eq_true rfl⟩ rfl (by decide) (by omega) (by omega) (by decide) (hF.w hs) ?_
                refine aw_iload_n dX5_kindsTaken_36 rfl ?_
                refine aw_iconst dX5_kindsTaken_37 ?_
                refine aw_isub dX5_kindsTaken_38 ?_
                refine aw_to (z := (b : Int)) (by omega) ?_
                refine aw_ialdq (q := b) (v := I (4 + s) b) dX5_kindsTaken_39 ⟨by omega, by omega⟩ (sh_w hs) (by omega) (by omega) (by decide) rfl rfl ?_
                refine aw_icmp_lt (tgt := 50) dX5_kindsTaken_40 rfl (by first | assumption | (unfold ab_In at *; omega)) (by first | assumption | (unfold ab_In at *; omega)) (fun c_40 => ?_) (fun c_40 => ?_)
                · refine aw_iinc (ls' := [some (ab_r 65), some (ab_i (s : Int)), some (ab_i ((b : Int) + 1)), some (ab_i (ab_or 0 (ab_sl 1 0))), some (ab_i 4)]) dX5_kindsTaken_50 (by decide) rfl rfl ?_
                  refine aw_goto (tgt := 5) dX5_kindsTaken_53 rfl ?_
                  refine aw_iload dX5_kindsTaken_5 rfl ?_
                  refine aw_iconst dX5_kindsTaken_7 ?_
                  refine aw_icmp_ge (tgt := 56) dX5_kindsTaken_8 rfl ⟨by decide, by decide⟩ ⟨by decide, by decide⟩ (fun _ => ?_) (fun c9 => absurd (by decide) c9)
                  refine aw_iload_n dX5_kindsTaken_56 rfl ?_
                  refine aw_ireturn dX5_kindsTaken_57 rfl ?_
                  refine ⟨?_, rfl⟩
                  unfold kmW
                  rw [if_neg (by omega), show b + 1 - 1 = b by omega]
                  (repeat' split) <;> first | rfl | (exfalso; omega)
                · refine aw_iload_n dX5_kindsTaken_43 rfl ?_
                  refine aw_iconst dX5_kindsTaken_44 ?_
                  refine aw_iload dX5_kindsTaken_45 rfl ?_
                  refine aw_ishl dX5_kindsTaken_47 ?_
                  refine aw_ior dX5_kindsTaken_48 ?_
                  refine aw_istore_n (ls' := [some (ab_r 65), some (ab_i (s : Int)), some (ab_i ((b : Int) + 1)), some (ab_i (ab_or (ab_or 0 (ab_sl 1 0)) (ab_sl 1 3))), some (ab_i 3)]) dX5_kindsTaken_49 (by decide) rfl ?_
                  refine aw_iinc (ls' := [some (ab_r 65), some (ab_i (s : Int)), some (ab_i ((b : Int) + 1)), some (ab_i (ab_or (ab_or 0 (ab_sl 1 0)) (ab_sl 1 3))), some (ab_i 4)]) dX5_kindsTaken_50 (by decide) rfl rfl ?_
                  refine aw_goto (tgt := 5) dX5_kindsTaken_53 rfl ?_
                  refine aw_iload dX5_kindsTaken_5 rfl ?_
                  refine aw_iconst dX5_kindsTaken_7 ?_
                  refine aw_icmp_ge (tgt := 56) dX5_kindsTaken_8 rfl ⟨by decide, by decide⟩ ⟨by decide, by decide⟩ (fun _ => ?_) (fun c9 => absurd (by decide) c9)
                  refine aw_iload_n dX5_kindsTaken_56 rfl ?_
                  refine aw_ireturn dX5_kindsTaken_57 rfl ?_
                  refine ⟨?_, rfl⟩
                  unfold kmW
                  rw [if_neg (by omega), show b + 1 - 1 = b by omega]
                  (repeat' split) <;> first | rfl | (exfalso; omega)
            · refine aw_iload_n dX5_kindsTaken_43 rfl ?_
              refine aw_iconst dX5_kindsTaken_44 ?_
              refine aw_iload dX5_kindsTaken_45 rfl ?_
              refine aw_ishl dX5_kindsTaken_47 ?_
              refine aw_ior dX5_kindsTaken_48 ?_
              refine aw_istore_n (ls' := [some (ab_r 65), some (ab_i (s : Int)), some (ab_i ((b : Int) + 1)), some (ab_i (ab_or (ab_or 0 (ab_sl 1 0)) (ab_sl 1 2))), some (ab_i 2)]) dX5_kindsTaken_49 (by decide) rfl ?_
              refine aw_iinc (ls' := [some (ab_r 65), some (ab_i (s : Int)), some (ab_i ((b : Int) + 1)), some (ab_i (ab_or (ab_or 0 (ab_sl 1 0)) (ab_sl 1 2))), some (ab_i 3)]) dX5_kindsTaken_50 (by decide) rfl rfl ?_
              refine aw_goto (tgt := 5) dX5_kindsTaken_53 rfl ?_
              refine aw_iload dX5_kindsTaken_5 rfl ?_
              refine aw_iconst dX5_kindsTaken_7 ?_
              refine aw_icmp_ge (tgt := 56) dX5_kindsTaken_8 rfl ⟨by decide, by decide⟩ ⟨by decide, by decide⟩ (fun c9 => absurd c9 (by decide)) (fun _ => ?_)
              refine aw_iload_n dX5_kindsTaken_11 rfl ?_
              refine aw_if_eq (tgt := 43) dX5_kindsTaken_12 rfl (by first | assumption | (unfold ab_In at *; omega)) (fun c_12 => ?_) (fun c_12 => ?_)
              · exfalso; omega
              · refine aw_aload_n dX5_kindsTaken_15 rfl (by decide) ?_
                refine aw_getrv (r := 2) dX5_kindsTaken_16 fX5_30 ⟨Nat.le_of_ble_eq_true rfl, Nat.le_of_ble_eq_true rfl⟩ rfl rfl (hF.at 65 0 2 rfl rfl rfl) ?_
                refine aw_getrv (r := 3) dX5_kindsTaken_19 fX5_66 ⟨Nat.le_of_ble_eq_true rfl, Nat.le_of_ble_eq_true rfl⟩ rfl rfl (hF.at 2 0 3 rfl rfl rfl) ?_
                refine aw_iload_n dX5_kindsTaken_22 rfl ?_
                refine aw_aaldv (r := 4 + s) dX5_kindsTaken_23 ⟨Nat.le_of_ble_eq_true rfl, Nat.le_of_ble_eq_true rfl⟩ rfl (by decide) (by omega) (by omega) (by decide) (hF.w hs) ?_
                refine aw_iload dX5_kindsTaken_24 rfl ?_
                refine aw_ialdq (q := 3) (v := I (4 + s) 3) dX5_kindsTaken_26 ⟨by omega, by omega⟩ (sh_w hs) (by omega) (by omega) (by decide) rfl rfl ?_
                refine aw_aload_n dX5_kindsTaken_27 rfl (by decide) ?_
                refine aw_getrv (r := 2) dX5_kindsTaken_28 fX5_30 ⟨Nat.le_of_ble_eq_true rfl, Nat.le_of_ble_eq_true rfl⟩ rfl rfl (hF.at 65 0 2 rfl rfl rfl) ?_
                refine aw_getrv (r := 3) dX5_kindsTaken_31 fX5_66 ⟨Nat.le_of_ble_eq_true rfl, Nat.le_of_ble_eq_true rfl⟩ rfl rfl (hF.at 2 0 3 rfl rfl rfl) ?_
                refine aw_iload_n dX5_kindsTaken_34 rfl ?_
                refine aw_aaldv (r := 4 + s) dX5_kindsTaken_35 ⟨Nat.le_of_ble_eq_true rfl, Nat.le_of_ble_eq_true rfl⟩ rfl (by decide) (by omega) (by omega) (by decide) (hF.w hs) ?_
                refine aw_iload_n dX5_kindsTaken_36 rfl ?_
                refine aw_iconst dX5_kindsTaken_37 ?_
                refine aw_isub dX5_kindsTaken_38 ?_
                refine aw_to (z := (b : Int)) (by omega) ?_
                refine aw_ialdq (q := b) (v := I (4 + s) b) dX5_kindsTaken_39 ⟨by omega, by omega⟩ (sh_w hs) (by omega) (by omega) (by decide) rfl rfl ?_
                refine aw_icmp_lt (tgt := 50) dX5_kindsTaken_40 rfl (by first | assumption | (unfold ab_In at *; omega)) (by first | assumption | (unfold ab_In at *; omega)) (fun c_40 => ?_) (fun c_40 => ?_)
                · refine aw_iinc (ls' := [some (ab_r 65), some (ab_i (s : Int)), some (ab_i ((b : Int) + 1)), some (ab_i (ab_or (ab_or 0 (ab_sl 1 0)) (ab_sl 1 2))), some (ab_i 4)]) dX5_kindsTaken_50 (by decide) rfl rfl ?_
                  refine aw_goto (tgt := 5) dX5_kindsTaken_53 rfl ?_
                  refine aw_iload dX5_kindsTaken_5 rfl ?_
                  refine aw_iconst dX5_kindsTaken_7 ?_
                  refine aw_icmp_ge (tgt := 56) dX5_kindsTaken_8 rfl ⟨by decide, by decide⟩ ⟨by decide, by decide⟩ (fun _ => ?_) (fun c9 => absurd (by decide) c9)
                  refine aw_iload_n dX5_kindsTaken_56 rfl ?_
                  refine aw_ireturn dX5_kindsTaken_57 rfl ?_
                  refine ⟨?_, rfl⟩
                  unfold kmW
                  rw [if_neg (by omega), show b + 1 - 1 = b by omega]
                  (repeat' split) <;> first | rfl | (exfalso; omega)
                · refine aw_iload_n dX5_kindsTaken_43 rfl ?_
                  refine aw_iconst dX5_kindsTaken_44 ?_
                  refine aw_iload dX5_kindsTaken_45 rfl ?_
                  refine aw_ishl dX5_kindsTaken_47 ?_
                  refine aw_ior dX5_kindsTaken_48 ?_
                  refine aw_istore_n (ls' := [some (ab_r 65), some (ab_i (s : Int)), some (ab_i ((b : Int) + 1)), some (ab_i (ab_or (ab_or (ab_or 0 (ab_sl 1 0)) (ab_sl 1 2)) (ab_sl 1 3))), some (ab_i 3)]) dX5_kindsTaken_49 (by decide) rfl ?_
                  refine aw_iinc (ls' := [some (ab_r 65), some (ab_i (s : Int)), some (ab_i ((b : Int) + 1)), some (ab_i (ab_or (ab_or (ab_or 0 (ab_sl 1 0)) (ab_sl 1 2)) (ab_sl 1 3))), some (ab_i 4)]) dX5_kindsTaken_50 (by decide) rfl rfl ?_
                  refine aw_goto (tgt := 5) dX5_kindsTaken_53 rfl ?_
                  refine aw_iload dX5_kindsTaken_5 rfl ?_
                  refine aw_iconst dX5_kindsTaken_7 ?_
                  refine aw_icmp_ge (tgt := 56) dX5_kindsTaken_8 rfl ⟨by decide, by decide⟩ ⟨by decide, by decide⟩ (fun _ => ?_) (fun c9 => absurd (by decide) c9)
                  refine aw_iload_n dX5_kindsTaken_56 rfl ?_
                  refine aw_ireturn dX5_kindsTaken_57 rfl ?_
                  refine ⟨?_, rfl⟩
                  unfold kmW
                  rw [if_neg (by omega), show b + 1 - 1 = b by omega]
                  (repeat' split) <;> first | rfl | (exfalso; omega)
        · refine aw_iload_n dX5_kindsTaken_43 rfl ?_
          refine aw_iconst dX5_kindsTaken_44 ?_
          refine aw_iload dX5_kindsTaken_45 rfl ?_
          refine aw_ishl dX5_kindsTaken_47 ?_
          refine aw_ior dX5_kindsTaken_48 ?_
          refine aw_istore_n (ls' := [some (ab_r 65), some (ab_i (s : Int)), some (ab_i ((b : Int) + 1)), some (ab_i (ab_or (ab_or 0 (ab_sl 1 0)) (ab_sl 1 1))), some (ab_i 1)]) dX5_kindsTaken_49 (by decide) rfl ?_
          refine aw_iinc (ls' := [some (ab_r 65), some (ab_i (s : Int)), some (ab_i ((b : Int) + 1)), some (ab_i (ab_or (ab_or 0 (ab_sl 1 0)) (ab_sl 1 1))), some (ab_i 2)]) dX5_kindsTaken_50 (by decide) rfl rfl ?_
          refine aw_goto (tgt := 5) dX5_kindsTaken_53 rfl ?_
          refine aw_iload dX5_kindsTaken_5 rfl ?_
          refine aw_iconst dX5_kindsTaken_7 ?_
          refine aw_icmp_ge (tgt := 56) dX5_kindsTaken_8 rfl ⟨by decide, by decide⟩ ⟨by decide, by decide⟩ (fun c9 => absurd c9 (by decide)) (fun _ => ?_)
          refine aw_iload_n dX5_kindsTaken_11 rfl ?_
          refine aw_if_eq (tgt := 43) dX5_kindsTaken_12 rfl (by first | assumption | (unfold ab_In at *; omega)) (fun c_12 => ?_) (fun c_12 => ?_)
          · exfalso; omega
          · refine aw_aload_n dX5_kindsTaken_15 rfl (by decide) ?_
            refine aw_getrv (r := 2) dX5_kindsTaken_16 fX5_30 ⟨Nat.le_of_ble_eq_true rfl, Nat.le_of_ble_eq_true rfl⟩ rfl rfl (hF.at 65 0 2 rfl rfl rfl) ?_
            refine aw_getrv (r := 3) dX5_kindsTaken_19 fX5_66 ⟨Nat.le_of_ble_eq_true rfl, Nat.le_of_ble_eq_true rfl⟩ rfl rfl (hF.at 2 0 3 rfl rfl rfl) ?_
            refine aw_iload_n dX5_kindsTaken_22 rfl ?_
            refine aw_aaldv (r := 4 + s) dX5_kindsTaken_23 ⟨Nat.le_of_ble_eq_true rfl, Nat.le_of_ble_eq_true rfl⟩ rfl (by decide) (by omega) (by omega) (by decide) (hF.w hs) ?_
            refine aw_iload dX5_kindsTaken_24 rfl ?_
            refine aw_ialdq (q := 2) (v := I (4 + s) 2) dX5_kindsTaken_26 ⟨by omega, by omega⟩ (sh_w hs) (by omega) (by omega) (by decide) rfl rfl ?_
            refine aw_aload_n dX5_kindsTaken_27 rfl (by decide) ?_
            refine aw_getrv (r := 2) dX5_kindsTaken_28 fX5_30 ⟨Nat.le_of_ble_eq_true rfl, Nat.le_of_ble_eq_true rfl⟩ rfl rfl (hF.at 65 0 2 rfl rfl rfl) ?_
            refine aw_getrv (r := 3) dX5_kindsTaken_31 fX5_66 ⟨Nat.le_of_ble_eq_true rfl, Nat.le_of_ble_eq_true rfl⟩ rfl rfl (hF.at 2 0 3 rfl rfl rfl) ?_
            refine aw_iload_n dX5_kindsTaken_34 rfl ?_
            refine aw_aaldv (r := 4 + s) dX5_kindsTaken_35 ⟨Nat.le_of_ble_eq_true rfl, Nat.le_of_ble_eq_true rfl⟩ rfl (by decide) (by omega) (by omega) (by decide) (hF.w hs) ?_
            refine aw_iload_n dX5_kindsTaken_36 rfl ?_
            refine aw_iconst dX5_kindsTaken_37 ?_
            refine aw_isub dX5_kindsTaken_38 ?_
            refine aw_to (z := (b : Int)) (by omega) ?_
            refine aw_ialdq (q := b) (v := I (4 + s) b) dX5_kindsTaken_39 ⟨by omega, by omega⟩ (sh_w hs) (by omega) (by omega) (by decide) rfl rfl ?_
            refine aw_icmp_lt (tgt := 50) dX5_kindsTaken_40 rfl (by first | assumption | (unfold ab_In at *; omega)) (by first | assumption | (unfold ab_In at *; omega)) (fun c_40 => ?_) (fun c_40 => ?_)
            · refine aw_iinc (ls' := [some (ab_r 65), some (ab_i (s : Int)), some (ab_i ((b : Int) + 1)), some (ab_i (ab_or (ab_or 0 (ab_sl 1 0)) (ab_sl 1 1))), some (ab_i 3)]) dX5_kindsTaken_50 (by decide) rfl rfl ?_
              refine aw_goto (tgt := 5) dX5_kindsTaken_53 rfl ?_
              refine aw_iload dX5_kindsTaken_5 rfl ?_
              refine aw_iconst dX5_kindsTaken_7 ?_
              refine aw_icmp_ge (tgt := 56) dX5_kindsTaken_8 rfl ⟨by decide, by decide⟩ ⟨by decide, by decide⟩ (fun c9 => absurd c9 (by decide)) (fun _ => ?_)
              refine aw_iload_n dX5_kindsTaken_11 rfl ?_
              refine aw_if_eq (tgt := 43) dX5_kindsTaken_12 rfl (by first | assumption | (unfold ab_In at *; omega)) (fun c_12 => ?_) (fun c_12 => ?_)
              · exfalso; omega
              · refine aw_aload_n dX5_kindsTaken_15 rfl (by decide) ?_
                refine aw_getrv (r := 2) dX5_kindsTaken_16 fX5_30 ⟨Nat.le_of_ble_eq_true rfl, Nat.le_of_ble_eq_true rfl⟩ rfl rfl (hF.at 65 0 2 rfl rfl rfl) ?_
                refine aw_getrv (r := 3) dX5_kindsTaken_19 fX5_66 ⟨Nat.le_of_ble_eq_true rfl, Nat.le_of_ble_eq_true rfl⟩ rfl rfl (hF.at 2 0 3 rfl rfl rfl) ?_
                refine aw_iload_n dX5_kindsTaken_22 rfl ?_
                refine aw_aaldv (r := 4 + s) dX5_kindsTaken_23 ⟨Nat.le_of_ble_eq_true rfl, Nat.le_of_ble_eq_true rfl⟩ rfl (by decide) (by omega) (by omega) (by decide) (hF.w hs) ?_
                refine aw_iload dX5_kindsTaken_24 rfl ?_
                refine aw_ialdq (q := 3) (v := I (4 + s) 3) dX5_kindsTaken_26 ⟨by omega, by omega⟩ (sh_w hs) (by omega) (by omega) (by decide) rfl rfl ?_
                refine aw_aload_n dX5_kindsTaken_27 rfl (by decide) ?_
                refine aw_getrv (r := 2) dX5_kindsTaken_28 fX5_30 ⟨Nat.le_of_ble_eq_true rfl, Nat.le_of_ble_eq_true rfl⟩ rfl rfl (hF.at 65 0 2 rfl rfl rfl) ?_
                refine aw_getrv (r := 3) dX5_kindsTaken_31 fX5_66 ⟨Nat.le_of_ble_eq_true rfl, Nat.le_of_ble_eq_true rfl⟩ rfl rfl (hF.at 2 0 3 rfl rfl rfl) ?_
                refine aw_iload_n dX5_kindsTaken_34 rfl ?_
                refine aw_aaldv (r := 4 + s) dX5_kindsTaken_35 ⟨Nat.le_of_ble_eq_true rfl, Nat.le_of_ble_eq_true rfl⟩ rfl (by decide) (by omega) (by omega) (by decide) (hF.w hs) ?_
                refine aw_iload_n dX5_kindsTaken_36 rfl ?_
                refine aw_iconst dX5_kindsTaken_37 ?_
                refine aw_isub dX5_kindsTaken_38 ?_
                refine aw_to (z := (b : Int)) (by omega) ?_
                refine aw_ialdq (q := b) (v := I (4 + s) b) dX5_kindsTaken_39 ⟨by omega, by omega⟩ (sh_w hs) (by omega) (by omega) (by decide) rfl rfl ?_
                refine aw_icmp_lt (tgt := 50) dX5_kindsTaken_40 rfl (by first | assumption | (unfold ab_In at *; omega)) (by first | assumption | (unfold ab_In at *; omega)) (fun c_40 => ?_) (fun c_40 => ?_)
                · refine aw_iinc (ls' := [some (ab_r 65), some (ab_i (s : Int)), some (ab_i ((b : Int) + 1)), some (ab_i (ab_or (ab_or 0 (ab_sl 1 0)) (ab_sl 1 1))), some (ab_i 4)]) dX5_kindsTaken_50 (by decide) rfl rfl ?_
                  refine aw_goto (tgt := 5) dX5_kindsTaken_53 rfl ?_
                  refine aw_iload dX5_kindsTaken_5 rfl ?_
                  refine aw_iconst dX5_kindsTaken_7 ?_
                  refine aw_icmp_ge (tgt := 56) dX5_kindsTaken_8 rfl ⟨by decide, by decide⟩ ⟨by decide, by decide⟩ (fun _ => ?_) (fun c9 => absurd (by decide) c9)
                  refine aw_iload_n dX5_kindsTaken_56 rfl ?_
                  refine aw_ireturn dX5_kindsTaken_57 rfl ?_
                  refine ⟨?_, rfl⟩
                  unfold kmW
                  rw [if_neg (by omega), show b + 1 - 1 = b by omega]
                  (repeat' split) <;> first | rfl | (exfalso; omega)
                · refine aw_iload_n dX5_kindsTaken_43 rfl ?_
                  refine aw_iconst dX5_kindsTaken_44 ?_
                  refine aw_iload dX5_kindsTaken_45 rfl ?_
                  refine aw_ishl dX5_kindsTaken_47 ?_
                  refine aw_ior dX5_kindsTaken_48 ?_
                  refine aw_istore_n (ls' := [some (ab_r 65), some (ab_i (s : Int)), some (ab_i ((b : Int) + 1)), some (ab_i (ab_or (ab_or (ab_or 0 (ab_sl 1 0)) (ab_sl 1 1)) (ab_sl 1 3))), some (ab_i 3)]) dX5_kindsTaken_49 (by decide) rfl ?_
                  refine aw_iinc (ls' := [some (ab_r 65), some (ab_i (s : Int)), some (ab_i ((b : Int) + 1)), some (ab_i (ab_or (ab_or (ab_or 0 (ab_sl 1 0)) (ab_sl 1 1)) (ab_sl 1 3))), some (ab_i 4)]) dX5_kindsTaken_50 (by decide) rfl rfl ?_
                  refine aw_goto (tgt := 5) dX5_kindsTaken_53 rfl ?_
                  refine aw_iload dX5_kindsTaken_5 rfl ?_
                  refine aw_iconst dX5_kindsTaken_7 ?_
                  refine aw_icmp_ge (tgt := 56) dX5_kindsTaken_8 rfl ⟨by decide, by decide⟩ ⟨by decide, by decide⟩ (fun _ => ?_) (fun c9 => absurd (by decide) c9)
                  refine aw_iload_n dX5_kindsTaken_56 rfl ?_
                  refine aw_ireturn dX5_kindsTaken_57 rfl ?_
                  refine ⟨?_, rfl⟩
                  unfold kmW
                  rw [if_neg (by omega), show b + 1 - 1 = b by omega]
                  (repeat' split) <;> first | rfl | (exfalso; omega)
            · refine aw_iload_n dX5_kindsTaken_43 rfl ?_
              refine aw_iconst dX5_kindsTaken_44 ?_
              refine aw_iload dX5_kindsTaken_45 rfl ?_
              refine aw_ishl dX5_kindsTaken_47 ?_
              refine aw_ior dX5_kindsTaken_48 ?_
              refine aw_istore_n (ls' := [some (ab_r 65), some (ab_i (s : Int)), some (ab_i ((b : Int) + 1)), some (ab_i (ab_or (ab_or (ab_or 0 (ab_sl 1 0)) (ab_sl 1 1)) (ab_sl 1 2))), some (ab_i 2)]) dX5_kindsTaken_49 (by decide) rfl ?_
              refine aw_iinc (ls' := [some (ab_r 65), some (ab_i (s : Int)), some (ab_i ((b : Int) + 1)), some (ab_i (ab_or (ab_or (ab_or 0 (ab_sl 1 0)) (ab_sl 1 1)) (ab_sl 1 2))), some (ab_i 3)]) dX5_kindsTaken_50 (by decide) rfl rfl ?_
              refine aw_goto (tgt := 5) dX5_kindsTaken_53 rfl ?_
              refine aw_iload dX5_kindsTaken_5 rfl ?_
              refine aw_iconst dX5_kindsTaken_7 ?_
              refine aw_icmp_ge (tgt := 56) dX5_kindsTaken_8 rfl ⟨by decide, by decide⟩ ⟨by decide, by decide⟩ (fun c9 => absurd c9 (by decide)) (fun _ => ?_)
              refine aw_iload_n dX5_kindsTaken_11 rfl ?_
              refine aw_if_eq (tgt := 43) dX5_kindsTaken_12 rfl (by first | assumption | (unfold ab_In at *; omega)) (fun c_12 => ?_) (fun c_12 => ?_)
              · exfalso; omega
              · refine aw_aload_n dX5_kindsTaken_15 rfl (by decide) ?_
                refine aw_getrv (r := 2) dX5_kindsTaken_16 fX5_30 ⟨Nat.le_of_ble_eq_true rfl, Nat.le_of_ble_eq_true rfl⟩ rfl rfl (hF.at 65 0 2 rfl rfl rfl) ?_
                refine aw_getrv (r := 3) dX5_kindsTaken_19 fX5_66 ⟨Nat.le_of_ble_eq_true rfl, Nat.le_of_ble_eq_true rfl⟩ rfl rfl (hF.at 2 0 3 rfl rfl rfl) ?_
                refine aw_iload_n dX5_kindsTaken_22 rfl ?_
                refine aw_aaldv (r := 4 + s) dX5_kindsTaken_23 ⟨Nat.le_of_ble_eq_true rfl, Nat.le_of_ble_eq_true rfl⟩ rfl (by decide) (by omega) (by omega) (by decide) (hF.w hs) ?_
                refine aw_iload dX5_kindsTaken_24 rfl ?_
                refine aw_ialdq (q := 3) (v := I (4 + s) 3) dX5_kindsTaken_26 ⟨by omega, by omega⟩ (sh_w hs) (by omega) (by omega) (by decide) rfl rfl ?_
                refine aw_aload_n dX5_kindsTaken_27 rfl (by decide) ?_
                refine aw_getrv (r := 2) dX5_kindsTaken_28 fX5_30 ⟨Nat.le_of_ble_eq_true rfl, Nat.le_of_ble_eq_true rfl⟩ rfl rfl (hF.at 65 0 2 rfl rfl rfl) ?_
                refine aw_getrv (r := 3) dX5_kindsTaken_31 fX5_66 ⟨Nat.le_of_ble_eq_true rfl, Nat.le_of_ble_eq_true rfl⟩ rfl rfl (hF.at 2 0 3 rfl rfl rfl) ?_
                refine aw_iload_n dX5_kindsTaken_34 rfl ?_
                refine aw_aaldv (r := 4 + s) dX5_kindsTaken_35 ⟨Nat.le_of_ble_eq_true rfl, Nat.le_of_ble_eq_true rfl⟩ rfl (by decide) (by omega) (by omega) (by decide) (hF.w hs) ?_
                refine aw_iload_n dX5_kindsTaken_36 rfl ?_
                refine aw_iconst dX5_kindsTaken_37 ?_
                refine aw_isub dX5_kindsTaken_38 ?_
                refine aw_to (z := (b : Int)) (by omega) ?_
                refine aw_ialdq (q := b) (v := I (4 + s) b) dX5_kindsTaken_39 ⟨by omega, by omega⟩ (sh_w hs) (by omega) (by omega) (by decide) rfl rfl ?_
                refine aw_icmp_lt (tgt := 50) dX5_kindsTaken_40 rfl (by first | assumption | (unfold ab_In at *; omega)) (by first | assumption | (unfold ab_In at *; omega)) (fun c_40 => ?_) (fun c_40 => ?_)
                · refine aw_iinc (ls' := [some (ab_r 65), some (ab_i (s : Int)), some (ab_i ((b : Int) + 1)), some (ab_i (ab_or (ab_or (ab_or 0 (ab_sl 1 0)) (ab_sl 1 1)) (ab_sl 1 2))), some (ab_i 4)]) dX5_kindsTaken_50 (by decide) rfl rfl ?_
                  refine aw_goto (tgt := 5) dX5_kindsTaken_53 rfl ?_
                  refine aw_iload dX5_kindsTaken_5 rfl ?_
                  refine aw_iconst dX5_kindsTaken_7 ?_
                  refine aw_icmp_ge (tgt := 56) dX5_kindsTaken_8 rfl ⟨by decide, by decide⟩ ⟨by decide, by decide⟩ (fun _ => ?_) (fun c9 => absurd (by decide) c9)
                  refine aw_iload_n dX5_kindsTaken_56 rfl ?_
                  refine aw_ireturn dX5_kindsTaken_57 rfl ?_
                  refine ⟨?_, rfl⟩
                  unfold kmW
                  rw [if_neg (by omega), show b + 1 - 1 = b by omega]
                  (repeat' split) <;> first | rfl | (exfalso; omega)
                · refine aw_iload_n dX5_kindsTaken_43 rfl ?_
                  refine aw_iconst dX5_kindsTaken_44 ?_
                  refine aw_iload dX5_kindsTaken_45 rfl ?_
                  refine aw_ishl dX5_kindsTaken_47 ?_
                  refine aw_ior dX5_kindsTaken_48 ?_
                  refine aw_istore_n (ls' := [some (ab_r 65), some (ab_i (s : Int)), some (ab_i ((b : Int) + 1)), some (ab_i (ab_or (ab_or (ab_or (ab_or 0 (ab_sl 1 0)) (ab_sl 1 1)) (ab_sl 1 2)) (ab_sl 1 3))), some (ab_i 3)]) dX5_kindsTaken_49 (by decide) rfl ?_
                  refine aw_iinc (ls' := [some (ab_r 65), some (ab_i (s : Int)), some (ab_i ((b : Int) + 1)), some (ab_i (ab_or (ab_or (ab_or (ab_or 0 (ab_sl 1 0)) (ab_sl 1 1)) (ab_sl 1 2)) (ab_sl 1 3))), some (ab_i 4)]) dX5_kindsTaken_50 (by decide) rfl rfl ?_
                  refine aw_goto (tgt := 5) dX5_kindsTaken_53 rfl ?_
                  refine aw_iload dX5_kindsTaken_5 rfl ?_
                  refine aw_iconst dX5_kindsTaken_7 ?_
                  refine aw_icmp_ge (tgt := 56) dX5_kindsTaken_8 rfl ⟨by decide, by decide⟩ ⟨by decide, by decide⟩ (fun _ => ?_) (fun c9 => absurd (by decide) c9)
                  refine aw_iload_n dX5_kindsTaken_56 rfl ?_
                  refine aw_ireturn dX5_kindsTaken_57 rfl ?_
                  refine ⟨?_, rfl⟩
                  unfold kmW
                  rw [if_neg (by omega), show b + 1 - 1 = b by omega]
                  (repeat' split) <;> first | rfl | (exfalso; omega)
theorem ct_X5_kinds (G : ab_G) (I : Nat → Nat → Int) (F : Nat → Nat → Nat) (hF : ab_FB F) (s b : Nat) (hs : s < 4) (hb : b < 5) (hw : ∀ k, k < 4 → 0 ≤ I (4 + s) k ∧ I (4 + s) k ≤ 99) : Ct G 0 0 0 YX5_kindsTaken [ab_r 65, ab_i (s : Int), ab_i (b : Int)] (104, I, F) (fun r h => r = some (ab_i (kmW (I (4 + s)) b)) ∧ h = (104, I, F)) := by
  match b, hb with
  | 0, _ => exact ct_X5_kinds0 G I F hF s hs
  | b + 1, hb => exact ct_X5_kinds1 G I F hF s b hs (by omega) hw
set_option maxHeartbeats 4000000 in
set_option maxRecDepth 100000 in
theorem ct_X5_findLikeBars (G : ab_G) (I : Nat → Nat → Int) (F : Nat → Nat → Nat) (hF : ab_FB F) (hw : ∀ s k, s < 4 → k < 4 → 0 ≤ I (4 + s) k ∧ I (4 + s) k ≤ 99) : Ct G 1 0 0 YX5_findLikeBars [ab_r 65] (104, I, F) (fun r h => r = none ∧ ∃ I2, h = (104, I2, F) ∧ (∀ s b, s < 4 → b < 5 → PL I I2 s b) ∧ (∀ i b, (i < 68 ∨ 71 < i) → I2 i b = I i b)) := by
  refine Ct.ofW kX5_findLikeBars (ls := [some (ab_r 65), none, none, none]) (Nat.le_of_ble_eq_true rfl) rfl ?_
  generalize hZ : ab_Z G (fun r h => r = none ∧ ∃ I2, h = (104, I2, F) ∧ (∀ s b, s < 4 → b < 5 → PL I I2 s b) ∧ (∀ i b, (i < 68 ∨ 71 < i) → I2 i b = I i b)) 0 0 = Z
  have outer : ∀ (d s : Nat) (I1 : Nat → Nat → Int), s + d = 4 → (∀ s9 b, s9 < s → b < 5 → PL I I1 s9 b) → (∀ i b, (i < 68 ∨ 71 < i) → I1 i b = I i b) → aW G YX5_findLikeBars (ab_rm 1 0 0) Z 0 0 (104, I1, F) 2 [some (ab_r 65), some (ab_i (s : Int)), none, none] [] := by
    intro d
    induction d with
    | zero =>
      intro s I1 hs9 hP hfr
      have hs4 : s = 4 := by omega
      subst hs4
      refine aw_iload_n dX5_findLikeBars_2 rfl ?_
      refine aw_iconst dX5_findLikeBars_3 ?_
      refine aw_icmp_ge (tgt := 63) dX5_findLikeBars_4 rfl (by first | assumption | (unfold ab_In at *; omega)) (by first | assumption | (unfold ab_In at *; omega)) (fun c_4 => ?_) (fun c_4 => ?_)
      · rw [← hZ]
        refine aw_return dX5_findLikeBars_63 rfl ?_
        exact ⟨rfl, I1, rfl, fun s b q1 q2 => hP s b q1 q2, hfr⟩
      · exfalso; omega
    | succ d ih =>
      intro s I1 hs9 hP hfr
      have hs : s < 4 := by omega
      have mid : ∀ (e b : Nat) (I2 : Nat → Nat → Int), b + e = 5 → (∀ s9 b9, s9 < s → b9 < 5 → PL I I2 s9 b9) → (∀ b9, b9 < b → PL I I2 s b9) → (∀ i b, (i < 68 ∨ 71 < i) → I2 i b = I i b) → aW G YX5_findLikeBars (ab_rm 1 0 0) Z 0 0 (104, I2, F) 9 [some (ab_r 65), some (ab_i (s : Int)), some (ab_i (b : Int)), none] [] := by
        intro e
        induction e with
        | zero =>
          intro b I2 hb9 hP2 hP3 hfr2
          have hb5 : b = 5 := by omega
          subst hb5
          refine aw_iload_n dX5_findLikeBars_9 rfl ?_
          refine aw_iconst dX5_findLikeBars_10 ?_
          refine aw_icmp_ge (tgt := 57) dX5_findLikeBars_11 rfl (by first | assumption | (unfold ab_In at *; omega)) (by first | assumption | (unfold ab_In at *; omega)) (fun c_11 => ?_) (fun c_11 => ?_)
          · refine aw_iinc (ls' := [some (ab_r 65), some (ab_i ((s : Int) + 1)), some (ab_i ((5 : Nat) : Int)), none]) dX5_findLikeBars_57 (by decide) rfl rfl ?_
            refine aw_goto (tgt := 2) dX5_findLikeBars_60 rfl ?_
            have h9 := ih (s + 1) I2 (by omega) (fun s9 b9 q1 q2 => if e9 : s9 = s then e9 ▸ hP3 b9 q2 else hP2 s9 b9 (by omega) q2) hfr2
            exact aw_le (ab_le_c (ab_le_c (ab_le_n (ab_le_n ab_le_nil)))) h9
          · exfalso; omega
        | succ e ihe =>
          intro b I2 hb9 hP2 hP3 hfr2
          have hb : b < 5 := by omega
          have e4 : I2 (4 + s) = I (4 + s) := funext fun k => hfr2 (4 + s) k (by omega)
          have hw2 : ∀ k, k < 4 → 0 ≤ I2 (4 + s) k ∧ I2 (4 + s) k ≤ 99 := fun k hk => by rw [e4]; exact hw s k hs hk
          have hkb := kmW_bd (I (4 + s)) b
          have s42 : ∀ l : Nat, l ≤ b → kmW (I (4 + s)) l = kmW (I (4 + s)) b → aW G YX5_findLikeBars (ab_rm 1 0 0) Z 0 0 (104, I2, F) 42 [some (ab_r 65), some (ab_i (s : Int)), some (ab_i (b : Int)), some (ab_i (l : Int))] [] := by
            intro l hl hk
            refine aw_aload_n dX5_findLikeBars_42 rfl (by decide) ?_
            refine aw_getrv (r := 67) dX5_findLikeBars_43 fX5_17 ⟨Nat.le_of_ble_eq_true rfl, Nat.le_of_ble_eq_true rfl⟩ rfl rfl (hF.at 65 2 67 rfl rfl rfl) ?_
            refine aw_iload_n dX5_findLikeBars_46 rfl ?_
            refine aw_aaldv (r := 68 + s) dX5_findLikeBars_47 ⟨Nat.le_of_ble_eq_true rfl, Nat.le_of_ble_eq_true rfl⟩ rfl (by decide) (by omega) (by omega) (by decide) (hF.like hs) ?_
            refine aw_iload_n dX5_findLikeBars_48 rfl ?_
            refine aw_iload_n dX5_findLikeBars_49 rfl ?_
            refine aw_iastv (q := b) dX5_findLikeBars_50 ⟨by omega, by omega⟩ (sh_like hs) (by omega) (by omega) (by decide) rfl ?_
            refine aw_iinc (ls' := [some (ab_r 65), some (ab_i (s : Int)), some (ab_i ((b : Int) + 1)), some (ab_i (l : Int))]) dX5_findLikeBars_51 (by decide) rfl rfl ?_
            refine aw_goto (tgt := 9) dX5_findLikeBars_54 rfl ?_
            have h9 := ihe (b + 1) _ (by omega) (fun s9 b9 q1 q2 => PL_o (i := 68 + s) (j := b) (v := (l : Int)) (hP2 s9 b9 q1 q2) (by omega)) (fun b9 q1 => if e9 : b9 = b then (by rw [e9]; exact PL_s hl hk) else PL_o (i := 68 + s) (j := b) (v := (l : Int)) (hP3 b9 (by omega)) (by omega)) (fun i b q => by rw [ab_u_i (by omega)]; exact hfr2 i b q)
            exact aw_le (ab_le_c (ab_le_c (ab_le_c (ab_le_n ab_le_nil)))) h9
          have inner : ∀ (f l : Nat), l + f = b → aW G YX5_findLikeBars (ab_rm 1 0 0) Z 0 0 (104, I2, F) 16 [some (ab_r 65), some (ab_i (s : Int)), some (ab_i (b : Int)), some (ab_i (l : Int))] [] := by
            intro f
            induction f with
            | zero =>
              intro l hl
              have hlb : l = b := by omega
              subst hlb
              refine aw_iload_n dX5_findLikeBars_16 rfl ?_
              refine aw_iload_n dX5_findLikeBars_17 rfl ?_
              refine aw_icmp_ge (tgt := 42) dX5_findLikeBars_18 rfl (by first | assumption | (unfold ab_In at *; omega)) (by first | assumption | (unfold ab_In at *; omega)) (fun c_18 => ?_) (fun c_18 => ?_)
              · exact s42 l (by omega) rfl
              · exfalso; omega
            | succ f ihf =>
              intro l hl
              have hkl := kmW_bd (I (4 + s)) l
              refine aw_iload_n dX5_findLikeBars_16 rfl ?_
              refine aw_iload_n dX5_findLikeBars_17 rfl ?_
              refine aw_icmp_ge (tgt := 42) dX5_findLikeBars_18 rfl (by first | assumption | (unfold ab_In at *; omega)) (by first | assumption | (unfold ab_In at *; omega)) (fun c_18 => ?_) (fun c_18 => ?_)
              · exfalso; omega
              · refine aw_aload_n dX5_findLikeBars_21 rfl (by decide) ?_
                refine aw_iload_n dX5_findLikeBars_22 rfl ?_
                refine aw_iload_n dX5_findLikeBars_23 rfl ?_
                refine aw_callV (as := [ab_i (s : Int), ab_i (l : Int)]) (rest := []) dX5_findLikeBars_24 (ct_X5_kinds G I2 F hF s l hs (by omega) hw2) ⟨Nat.le_of_ble_eq_true rfl, Nat.le_of_ble_eq_true rfl⟩ rfl kc5 rfl kX5_kindsTaken iX5_kindsTaken eX5_kindsTaken lX5_62 rfl (Nat.le_of_ble_eq_true rfl) (by decide) (by decide) (by decide) (by decide) ?_
                rintro r9 _ ⟨e9, rfl⟩
                rw [e4] at e9
                subst e9
                refine aw_aload_n dX5_findLikeBars_27 rfl (by decide) ?_
                refine aw_iload_n dX5_findLikeBars_28 rfl ?_
                refine aw_iload_n dX5_findLikeBars_29 rfl ?_
                refine aw_callV (as := [ab_i (s : Int), ab_i (b : Int)]) (rest := [ab_i (kmW (I (4 + s)) l)]) dX5_findLikeBars_30 (ct_X5_kinds G I2 F hF s b hs (by omega) hw2) ⟨Nat.le_of_ble_eq_true rfl, Nat.le_of_ble_eq_true rfl⟩ rfl kc5 rfl kX5_kindsTaken iX5_kindsTaken eX5_kindsTaken lX5_62 rfl (Nat.le_of_ble_eq_true rfl) (by decide) (by decide) (by decide) (by decide) ?_
                rintro r9 _ ⟨e9, rfl⟩
                rw [e4] at e9
                subst e9
                refine aw_icmp_eq (tgt := 42) dX5_findLikeBars_33 rfl (by first | assumption | (unfold ab_In at *; omega)) (by first | assumption | (unfold ab_In at *; omega)) (fun c_33 => ?_) (fun c_33 => ?_)
                · exact s42 l (by omega) c_33
                · refine aw_iinc (ls' := [some (ab_r 65), some (ab_i (s : Int)), some (ab_i (b : Int)), some (ab_i ((l : Int) + 1))]) dX5_findLikeBars_36 (by decide) rfl rfl ?_
                  refine aw_goto (tgt := 16) dX5_findLikeBars_39 rfl ?_
                  exact ihf (l + 1) (by omega)
          refine aw_iload_n dX5_findLikeBars_9 rfl ?_
          refine aw_iconst dX5_findLikeBars_10 ?_
          refine aw_icmp_ge (tgt := 57) dX5_findLikeBars_11 rfl (by first | assumption | (unfold ab_In at *; omega)) (by first | assumption | (unfold ab_In at *; omega)) (fun c_11 => ?_) (fun c_11 => ?_)
          · exfalso; omega
          · refine aw_iconst dX5_findLikeBars_14 ?_
            refine aw_istore_n (ls' := [some (ab_r 65), some (ab_i (s : Int)), some (ab_i (b : Int)), some (ab_i 0)]) dX5_findLikeBars_15 (by decide) rfl ?_
            exact inner b 0 (by omega)
      refine aw_iload_n dX5_findLikeBars_2 rfl ?_
      refine aw_iconst dX5_findLikeBars_3 ?_
      refine aw_icmp_ge (tgt := 63) dX5_findLikeBars_4 rfl (by first | assumption | (unfold ab_In at *; omega)) (by first | assumption | (unfold ab_In at *; omega)) (fun c_4 => ?_) (fun c_4 => ?_)
      · exfalso; omega
      · refine aw_iconst dX5_findLikeBars_7 ?_
        refine aw_istore_n (ls' := [some (ab_r 65), some (ab_i (s : Int)), some (ab_i 0), none]) dX5_findLikeBars_8 (by decide) rfl ?_
        exact mid 5 0 I1 (by omega) hP (fun b9 q => by omega) hfr
  refine aw_iconst dX5_findLikeBars_0 ?_
  refine aw_istore_n (ls' := [some (ab_r 65), some (ab_i 0), none, none]) dX5_findLikeBars_1 (by decide) rfl ?_
  exact outer 4 0 I (by omega) (fun s9 b q => by omega) (fun _ _ _ => rfl)
set_option maxHeartbeats 4000000 in
set_option maxRecDepth 100000 in
theorem ct_X5_likeSetting (G : ab_G) (I : Nat → Nat → Int) (F : Nat → Nat → Nat) (hF : ab_FB F) (q : Nat) (hq : q < 625) : Ct G 1 0 0 YX5_likeSetting [ab_r 65, ab_i (q : Int)] (104, I, F) (fun r h => r = some (ab_i (lq I q)) ∧ h = (104, I, F)) := by
  refine Ct.ofW kX5_likeSetting (ls := [some (ab_r 65), some (ab_i (q : Int)), none, none]) (Nat.le_of_ble_eq_true rfl) rfl ?_
  refine aw_iconst dX5_likeSetting_0 ?_
  refine aw_istore_n (ls' := [some (ab_r 65), some (ab_i (q : Int)), some (ab_i 0), none]) dX5_likeSetting_1 (by decide) rfl ?_
  refine aw_iconst dX5_likeSetting_2 ?_
  refine aw_istore_n (ls' := [some (ab_r 65), some (ab_i (q : Int)), some (ab_i 0), some (ab_i 0)]) dX5_likeSetting_3 (by decide) rfl ?_
  refine aw_iload_n dX5_likeSetting_4 rfl ?_
  refine aw_iconst dX5_likeSetting_5 ?_
  refine aw_icmp_ge (tgt := 36) dX5_likeSetting_6 rfl ⟨by decide, by decide⟩ ⟨by decide, by decide⟩ (fun c9 => absurd c9 (by decide)) (fun _ => ?_)
  refine aw_iload_n dX5_likeSetting_9 rfl ?_
  refine aw_aload_n dX5_likeSetting_10 rfl (by decide) ?_
  refine aw_getrv (r := 67) dX5_likeSetting_11 fX5_17 ⟨Nat.le_of_ble_eq_true rfl, Nat.le_of_ble_eq_true rfl⟩ rfl rfl (hF.at 65 2 67 rfl rfl rfl) ?_
  refine aw_iload_n dX5_likeSetting_14 rfl ?_
  refine aw_aaldv (r := 68) dX5_likeSetting_15 ⟨Nat.le_of_ble_eq_true rfl, Nat.le_of_ble_eq_true rfl⟩ rfl (by decide) (by omega) (by omega) (by decide) (hF.at 67 0 68 rfl rfl rfl) ?_
  refine aw_iload_n dX5_likeSetting_16 rfl ?_
  refine aw_iload_n dX5_likeSetting_17 rfl ?_
  refine aw_callS (as := [ab_i (q : Int), ab_i 0]) (rest := [ab_r 68, ab_i 0]) dX5_likeSetting_18 (ct_X5_barOf G (104, I, F) q 0 hq (by decide)) kX5_barOf sX5_barOf lX5_71 rfl (Nat.le_of_ble_eq_true rfl) (by decide) (by decide) (by decide) (by decide) ?_
  rintro _ _ ⟨rfl, rfl⟩
  have hb0 := bq_lt q 0
  refine aw_ialdq (q := (bq q 0 : Int).toNat) (v := I 68 (bq q 0 : Int).toNat) dX5_likeSetting_21 ⟨Nat.le_of_ble_eq_true rfl, Nat.le_of_ble_eq_true rfl⟩ rfl (by omega) (by omega) (by decide) rfl rfl ?_
  refine aw_getsN dX5_likeSetting_22 ab_zfig gNX5_74 ?_
  refine aw_iload_n dX5_likeSetting_25 rfl ?_
  refine aw_ifig dX5_likeSetting_26 (by omega) (by omega) ?_
  refine aw_to (z := 1) rfl ?_
  refine aw_imul dX5_likeSetting_27 ?_
  refine aw_iadd dX5_likeSetting_28 ?_
  refine aw_istore_n (ls' := [some (ab_r 65), some (ab_i (q : Int)), some (ab_i (0 + ((I 68 (bq q 0 : Int).toNat) * 1))), some (ab_i 0)]) dX5_likeSetting_29 (by decide) rfl ?_
  refine aw_iinc (ls' := [some (ab_r 65), some (ab_i (q : Int)), some (ab_i (0 + ((I 68 (bq q 0 : Int).toNat) * 1))), some (ab_i 1)]) dX5_likeSetting_30 (by decide) rfl rfl ?_
  refine aw_goto (tgt := 4) dX5_likeSetting_33 rfl ?_
  refine aw_iload_n dX5_likeSetting_4 rfl ?_
  refine aw_iconst dX5_likeSetting_5 ?_
  refine aw_icmp_ge (tgt := 36) dX5_likeSetting_6 rfl ⟨by decide, by decide⟩ ⟨by decide, by decide⟩ (fun c9 => absurd c9 (by decide)) (fun _ => ?_)
  refine aw_iload_n dX5_likeSetting_9 rfl ?_
  refine aw_aload_n dX5_likeSetting_10 rfl (by decide) ?_
  refine aw_getrv (r := 67) dX5_likeSetting_11 fX5_17 ⟨Nat.le_of_ble_eq_true rfl, Nat.le_of_ble_eq_true rfl⟩ rfl rfl (hF.at 65 2 67 rfl rfl rfl) ?_
  refine aw_iload_n dX5_likeSetting_14 rfl ?_
  refine aw_aaldv (r := 69) dX5_likeSetting_15 ⟨Nat.le_of_ble_eq_true rfl, Nat.le_of_ble_eq_true rfl⟩ rfl (by decide) (by omega) (by omega) (by decide) (hF.at 67 1 69 rfl rfl rfl) ?_
  refine aw_iload_n dX5_likeSetting_16 rfl ?_
  refine aw_iload_n dX5_likeSetting_17 rfl ?_
  refine aw_callS (as := [ab_i (q : Int), ab_i 1]) (rest := [ab_r 69, ab_i (0 + ((I 68 (bq q 0 : Int).toNat) * 1))]) dX5_likeSetting_18 (ct_X5_barOf G (104, I, F) q 1 hq (by decide)) kX5_barOf sX5_barOf lX5_71 rfl (Nat.le_of_ble_eq_true rfl) (by decide) (by decide) (by decide) (by decide) ?_
  rintro _ _ ⟨rfl, rfl⟩
  have hb1 := bq_lt q 1
  refine aw_ialdq (q := (bq q 1 : Int).toNat) (v := I 69 (bq q 1 : Int).toNat) dX5_likeSetting_21 ⟨Nat.le_of_ble_eq_true rfl, Nat.le_of_ble_eq_true rfl⟩ rfl (by omega) (by omega) (by decide) rfl rfl ?_
  refine aw_getsN dX5_likeSetting_22 ab_zfig gNX5_74 ?_
  refine aw_iload_n dX5_likeSetting_25 rfl ?_
  refine aw_ifig dX5_likeSetting_26 (by omega) (by omega) ?_
  refine aw_to (z := 5) rfl ?_
  refine aw_imul dX5_likeSetting_27 ?_
  refine aw_iadd dX5_likeSetting_28 ?_
  refine aw_istore_n (ls' := [some (ab_r 65), some (ab_i (q : Int)), some (ab_i ((0 + ((I 68 (bq q 0 : Int).toNat) * 1)) + ((I 69 (bq q 1 : Int).toNat) * 5))), some (ab_i 1)]) dX5_likeSetting_29 (by decide) rfl ?_
  refine aw_iinc (ls' := [some (ab_r 65), some (ab_i (q : Int)), some (ab_i ((0 + ((I 68 (bq q 0 : Int).toNat) * 1)) + ((I 69 (bq q 1 : Int).toNat) * 5))), some (ab_i 2)]) dX5_likeSetting_30 (by decide) rfl rfl ?_
  refine aw_goto (tgt := 4) dX5_likeSetting_33 rfl ?_
  refine aw_iload_n dX5_likeSetting_4 rfl ?_
  refine aw_iconst dX5_likeSetting_5 ?_
  refine aw_icmp_ge (tgt := 36) dX5_likeSetting_6 rfl ⟨by decide, by decide⟩ ⟨by decide, by decide⟩ (fun c9 => absurd c9 (by decide)) (fun _ => ?_)
  refine aw_iload_n dX5_likeSetting_9 rfl ?_
  refine aw_aload_n dX5_likeSetting_10 rfl (by decide) ?_
  refine aw_getrv (r := 67) dX5_likeSetting_11 fX5_17 ⟨Nat.le_of_ble_eq_true rfl, Nat.le_of_ble_eq_true rfl⟩ rfl rfl (hF.at 65 2 67 rfl rfl rfl) ?_
  refine aw_iload_n dX5_likeSetting_14 rfl ?_
  refine aw_aaldv (r := 70) dX5_likeSetting_15 ⟨Nat.le_of_ble_eq_true rfl, Nat.le_of_ble_eq_true rfl⟩ rfl (by decide) (by omega) (by omega) (by decide) (hF.at 67 2 70 rfl rfl rfl) ?_
  refine aw_iload_n dX5_likeSetting_16 rfl ?_
  refine aw_iload_n dX5_likeSetting_17 rfl ?_
  refine aw_callS (as := [ab_i (q : Int), ab_i 2]) (rest := [ab_r 70, ab_i ((0 + ((I 68 (bq q 0 : Int).toNat) * 1)) + ((I 69 (bq q 1 : Int).toNat) * 5))]) dX5_likeSetting_18 (ct_X5_barOf G (104, I, F) q 2 hq (by decide)) kX5_barOf sX5_barOf lX5_71 rfl (Nat.le_of_ble_eq_true rfl) (by decide) (by decide) (by decide) (by decide) ?_
  rintro _ _ ⟨rfl, rfl⟩
  have hb2 := bq_lt q 2
  refine aw_ialdq (q := (bq q 2 : Int).toNat) (v := I 70 (bq q 2 : Int).toNat) dX5_likeSetting_21 ⟨Nat.le_of_ble_eq_true rfl, Nat.le_of_ble_eq_true rfl⟩ rfl (by omega) (by omega) (by decide) rfl rfl ?_
  refine aw_getsN dX5_likeSetting_22 ab_zfig gNX5_74 ?_
  refine aw_iload_n dX5_likeSetting_25 rfl ?_
  refine aw_ifig dX5_likeSetting_26 (by omega) (by omega) ?_
  refine aw_to (z := 25) rfl ?_
  refine aw_imul dX5_likeSetting_27 ?_
  refine aw_iadd dX5_likeSetting_28 ?_
  refine aw_istore_n (ls' := [some (ab_r 65), some (ab_i (q : Int)), some (ab_i (((0 + ((I 68 (bq q 0 : Int).toNat) * 1)) + ((I 69 (bq q 1 : Int).toNat) * 5)) + ((I 70 (bq q 2 : Int).toNat) * 25))), some (ab_i 2)]) dX5_likeSetting_29 (by decide) rfl ?_
  refine aw_iinc (ls' := [some (ab_r 65), some (ab_i (q : Int)), some (ab_i (((0 + ((I 68 (bq q 0 : Int).toNat) * 1)) + ((I 69 (bq q 1 : Int).toNat) * 5)) + ((I 70 (bq q 2 : Int).toNat) * 25))), some (ab_i 3)]) dX5_likeSetting_30 (by decide) rfl rfl ?_
  refine aw_goto (tgt := 4) dX5_likeSetting_33 rfl ?_
  refine aw_iload_n dX5_likeSetting_4 rfl ?_
  refine aw_iconst dX5_likeSetting_5 ?_
  refine aw_icmp_ge (tgt := 36) dX5_likeSetting_6 rfl ⟨by decide, by decide⟩ ⟨by decide, by decide⟩ (fun c9 => absurd c9 (by decide)) (fun _ => ?_)
  refine aw_iload_n dX5_likeSetting_9 rfl ?_
  refine aw_aload_n dX5_likeSetting_10 rfl (by decide) ?_
  refine aw_getrv (r := 67) dX5_likeSetting_11 fX5_17 ⟨Nat.le_of_ble_eq_true rfl, Nat.le_of_ble_eq_true rfl⟩ rfl rfl (hF.at 65 2 67 rfl rfl rfl) ?_
  refine aw_iload_n dX5_likeSetting_14 rfl ?_
  refine aw_aaldv (r := 71) dX5_likeSetting_15 ⟨Nat.le_of_ble_eq_true rfl, Nat.le_of_ble_eq_true rfl⟩ rfl (by decide) (by omega) (by omega) (by decide) (hF.at 67 3 71 rfl rfl rfl) ?_
  refine aw_iload_n dX5_likeSetting_16 rfl ?_
  refine aw_iload_n dX5_likeSetting_17 rfl ?_
  refine aw_callS (as := [ab_i (q : Int), ab_i 3]) (rest := [ab_r 71, ab_i (((0 + ((I 68 (bq q 0 : Int).toNat) * 1)) + ((I 69 (bq q 1 : Int).toNat) * 5)) + ((I 70 (bq q 2 : Int).toNat) * 25))]) dX5_likeSetting_18 (ct_X5_barOf G (104, I, F) q 3 hq (by decide)) kX5_barOf sX5_barOf lX5_71 rfl (Nat.le_of_ble_eq_true rfl) (by decide) (by decide) (by decide) (by decide) ?_
  rintro _ _ ⟨rfl, rfl⟩
  have hb3 := bq_lt q 3
  refine aw_ialdq (q := (bq q 3 : Int).toNat) (v := I 71 (bq q 3 : Int).toNat) dX5_likeSetting_21 ⟨Nat.le_of_ble_eq_true rfl, Nat.le_of_ble_eq_true rfl⟩ rfl (by omega) (by omega) (by decide) rfl rfl ?_
  refine aw_getsN dX5_likeSetting_22 ab_zfig gNX5_74 ?_
  refine aw_iload_n dX5_likeSetting_25 rfl ?_
  refine aw_ifig dX5_likeSetting_26 (by omega) (by omega) ?_
  refine aw_to (z := 125) rfl ?_
  refine aw_imul dX5_likeSetting_27 ?_
  refine aw_iadd dX5_likeSetting_28 ?_
  refine aw_istore_n (ls' := [some (ab_r 65), some (ab_i (q : Int)), some (ab_i ((((0 + ((I 68 (bq q 0 : Int).toNat) * 1)) + ((I 69 (bq q 1 : Int).toNat) * 5)) + ((I 70 (bq q 2 : Int).toNat) * 25)) + ((I 71 (bq q 3 : Int).toNat) * 125))), some (ab_i 3)]) dX5_likeSetting_29 (by decide) rfl ?_
  refine aw_iinc (ls' := [some (ab_r 65), some (ab_i (q : Int)), some (ab_i ((((0 + ((I 68 (bq q 0 : Int).toNat) * 1)) + ((I 69 (bq q 1 : Int).toNat) * 5)) + ((I 70 (bq q 2 : Int).toNat) * 25)) + ((I 71 (bq q 3 : Int).toNat) * 125))), some (ab_i 4)]) dX5_likeSetting_30 (by decide) rfl rfl ?_
  refine aw_goto (tgt := 4) dX5_likeSetting_33 rfl ?_
  refine aw_iload_n dX5_likeSetting_4 rfl ?_
  refine aw_iconst dX5_likeSetting_5 ?_
  refine aw_icmp_ge (tgt := 36) dX5_likeSetting_6 rfl ⟨by decide, by decide⟩ ⟨by decide, by decide⟩ (fun _ => ?_) (fun c9 => absurd (by decide) c9)
  refine aw_iload_n dX5_likeSetting_36 rfl ?_
  refine aw_ireturn dX5_likeSetting_37 rfl ?_
  exact ⟨rfl, rfl⟩
