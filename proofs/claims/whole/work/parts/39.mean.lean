theorem aw_toL {G : ab_G} {Y : ab_Y} {R : Room} {Z : ab_Zt} {kc ks : Nat} {h : ab_H} {pc : Nat} {ls : List (Option ab_V)} {st : List ab_V} {e z : Int} (he : e = z) (k : aW G Y R Z kc ks h pc ls (ab_l z :: st)) : aW G Y R Z kc ks h pc ls (ab_l e :: st) := he ▸ k
theorem i2l_in {x : Int} (h : ab_In x) : ab_i2l x = x := by
  unfold ab_i2l; rw [Int32.toInt_toInt64, ab_to h]
theorem ldiv_q {a b : Nat} (ha : a < 9223372036854775808) (hb : 0 < b) (hb2 : b < 9223372036854775808) : Int64.ofInt (a : Int) / Int64.ofInt (b : Int) = Int64.ofInt ((a / b : Nat) : Int) := by
  have hq : a / b ≤ a := Nat.div_le_self _ _
  have ht : (a : Int).tdiv (b : Int) = ((a / b : Nat) : Int) := by rw [Int.tdiv_eq_ediv_of_nonneg (by omega)]; exact (Int.natCast_ediv a b).symm
  apply Int64.toInt_inj.mp
  rw [Int64.toInt_div, ab_tol ⟨by omega, by omega⟩, ab_tol ⟨by omega, by omega⟩, ht]
  generalize a / b = n at hq
  rw [ab_tol (z := (n : Int)) ⟨by omega, by omega⟩, Int.bmod_eq_of_le (by omega) (by omega)]
theorem ldiv_n {a b : Nat} (ha : a < 9223372036854775808) (hb : 0 < b) (hb2 : b < 9223372036854775808) : ab_ldivL (a : Int) (b : Int) = ((a / b : Nat) : Int) := by
  have hq : a / b ≤ a := Nat.div_le_self _ _
  unfold ab_ldivL; rw [ldiv_q ha hb hb2]
  generalize a / b = n at hq
  rw [ab_tol ⟨by omega, by omega⟩]
theorem lrem_n {a b : Nat} (ha : a < 9223372036854775808) (hb : 0 < b) (hb2 : b < 9223372036854775808) : ab_lremL (a : Int) (b : Int) = ((a % b : Nat) : Int) := by
  have hr : a % b < b := Nat.mod_lt _ hb
  unfold ab_lremL
  rw [ldiv_q ha hb hb2, ← Int64.ofInt_mul, ← Int64.ofInt_sub]
  have e : (a : Int) - ((a / b : Nat) : Int) * (b : Int) = ((a % b : Nat) : Int) := by
    have h1 := Nat.div_add_mod a b
    have h2 : ((b * (a / b) + a % b : Nat) : Int) = (a : Int) := by rw [h1]
    rw [Int.natCast_add, Int.natCast_mul, Int.mul_comm] at h2
    omega
  rw [e, ab_tol ⟨by omega, by omega⟩]
theorem lcmp_0 {b : Nat} (hb : b < 9223372036854775808) : ab_lcmp (b : Int) 0 = if b = 0 then 0 else 1 := by
  by_cases e : b = 0
  · subst e; rfl
  · rw [if_neg e]
    have h1 : Int64.ofInt 0 < Int64.ofInt (b : Int) := (ab_ltl (x := 0) (y := (b : Int)) ⟨by omega, by omega⟩ ⟨by omega, by omega⟩).mpr (by omega)
    unfold ab_lcmp lg_cmp
    rw [if_pos h1]; rfl
/-- two steps halve -/
def eu : Nat → Nat → Nat → Prop
  | 0, _, b => b = 0
  | f + 1, a, b => b = 0 ∨ eu f b (a % b)
theorem eu_pow : ∀ (k a b : Nat), b < 2 ^ k → eu (2 * k) a b
  | 0, a, b, h => by show b = 0; simp at h; exact h
  | k + 1, a, b, h => by
    show eu (2 * k + 1 + 1) a b
    by_cases hb : b = 0
    · exact Or.inl hb
    · refine Or.inr ?_
      by_cases hr : a % b = 0
      · exact Or.inl hr
      · refine Or.inr (eu_pow k _ _ ?_)
        have h1 : a % b < b := Nat.mod_lt _ (by omega)
        have h2 : b % (a % b) < a % b := Nat.mod_lt _ (by omega)
        have h3 : b % (a % b) + a % b ≤ b := by
          have h4 := Nat.div_add_mod b (a % b)
          have h5 : 1 ≤ b / (a % b) := Nat.div_pos (by omega) (by omega)
          have h6 : a % b ≤ (a % b) * (b / (a % b)) := Nat.le_mul_of_pos_right _ h5
          omega
        rw [Nat.pow_succ] at h
        omega
theorem gcd_step (a b : Nat) : Nat.gcd b (a % b) = Nat.gcd a b := by
  rw [Nat.gcd_comm b (a % b), ← Nat.gcd_rec b a, Nat.gcd_comm]
/-- the weights' sums -/
def mu (a b m : Nat) : Nat → Nat
  | 0 => 0
  | i + 1 => mu a b m i + i * (a ^ i * b ^ (m - i))
def md (a b m : Nat) : Nat → Nat
  | 0 => 0
  | i + 1 => md a b m i + a ^ i * b ^ (m - i)
theorem pw_bd {a b m i : Nat} (ha : a ≤ 81) (hb : b ≤ 81) (hm : m ≤ 6) (hi : i ≤ m) : a ^ i * b ^ (m - i) ≤ 282429536481 := by
  calc a ^ i * b ^ (m - i) ≤ 81 ^ i * 81 ^ (m - i) := Nat.mul_le_mul (Nat.pow_le_pow_left ha i) (Nat.pow_le_pow_left hb (m - i))
    _ = 81 ^ m := by rw [← Nat.pow_add]; congr 1; omega
    _ ≤ 81 ^ 6 := Nat.pow_le_pow_right (by decide) hm
    _ = 282429536481 := by decide
theorem mu_bd {a b m : Nat} (ha : a ≤ 81) (hb : b ≤ 81) (hm : m ≤ 6) : ∀ i, i ≤ m + 1 → mu a b m i ≤ i * 1694577218886 ∧ md a b m i ≤ i * 282429536481
  | 0, _ => by simp [mu, md]
  | i + 1, h => by
    have h1 := mu_bd ha hb hm i (by omega)
    have h2 := pw_bd ha hb hm (show i ≤ m by omega)
    have h3 : i * (a ^ i * b ^ (m - i)) ≤ 6 * 282429536481 := Nat.mul_le_mul (by omega) h2
    simp only [mu, md]
    omega
theorem md_pos {a b m : Nat} (ha : 1 ≤ a) (hb : 1 ≤ b) : ∀ i, 1 ≤ i → 1 ≤ md a b m i
  | 0, h => by omega
  | i + 1, _ => by
    have h1 : 1 ≤ a ^ i := Nat.one_le_pow _ _ ha
    have h2 : 1 ≤ b ^ (m - i) := Nat.one_le_pow _ _ hb
    have h3 : 1 * 1 ≤ a ^ i * b ^ (m - i) := Nat.mul_le_mul h1 h2
    simp only [md]; omega
/-- the product that the other makes, factor by factor -/
def mp (a b i : Nat) : Nat → Nat
  | 0 => 1
  | k + 1 => mp a b i k * (if k < i then a else b)
theorem mp_lo (a b i : Nat) : ∀ k, k ≤ i → mp a b i k = a ^ k
  | 0, _ => rfl
  | k + 1, h => by rw [mp, mp_lo a b i k (by omega), if_pos (by omega), Nat.pow_succ]
theorem mp_hi (a b i : Nat) : ∀ k, mp a b i (i + k) = a ^ i * b ^ k
  | 0 => by rw [Nat.add_zero, mp_lo a b i i (Nat.le_refl _)]; simp
  | k + 1 => by rw [show i + (k + 1) = (i + k) + 1 by omega, mp, mp_hi a b i k, if_neg (by omega), Nat.pow_succ, Nat.mul_assoc]
theorem mp_eq {a b i m : Nat} (h : i ≤ m) : mp a b i m = a ^ i * b ^ (m - i) := by
  have := mp_hi a b i (m - i)
  rwa [show i + (m - i) = m by omega] at this
/-- the answer -/
def mnR (a b m : Nat) (c : Int) : Int := (((if c = 0 then mu a b m (m + 1) else md a b m (m + 1)) / Nat.gcd (mu a b m (m + 1)) (md a b m (m + 1)) : Nat) : Int)
set_option maxHeartbeats 4000000 in
set_option maxRecDepth 100000 in
theorem ct_X11_commonDivisor (G : ab_G) (h0 : ab_H) (a b : Nat) (ha : a < 9223372036854775808) (hb : b < 9223372036854775808) : Ct G 0 0 0 YX11_commonDivisor [ab_l (a : Int), ab_l (b : Int)] h0 (fun r h => r = some (ab_l ((Nat.gcd a b : Int))) ∧ h = h0) := by
  refine Ct.ofW kX11_commonDivisor (ls := [some (ab_l (a : Int)), none, some (ab_l (b : Int)), none, none, none, none]) (Nat.le_of_ble_eq_true rfl) rfl ?_
  generalize hg : Nat.gcd a b = g
  generalize hZ : ab_Z G (fun r h => r = some (ab_l ((g : Int))) ∧ h = h0) 0 0 = Z
  have loop : ∀ (d k x y : Nat), k + d = 128 → eu d x y → Nat.gcd x y = g → x < 9223372036854775808 → y < 9223372036854775808 → aW G YX11_commonDivisor (ab_rm 0 0 0) Z 0 0 h0 3 [some (ab_l (x : Int)), none, some (ab_l (y : Int)), none, some (ab_i (k : Int)), none, none] [] := by
    intro d
    induction d with
    | zero =>
      intro k x y hk he hg2 hx hy
      have hy0 : y = 0 := he
      subst hy0
      rw [Nat.gcd_zero_right] at hg2
      refine aw_iload dX11_commonDivisor_3 rfl ?_
      refine aw_sipush dX11_commonDivisor_5 rfl ?_
      refine aw_icmp_ge (tgt := 33) dX11_commonDivisor_8 rfl (by first | assumption | (unfold ab_In at *; omega)) (by first | assumption | (unfold ab_In at *; omega)) (fun c_8 => ?_) (fun c_8 => ?_)
      · refine aw_lload_n dX11_commonDivisor_33 rfl ?_
        rw [← hZ]
        refine aw_lreturn dX11_commonDivisor_34 rfl ?_
        exact ⟨by rw [hg2], rfl⟩
      · exfalso; omega
    | succ d ih =>
      intro k x y hk he hg2 hx hy
      have hl := lcmp_0 hy
      by_cases hy0 : y = 0
      · subst hy0
        rw [Nat.gcd_zero_right] at hg2
        rw [if_pos rfl] at hl
        refine aw_iload dX11_commonDivisor_3 rfl ?_
        refine aw_sipush dX11_commonDivisor_5 rfl ?_
        refine aw_icmp_ge (tgt := 33) dX11_commonDivisor_8 rfl (by first | assumption | (unfold ab_In at *; omega)) (by first | assumption | (unfold ab_In at *; omega)) (fun c_8 => ?_) (fun c_8 => ?_)
        · exfalso; omega
        · refine aw_lload_n dX11_commonDivisor_11 rfl ?_
          refine aw_lconst (z := 0) dX11_commonDivisor_12 rfl ?_
          refine aw_lcmp dX11_commonDivisor_13 ?_
          refine aw_to (z := 0) hl ?_
          refine aw_if_eq (tgt := 33) dX11_commonDivisor_14 rfl ⟨by decide, by decide⟩ (fun _ => ?_) (fun c9 => absurd (by decide) c9)
          refine aw_lload_n dX11_commonDivisor_33 rfl ?_
          rw [← hZ]
          refine aw_lreturn dX11_commonDivisor_34 rfl ?_
          exact ⟨by rw [hg2], rfl⟩
      · rw [if_neg hy0] at hl
        have hm : x % y < y := Nat.mod_lt _ (by omega)
        refine aw_iload dX11_commonDivisor_3 rfl ?_
        refine aw_sipush dX11_commonDivisor_5 rfl ?_
        refine aw_icmp_ge (tgt := 33) dX11_commonDivisor_8 rfl (by first | assumption | (unfold ab_In at *; omega)) (by first | assumption | (unfold ab_In at *; omega)) (fun c_8 => ?_) (fun c_8 => ?_)
        · exfalso; omega
        · refine aw_lload_n dX11_commonDivisor_11 rfl ?_
          refine aw_lconst (z := 0) dX11_commonDivisor_12 rfl ?_
          refine aw_lcmp dX11_commonDivisor_13 ?_
          refine aw_to (z := 1) hl ?_
          refine aw_if_eq (tgt := 33) dX11_commonDivisor_14 rfl ⟨by decide, by decide⟩ (fun c9 => absurd c9 (by decide)) (fun _ => ?_)
          refine aw_lload_n dX11_commonDivisor_17 rfl ?_
          refine aw_lload_n dX11_commonDivisor_18 rfl ?_
          refine aw_lrem dX11_commonDivisor_19 (by unfold ab_Il; omega) (by omega) ?_
          refine aw_toL (z := ((x % y : Nat) : Int)) (lrem_n hx (by omega) hy) ?_
          refine aw_lstore (ls' := [some (ab_l (x : Int)), none, some (ab_l (y : Int)), none, some (ab_i (k : Int)), some (ab_l ((x % y : Nat) : Int)), none]) dX11_commonDivisor_20 (by decide) rfl ?_
          refine aw_lload_n dX11_commonDivisor_22 rfl ?_
          refine aw_lstore_n (ls' := [some (ab_l (y : Int)), none, some (ab_l (y : Int)), none, some (ab_i (k : Int)), some (ab_l ((x % y : Nat) : Int)), none]) dX11_commonDivisor_23 (by decide) rfl ?_
          refine aw_lload dX11_commonDivisor_24 rfl ?_
          refine aw_lstore_n (ls' := [some (ab_l (y : Int)), none, some (ab_l ((x % y : Nat) : Int)), none, some (ab_i (k : Int)), some (ab_l ((x % y : Nat) : Int)), none]) dX11_commonDivisor_26 (by decide) rfl ?_
          refine aw_iinc (ls' := [some (ab_l (y : Int)), none, some (ab_l ((x % y : Nat) : Int)), none, some (ab_i ((k : Int) + 1)), some (ab_l ((x % y : Nat) : Int)), none]) dX11_commonDivisor_27 (by decide) rfl rfl ?_
          refine aw_goto (tgt := 3) dX11_commonDivisor_30 rfl ?_
          have h9 := ih (k + 1) y (x % y) (by omega) (he.resolve_left hy0) ((gcd_step x y).trans hg2) hy (by omega)
          exact aw_le (ab_le_c (ab_le_c (ab_le_c (ab_le_c (ab_le_c (ab_le_n (ab_le_n ab_le_nil))))))) h9
  refine aw_iconst dX11_commonDivisor_0 ?_
  refine aw_istore (ls' := [some (ab_l (a : Int)), none, some (ab_l (b : Int)), none, some (ab_i 0), none, none]) dX11_commonDivisor_1 (by decide) rfl ?_
  exact aw_le (ab_le_c (ab_le_c (ab_le_c (ab_le_c (ab_le_c (ab_le_c (ab_le_c ab_le_nil))))))) (loop 128 0 a b (by omega) (eu_pow 64 a b (by omega)) hg ha hb)
set_option maxHeartbeats 4000000 in
set_option maxRecDepth 100000 in
theorem ct_X11_lowest (G : ab_G) (h0 : ab_H) (a b : Nat) (ha : a < 9223372036854775808) (hb : b < 9223372036854775808) (hb0 : 0 < b) (c : Int) (hc : ab_In c) : Ct G 1 0 0 YX11_lowest [ab_l (a : Int), ab_l (b : Int), ab_i c] h0 (fun r h => r = some (ab_l ((((if c = 0 then a else b) / Nat.gcd a b : Nat) : Int))) ∧ h = h0) := by
  refine Ct.ofW kX11_lowest (ls := [some (ab_l (a : Int)), none, some (ab_l (b : Int)), none, some (ab_i c), none, none]) (Nat.le_of_ble_eq_true rfl) rfl ?_
  have hg : 0 < Nat.gcd a b := Nat.gcd_pos_of_pos_right _ hb0
  have hg2 : Nat.gcd a b < 9223372036854775808 := Nat.lt_of_le_of_lt (Nat.gcd_le_right _ hb0) hb
  have hl := lcmp_0 hg2
  rw [if_neg (by omega)] at hl
  refine aw_lload_n dX11_lowest_0 rfl ?_
  refine aw_lload_n dX11_lowest_1 rfl ?_
  refine aw_callS (as := [ab_l (a : Int), ab_l (b : Int)]) (rest := []) dX11_lowest_2 (ct_X11_commonDivisor G h0 a b ha hb) kX11_commonDivisor sX11_commonDivisor lX11_283 rfl (Nat.le_of_ble_eq_true rfl) (by decide) (by decide) (by decide) (by decide) ?_
  rintro _ _ ⟨rfl, rfl⟩
  refine aw_lstore (ls' := [some (ab_l (a : Int)), none, some (ab_l (b : Int)), none, some (ab_i c), some (ab_l (Nat.gcd a b : Int)), none]) dX11_lowest_5 (by decide) rfl ?_
  refine aw_lload dX11_lowest_7 rfl ?_
  refine aw_lconst (z := 0) dX11_lowest_9 rfl ?_
  refine aw_lcmp dX11_lowest_10 ?_
  refine aw_to (z := 1) hl ?_
  refine aw_if_ne (tgt := 16) dX11_lowest_11 rfl ⟨by decide, by decide⟩ (fun _ => ?_) (fun c9 => absurd c9 (by decide))
  refine aw_iload dX11_lowest_16 rfl ?_
  refine aw_if_ne (tgt := 28) dX11_lowest_18 rfl (by first | assumption | (unfold ab_In at *; omega)) (fun c_18 => ?_) (fun c_18 => ?_)
  · refine aw_lload_n dX11_lowest_28 rfl ?_
    refine aw_lload dX11_lowest_29 rfl ?_
    refine aw_ldiv dX11_lowest_31 (by unfold ab_Il; omega) (by omega) ?_
    refine aw_toL (z := ((b / Nat.gcd a b : Nat) : Int)) (ldiv_n hb hg hg2) ?_
    refine aw_lreturn dX11_lowest_32 rfl ?_
    exact ⟨by first | rw [if_pos (by omega)] | rw [if_neg (by omega)], rfl⟩
  · refine aw_lload_n dX11_lowest_21 rfl ?_
    refine aw_lload dX11_lowest_22 rfl ?_
    refine aw_ldiv dX11_lowest_24 (by unfold ab_Il; omega) (by omega) ?_
    refine aw_toL (z := ((a / Nat.gcd a b : Nat) : Int)) (ldiv_n ha hg hg2) ?_
    refine aw_goto (tgt := 32) dX11_lowest_25 rfl ?_
    refine aw_lreturn dX11_lowest_32 rfl ?_
    exact ⟨by first | rw [if_pos (by omega)] | rw [if_neg (by omega)], rfl⟩
set_option maxHeartbeats 4000000 in
set_option maxRecDepth 100000 in
theorem ct_X12_divisor (G : ab_G) (h0 : ab_H) (a b : Nat) (ha : a < 9223372036854775808) (hb : b < 9223372036854775808) : Ct G 0 0 0 YX12_divisor [ab_l (a : Int), ab_l (b : Int)] h0 (fun r h => r = some (ab_l ((Nat.gcd a b : Int))) ∧ h = h0) := by
  refine Ct.ofW kX12_divisor (ls := [some (ab_l (a : Int)), none, some (ab_l (b : Int)), none, none, none, none, none, none, none]) (Nat.le_of_ble_eq_true rfl) rfl ?_
  generalize hg : Nat.gcd a b = g
  generalize hZ : ab_Z G (fun r h => r = some (ab_l ((g : Int))) ∧ h = h0) 0 0 = Z
  have loop : ∀ (d x y : Nat), eu d x y → Nat.gcd x y = g → x < 9223372036854775808 → y < 9223372036854775808 → aW G YX12_divisor (ab_rm 0 0 0) Z 0 0 h0 6 [none, none, none, none, some (ab_l (x : Int)), none, some (ab_l (y : Int)), none, none, none] [] := by
    intro d
    induction d with
    | zero =>
      intro x y he hg2 hx hy
      have hy0 : y = 0 := he
      subst hy0
      rw [Nat.gcd_zero_right] at hg2
      have hl := lcmp_0 hy
      rw [if_pos rfl] at hl
      refine aw_lload dX12_divisor_6 rfl ?_
      refine aw_lconst (z := 0) dX12_divisor_8 rfl ?_
      refine aw_lcmp dX12_divisor_9 ?_
      refine aw_to (z := 0) hl ?_
      refine aw_if_eq (tgt := 31) dX12_divisor_10 rfl ⟨by decide, by decide⟩ (fun _ => ?_) (fun c9 => absurd (by decide) c9)
      refine aw_lload dX12_divisor_31 rfl ?_
      rw [← hZ]
      refine aw_lreturn dX12_divisor_33 rfl ?_
      exact ⟨by rw [hg2], rfl⟩
    | succ d ih =>
      intro x y he hg2 hx hy
      have hl := lcmp_0 hy
      by_cases hy0 : y = 0
      · subst hy0
        rw [Nat.gcd_zero_right] at hg2
        rw [if_pos rfl] at hl
        refine aw_lload dX12_divisor_6 rfl ?_
        refine aw_lconst (z := 0) dX12_divisor_8 rfl ?_
        refine aw_lcmp dX12_divisor_9 ?_
        refine aw_to (z := 0) hl ?_
        refine aw_if_eq (tgt := 31) dX12_divisor_10 rfl ⟨by decide, by decide⟩ (fun _ => ?_) (fun c9 => absurd (by decide) c9)
        refine aw_lload dX12_divisor_31 rfl ?_
        rw [← hZ]
        refine aw_lreturn dX12_divisor_33 rfl ?_
        exact ⟨by rw [hg2], rfl⟩
      · rw [if_neg hy0] at hl
        have hm : x % y < y := Nat.mod_lt _ (by omega)
        refine aw_lload dX12_divisor_6 rfl ?_
        refine aw_lconst (z := 0) dX12_divisor_8 rfl ?_
        refine aw_lcmp dX12_divisor_9 ?_
        refine aw_to (z := 1) hl ?_
        refine aw_if_eq (tgt := 31) dX12_divisor_10 rfl ⟨by decide, by decide⟩ (fun c9 => absurd c9 (by decide)) (fun _ => ?_)
        refine aw_lload dX12_divisor_13 rfl ?_
        refine aw_lload dX12_divisor_15 rfl ?_
        refine aw_lrem dX12_divisor_17 (by unfold ab_Il; omega) (by omega) ?_
        refine aw_toL (z := ((x % y : Nat) : Int)) (lrem_n hx (by omega) hy) ?_
        refine aw_lstore (ls' := [none, none, none, none, some (ab_l (x : Int)), none, some (ab_l (y : Int)), none, some (ab_l ((x % y : Nat) : Int)), none]) dX12_divisor_18 (by decide) rfl ?_
        refine aw_lload dX12_divisor_20 rfl ?_
        refine aw_lstore (ls' := [none, none, none, none, some (ab_l (y : Int)), none, some (ab_l (y : Int)), none, some (ab_l ((x % y : Nat) : Int)), none]) dX12_divisor_22 (by decide) rfl ?_
        refine aw_lload dX12_divisor_24 rfl ?_
        refine aw_lstore (ls' := [none, none, none, none, some (ab_l (y : Int)), none, some (ab_l ((x % y : Nat) : Int)), none, some (ab_l ((x % y : Nat) : Int)), none]) dX12_divisor_26 (by decide) rfl ?_
        refine aw_goto (tgt := 6) dX12_divisor_28 rfl ?_
        have h9 := ih y (x % y) (he.resolve_left hy0) ((gcd_step x y).trans hg2) hy (by omega)
        exact aw_le (ab_le_c (ab_le_c (ab_le_c (ab_le_c (ab_le_c (ab_le_c (ab_le_c (ab_le_c (ab_le_n (ab_le_n ab_le_nil)))))))))) h9
  refine aw_lload_n dX12_divisor_0 rfl ?_
  refine aw_lstore (ls' := [some (ab_l (a : Int)), none, some (ab_l (b : Int)), none, some (ab_l (a : Int)), none, none, none, none, none]) dX12_divisor_1 (by decide) rfl ?_
  refine aw_lload_n dX12_divisor_3 rfl ?_
  refine aw_lstore (ls' := [some (ab_l (a : Int)), none, some (ab_l (b : Int)), none, some (ab_l (a : Int)), none, some (ab_l (b : Int)), none, none, none]) dX12_divisor_4 (by decide) rfl ?_
  exact aw_le (ls' := [none, none, none, none, some (ab_l (a : Int)), none, some (ab_l (b : Int)), none, none, none]) (ab_le_n (ab_le_c (ab_le_n (ab_le_c (ab_le_c (ab_le_c (ab_le_c (ab_le_c (ab_le_c (ab_le_c ab_le_nil)))))))))) (loop 128 a b (eu_pow 64 a b (by omega)) hg ha hb)
set_option maxHeartbeats 4000000 in
set_option maxRecDepth 100000 in
theorem ct_X11_power (G : ab_G) (h0 : ab_H) (a n : Nat) (hn : n ≤ 100) : Ct G 0 0 0 YX11_power [ab_l (a : Int), ab_i (n : Int)] h0 (fun r h => r = some (ab_l (((a ^ n : Nat) : Int))) ∧ h = h0) := by
  refine Ct.ofW kX11_power (ls := [some (ab_l (a : Int)), none, some (ab_i (n : Int)), none, none, none]) (Nat.le_of_ble_eq_true rfl) rfl ?_
  generalize hZ : ab_Z G (fun r h => r = some (ab_l (((a ^ n : Nat) : Int))) ∧ h = h0) 0 0 = Z
  have loop : ∀ (d k : Nat), k + d = n → aW G YX11_power (ab_rm 0 0 0) Z 0 0 h0 5 [some (ab_l (a : Int)), none, some (ab_i (n : Int)), some (ab_l ((a ^ k : Nat) : Int)), none, some (ab_i (k : Int))] [] := by
    intro d
    induction d with
    | zero =>
      intro k hk
      have hkn : k = n := by omega
      subst hkn
      refine aw_iload dX11_power_5 rfl ?_
      refine aw_iload_n dX11_power_7 rfl ?_
      refine aw_icmp_ge (tgt := 21) dX11_power_8 rfl (by first | assumption | (unfold ab_In at *; omega)) (by first | assumption | (unfold ab_In at *; omega)) (fun c_8 => ?_) (fun c_8 => ?_)
      · refine aw_lload_n dX11_power_21 rfl ?_
        rw [← hZ]
        refine aw_lreturn dX11_power_22 rfl ?_
        exact ⟨rfl, rfl⟩
      · exfalso; omega
    | succ d ih =>
      intro k hk
      refine aw_iload dX11_power_5 rfl ?_
      refine aw_iload_n dX11_power_7 rfl ?_
      refine aw_icmp_ge (tgt := 21) dX11_power_8 rfl (by first | assumption | (unfold ab_In at *; omega)) (by first | assumption | (unfold ab_In at *; omega)) (fun c_8 => ?_) (fun c_8 => ?_)
      · exfalso; omega
      · refine aw_lload_n dX11_power_11 rfl ?_
        refine aw_lload_n dX11_power_12 rfl ?_
        refine aw_lmul dX11_power_13 ?_
        refine aw_toL (z := ((a ^ (k + 1) : Nat) : Int)) (by rw [Nat.pow_succ, Int.natCast_mul]) ?_
        refine aw_lstore_n (ls' := [some (ab_l (a : Int)), none, some (ab_i (n : Int)), some (ab_l ((a ^ (k + 1) : Nat) : Int)), none, some (ab_i (k : Int))]) dX11_power_14 (by decide) rfl ?_
        refine aw_iinc (ls' := [some (ab_l (a : Int)), none, some (ab_i (n : Int)), some (ab_l ((a ^ (k + 1) : Nat) : Int)), none, some (ab_i ((k : Int) + 1))]) dX11_power_15 (by decide) rfl rfl ?_
        refine aw_goto (tgt := 5) dX11_power_18 rfl ?_
        exact ih (k + 1) (by omega)
  refine aw_lconst (z := 1) dX11_power_0 rfl ?_
  refine aw_lstore_n (ls' := [some (ab_l (a : Int)), none, some (ab_i (n : Int)), some (ab_l 1), none, none]) dX11_power_1 (by decide) rfl ?_
  refine aw_iconst dX11_power_2 ?_
  refine aw_istore (ls' := [some (ab_l (a : Int)), none, some (ab_i (n : Int)), some (ab_l 1), none, some (ab_i 0)]) dX11_power_3 (by decide) rfl ?_
  exact loop n 0 (by omega)
set_option maxHeartbeats 4000000 in
set_option maxRecDepth 100000 in
theorem ct_X11_mean_bad (G : ab_G) (I : Nat → Nat → Int) (F : Nat → Nat → Nat) (p : Int) (hp : ab_In p) (q : Int) (hq : ab_In q) (m : Int) (hm : ab_In m) (c : Int) (hc : ab_In c) (hbad : ¬ ((1 ≤ p ∧ p ≤ 9) ∧ (1 ≤ q ∧ q ≤ 9) ∧ (1 ≤ m ∧ m ≤ 6) ∧ (0 ≤ c ∧ c ≤ 1))) : Ct G 2 0 0 YX11_mean [ab_r 1, ab_i p, ab_i q, ab_i m, ab_i c] (104, I, F) (fun r h => r = some (ab_l (-3)) ∧ h = (104, I, F)) := by
  refine Ct.ofW kX11_mean (ls := [some (ab_r 1), some (ab_i p), some (ab_i q), some (ab_i m), some (ab_i c), none, none, none, none, none, none, none, none, none, none, none]) (Nat.le_of_ble_eq_true rfl) rfl ?_
  refine aw_iload_n dX11_mean_0 rfl ?_
  refine aw_iconst dX11_mean_1 ?_
  refine aw_bipush dX11_mean_2 rfl ?_
  refine aw_callS (as := [ab_i p, ab_i 1, ab_i 9]) (rest := []) dX11_mean_4 (ct_X11_within G (104, I, F) p 1 9 (by first | assumption | (unfold ab_In at *; omega)) (by first | assumption | (unfold ab_In at *; omega)) (by first | assumption | (unfold ab_In at *; omega))) kX11_within sX11_within lX11_89 rfl (Nat.le_of_ble_eq_true rfl) (by decide) (by decide) (by decide) (by decide) ?_
  rintro r9 _ ⟨e9, rfl⟩
  by_cases q1 : 1 ≤ p ∧ p ≤ 9
  · rw [if_pos q1] at e9
    subst e9
    refine aw_if_eq (tgt := 20) dX11_mean_7 rfl ⟨by decide, by decide⟩ (fun c9 => absurd c9 (by decide)) (fun _ => ?_)
    refine aw_iload_n dX11_mean_10 rfl ?_
    refine aw_iconst dX11_mean_11 ?_
    refine aw_bipush dX11_mean_12 rfl ?_
    refine aw_callS (as := [ab_i q, ab_i 1, ab_i 9]) (rest := []) dX11_mean_14 (ct_X11_within G (104, I, F) q 1 9 (by first | assumption | (unfold ab_In at *; omega)) (by first | assumption | (unfold ab_In at *; omega)) (by first | assumption | (unfold ab_In at *; omega))) kX11_within sX11_within lX11_89 rfl (Nat.le_of_ble_eq_true rfl) (by decide) (by decide) (by decide) (by decide) ?_
    rintro r9 _ ⟨e9, rfl⟩
    by_cases q2 : 1 ≤ q ∧ q ≤ 9
    · rw [if_pos q2] at e9
      subst e9
      refine aw_if_ne (tgt := 24) dX11_mean_17 rfl ⟨by decide, by decide⟩ (fun _ => ?_) (fun c9 => absurd c9 (by decide))
      refine aw_iload_n dX11_mean_24 rfl ?_
      refine aw_iconst dX11_mean_25 ?_
      refine aw_bipush dX11_mean_26 rfl ?_
      refine aw_callS (as := [ab_i m, ab_i 1, ab_i 6]) (rest := []) dX11_mean_28 (ct_X11_within G (104, I, F) m 1 6 (by first | assumption | (unfold ab_In at *; omega)) (by first | assumption | (unfold ab_In at *; omega)) (by first | assumption | (unfold ab_In at *; omega))) kX11_within sX11_within lX11_89 rfl (Nat.le_of_ble_eq_true rfl) (by decide) (by decide) (by decide) (by decide) ?_
      rintro r9 _ ⟨e9, rfl⟩
      by_cases q3 : 1 ≤ m ∧ m ≤ 6
      · rw [if_pos q3] at e9
        subst e9
        refine aw_if_eq (tgt := 44) dX11_mean_31 rfl ⟨by decide, by decide⟩ (fun c9 => absurd c9 (by decide)) (fun _ => ?_)
        refine aw_iload dX11_mean_34 rfl ?_
        refine aw_iconst dX11_mean_36 ?_
        refine aw_iconst dX11_mean_37 ?_
        refine aw_callS (as := [ab_i c, ab_i 0, ab_i 1]) (rest := []) dX11_mean_38 (ct_X11_within G (104, I, F) c 0 1 (by first | assumption | (unfold ab_In at *; omega)) (by first | assumption | (unfold ab_In at *; omega)) (by first | assumption | (unfold ab_In at *; omega))) kX11_within sX11_within lX11_89 rfl (Nat.le_of_ble_eq_true rfl) (by decide) (by decide) (by decide) (by decide) ?_
        rintro r9 _ ⟨e9, rfl⟩
        by_cases q4 : 0 ≤ c ∧ c ≤ 1
        · rw [if_pos q4] at e9
          subst e9
          refine aw_if_ne (tgt := 48) dX11_mean_41 rfl ⟨by decide, by decide⟩ (fun _ => ?_) (fun c9 => absurd c9 (by decide))
          exfalso; omega
        · rw [if_neg q4] at e9
          subst e9
          refine aw_if_ne (tgt := 48) dX11_mean_41 rfl ⟨by decide, by decide⟩ (fun c9 => absurd rfl c9) (fun _ => ?_)
          refine aw_ldc2 (z := (-3)) dX11_mean_44 nX11_269 ?_
          refine aw_lreturn dX11_mean_47 rfl ?_
          exact ⟨rfl, rfl⟩
      · rw [if_neg q3] at e9
        subst e9
        refine aw_if_eq (tgt := 44) dX11_mean_31 rfl ⟨by decide, by decide⟩ (fun _ => ?_) (fun c9 => absurd (by decide) c9)
        refine aw_ldc2 (z := (-3)) dX11_mean_44 nX11_269 ?_
        refine aw_lreturn dX11_mean_47 rfl ?_
        exact ⟨rfl, rfl⟩
    · rw [if_neg q2] at e9
      subst e9
      refine aw_if_ne (tgt := 24) dX11_mean_17 rfl ⟨by decide, by decide⟩ (fun c9 => absurd rfl c9) (fun _ => ?_)
      refine aw_ldc2 (z := (-3)) dX11_mean_20 nX11_269 ?_
      refine aw_lreturn dX11_mean_23 rfl ?_
      exact ⟨rfl, rfl⟩
  · rw [if_neg q1] at e9
    subst e9
    refine aw_if_eq (tgt := 20) dX11_mean_7 rfl ⟨by decide, by decide⟩ (fun _ => ?_) (fun c9 => absurd (by decide) c9)
    refine aw_ldc2 (z := (-3)) dX11_mean_20 nX11_269 ?_
    refine aw_lreturn dX11_mean_23 rfl ?_
    exact ⟨rfl, rfl⟩
set_option maxHeartbeats 4000000 in
set_option maxRecDepth 100000 in
theorem ct_X12_mean_bad (G : ab_G) (I : Nat → Nat → Int) (F : Nat → Nat → Nat) (p : Int) (hp : ab_In p) (q : Int) (hq : ab_In q) (m : Int) (hm : ab_In m) (c : Int) (hc : ab_In c) (hbad : ¬ ((1 ≤ p ∧ p ≤ 9) ∧ (1 ≤ q ∧ q ≤ 9) ∧ (1 ≤ m ∧ m ≤ 6) ∧ (0 ≤ c ∧ c ≤ 1))) : Ct G 2 0 0 YX12_mean [ab_r 84, ab_i p, ab_i q, ab_i m, ab_i c] (104, I, F) (fun r h => r = some (ab_l (-3)) ∧ h = (104, I, F)) := by
  refine Ct.ofW kX12_mean (ls := [some (ab_r 84), some (ab_i p), some (ab_i q), some (ab_i m), some (ab_i c), none, none, none, none, none, none, none, none]) (Nat.le_of_ble_eq_true rfl) rfl ?_
  refine aw_iload_n dX12_mean_0 rfl ?_
  refine aw_iconst dX12_mean_1 ?_
  refine aw_bipush dX12_mean_2 rfl ?_
  refine aw_callS (as := [ab_i p, ab_i 1, ab_i 9]) (rest := []) dX12_mean_4 (ct_X12_in G (104, I, F) p 1 9 (by first | assumption | (unfold ab_In at *; omega)) (by first | assumption | (unfold ab_In at *; omega)) (by first | assumption | (unfold ab_In at *; omega))) kX12_in sX12_in lX12_75 rfl (Nat.le_of_ble_eq_true rfl) (by decide) (by decide) (by decide) (by decide) ?_
  rintro r9 _ ⟨e9, rfl⟩
  by_cases q1 : 1 ≤ p ∧ p ≤ 9
  · rw [if_pos q1] at e9
    subst e9
    refine aw_if_eq (tgt := 40) dX12_mean_7 rfl ⟨by decide, by decide⟩ (fun c9 => absurd c9 (by decide)) (fun _ => ?_)
    refine aw_iload_n dX12_mean_10 rfl ?_
    refine aw_iconst dX12_mean_11 ?_
    refine aw_bipush dX12_mean_12 rfl ?_
    refine aw_callS (as := [ab_i q, ab_i 1, ab_i 9]) (rest := []) dX12_mean_14 (ct_X12_in G (104, I, F) q 1 9 (by first | assumption | (unfold ab_In at *; omega)) (by first | assumption | (unfold ab_In at *; omega)) (by first | assumption | (unfold ab_In at *; omega))) kX12_in sX12_in lX12_75 rfl (Nat.le_of_ble_eq_true rfl) (by decide) (by decide) (by decide) (by decide) ?_
    rintro r9 _ ⟨e9, rfl⟩
    by_cases q2 : 1 ≤ q ∧ q ≤ 9
    · rw [if_pos q2] at e9
      subst e9
      refine aw_if_eq (tgt := 40) dX12_mean_17 rfl ⟨by decide, by decide⟩ (fun c9 => absurd c9 (by decide)) (fun _ => ?_)
      refine aw_iload_n dX12_mean_20 rfl ?_
      refine aw_iconst dX12_mean_21 ?_
      refine aw_bipush dX12_mean_22 rfl ?_
      refine aw_callS (as := [ab_i m, ab_i 1, ab_i 6]) (rest := []) dX12_mean_24 (ct_X12_in G (104, I, F) m 1 6 (by first | assumption | (unfold ab_In at *; omega)) (by first | assumption | (unfold ab_In at *; omega)) (by first | assumption | (unfold ab_In at *; omega))) kX12_in sX12_in lX12_75 rfl (Nat.le_of_ble_eq_true rfl) (by decide) (by decide) (by decide) (by decide) ?_
      rintro r9 _ ⟨e9, rfl⟩
      by_cases q3 : 1 ≤ m ∧ m ≤ 6
      · rw [if_pos q3] at e9
        subst e9
        refine aw_if_eq (tgt := 40) dX12_mean_27 rfl ⟨by decide, by decide⟩ (fun c9 => absurd c9 (by decide)) (fun _ => ?_)
        refine aw_iload dX12_mean_30 rfl ?_
        refine aw_iconst dX12_mean_32 ?_
        refine aw_iconst dX12_mean_33 ?_
        refine aw_callS (as := [ab_i c, ab_i 0, ab_i 1]) (rest := []) dX12_mean_34 (ct_X12_in G (104, I, F) c 0 1 (by first | assumption | (unfold ab_In at *; omega)) (by first | assumption | (unfold ab_In at *; omega)) (by first | assumption | (unfold ab_In at *; omega))) kX12_in sX12_in lX12_75 rfl (Nat.le_of_ble_eq_true rfl) (by decide) (by decide) (by decide) (by decide) ?_
        rintro r9 _ ⟨e9, rfl⟩
        by_cases q4 : 0 ≤ c ∧ c ≤ 1
        · rw [if_pos q4] at e9
          subst e9
          refine aw_if_ne (tgt := 44) dX12_mean_37 rfl ⟨by decide, by decide⟩ (fun _ => ?_) (fun c9 => absurd c9 (by decide))
          exfalso; omega
        · rw [if_neg q4] at e9
          subst e9
          refine aw_if_ne (tgt := 44) dX12_mean_37 rfl ⟨by decide, by decide⟩ (fun c9 => absurd rfl c9) (fun _ => ?_)
          refine aw_ldc2 (z := (-3)) dX12_mean_40 nX12_141 ?_
          refine aw_lreturn dX12_mean_43 rfl ?_
          exact ⟨rfl, rfl⟩
      · rw [if_neg q3] at e9
        subst e9
        refine aw_if_eq (tgt := 40) dX12_mean_27 rfl ⟨by decide, by decide⟩ (fun _ => ?_) (fun c9 => absurd (by decide) c9)
        refine aw_ldc2 (z := (-3)) dX12_mean_40 nX12_141 ?_
        refine aw_lreturn dX12_mean_43 rfl ?_
        exact ⟨rfl, rfl⟩
    · rw [if_neg q2] at e9
      subst e9
      refine aw_if_eq (tgt := 40) dX12_mean_17 rfl ⟨by decide, by decide⟩ (fun _ => ?_) (fun c9 => absurd (by decide) c9)
      refine aw_ldc2 (z := (-3)) dX12_mean_40 nX12_141 ?_
      refine aw_lreturn dX12_mean_43 rfl ?_
      exact ⟨rfl, rfl⟩
  · rw [if_neg q1] at e9
    subst e9
    refine aw_if_eq (tgt := 40) dX12_mean_7 rfl ⟨by decide, by decide⟩ (fun _ => ?_) (fun c9 => absurd (by decide) c9)
    refine aw_ldc2 (z := (-3)) dX12_mean_40 nX12_141 ?_
    refine aw_lreturn dX12_mean_43 rfl ?_
    exact ⟨rfl, rfl⟩
set_option maxHeartbeats 4000000 in
set_option maxRecDepth 100000 in
theorem ct_X11_mean (G : ab_G) (I : Nat → Nat → Int) (F : Nat → Nat → Nat) (p q m : Nat) (hp : 1 ≤ p ∧ p ≤ 9) (hq : 1 ≤ q ∧ q ≤ 9) (hm : 1 ≤ m ∧ m ≤ 6) (c : Int) (hc : 0 ≤ c ∧ c ≤ 1) : Ct G 2 0 0 YX11_mean [ab_r 1, ab_i (p : Int), ab_i (q : Int), ab_i (m : Int), ab_i c] (104, I, F) (fun r h => r = some (ab_l (mnR (p * (10 - q)) (q * (10 - p)) m c)) ∧ h = (104, I, F)) := by
  refine Ct.ofW kX11_mean (ls := [some (ab_r 1), some (ab_i (p : Int)), some (ab_i (q : Int)), some (ab_i (m : Int)), some (ab_i c), none, none, none, none, none, none, none, none, none, none, none]) (Nat.le_of_ble_eq_true rfl) rfl ?_
  obtain ⟨a, ha⟩ : ∃ a : Nat, a = p * (10 - q) := ⟨_, rfl⟩
  obtain ⟨b, hb⟩ : ∃ b : Nat, b = q * (10 - p) := ⟨_, rfl⟩
  have ha1 : 1 ≤ a ∧ a ≤ 81 := by rw [ha]; exact ⟨Nat.mul_pos (by omega) (by omega), Nat.mul_le_mul (show p ≤ 9 by omega) (show 10 - q ≤ 9 by omega)⟩
  have hb1 : 1 ≤ b ∧ b ≤ 81 := by rw [hb]; exact ⟨Nat.mul_pos (by omega) (by omega), Nat.mul_le_mul (show q ≤ 9 by omega) (show 10 - p ≤ 9 by omega)⟩
  have eA : (p : Int) * (10 - (q : Int)) = (a : Int) := by rw [ha, Int.natCast_mul]; congr 1; omega
  have eB : (q : Int) * (10 - (p : Int)) = (b : Int) := by rw [hb, Int.natCast_mul]; congr 1; omega
  rw [← ha, ← hb]
  have hbd := mu_bd ha1.2 hb1.2 hm.2
  have hE := hbd (m + 1) (Nat.le_refl _)
  have hD := md_pos (m := m) ha1.1 hb1.1 (m + 1) (by omega)
  generalize hZ : ab_Z G (fun r h => r = some (ab_l (mnR a b m c)) ∧ h = (104, I, F)) 0 0 = Z
  have loop : ∀ (d k : Nat), k + d = m + 1 → aW G YX11_mean (ab_rm 2 0 0) Z 0 0 (104, I, F) 77 [some (ab_r 1), some (ab_i (p : Int)), some (ab_i (q : Int)), some (ab_i (m : Int)), some (ab_i c), some (ab_l (a : Int)), none, some (ab_l (b : Int)), none, some (ab_l (mu a b m k : Int)), none, some (ab_l (md a b m k : Int)), none, some (ab_i (k : Int)), none, none] [] := by
    intro d
    induction d with
    | zero =>
      intro k hk
      have hkm : k = m + 1 := by omega
      subst hkm
      refine aw_iload dX11_mean_77 rfl ?_
      refine aw_iload_n dX11_mean_79 rfl ?_
      refine aw_icmp_gt (tgt := 126) dX11_mean_80 rfl (by first | assumption | (unfold ab_In at *; omega)) (by first | assumption | (unfold ab_In at *; omega)) (fun c_80 => ?_) (fun c_80 => ?_)
      · refine aw_lload dX11_mean_126 rfl ?_
        refine aw_lload dX11_mean_128 rfl ?_
        refine aw_iload dX11_mean_130 rfl ?_
        refine aw_callS (as := [ab_l (mu a b m (m + 1) : Int), ab_l (md a b m (m + 1) : Int), ab_i c]) (rest := []) dX11_mean_132 (ct_X11_lowest G (104, I, F) (mu a b m (m + 1)) (md a b m (m + 1)) (by omega) (by omega) (by omega) c (by unfold ab_In; omega)) kX11_lowest sX11_lowest lX11_247 rfl (Nat.le_of_ble_eq_true rfl) (by decide) (by decide) (by decide) (by decide) ?_
        rintro _ _ ⟨rfl, rfl⟩
        rw [← hZ]
        refine aw_lreturn dX11_mean_135 rfl ?_
        exact ⟨rfl, rfl⟩
      · exfalso; omega
    | succ d ih =>
      intro k hk
      have hbk := hbd k (by omega)
      refine aw_iload dX11_mean_77 rfl ?_
      refine aw_iload_n dX11_mean_79 rfl ?_
      refine aw_icmp_gt (tgt := 126) dX11_mean_80 rfl (by first | assumption | (unfold ab_In at *; omega)) (by first | assumption | (unfold ab_In at *; omega)) (fun c_80 => ?_) (fun c_80 => ?_)
      · exfalso; omega
      · refine aw_lload dX11_mean_83 rfl ?_
        refine aw_iload dX11_mean_85 rfl ?_
        refine aw_callS (as := [ab_l (a : Int), ab_i (k : Int)]) (rest := []) dX11_mean_87 (ct_X11_power G (104, I, F) a k (by omega)) kX11_power sX11_power lX11_271 rfl (Nat.le_of_ble_eq_true rfl) (by decide) (by decide) (by decide) (by decide) ?_
        rintro _ _ ⟨rfl, rfl⟩
        refine aw_lload dX11_mean_90 rfl ?_
        refine aw_iload_n dX11_mean_92 rfl ?_
        refine aw_iload dX11_mean_93 rfl ?_
        refine aw_isub dX11_mean_95 ?_
        refine aw_to (z := ((m - k : Nat) : Int)) (by omega) ?_
        refine aw_callS (as := [ab_l (b : Int), ab_i ((m - k : Nat) : Int)]) (rest := [ab_l ((a ^ k : Nat) : Int)]) dX11_mean_96 (ct_X11_power G (104, I, F) b (m - k) (by omega)) kX11_power sX11_power lX11_271 rfl (Nat.le_of_ble_eq_true rfl) (by decide) (by decide) (by decide) (by decide) ?_
        rintro _ _ ⟨rfl, rfl⟩
        refine aw_lmul dX11_mean_99 ?_
        refine aw_toL (z := ((a ^ k * b ^ (m - k) : Nat) : Int)) (by rw [Int.natCast_mul]) ?_
        refine aw_lstore (ls' := [some (ab_r 1), some (ab_i (p : Int)), some (ab_i (q : Int)), some (ab_i (m : Int)), some (ab_i c), some (ab_l (a : Int)), none, some (ab_l (b : Int)), none, some (ab_l (mu a b m k : Int)), none, some (ab_l (md a b m k : Int)), none, some (ab_i (k : Int)), some (ab_l ((a ^ k * b ^ (m - k) : Nat) : Int)), none]) dX11_mean_100 (by decide) rfl ?_
        refine aw_lload dX11_mean_102 rfl ?_
        refine aw_iload dX11_mean_104 rfl ?_
        refine aw_i2l dX11_mean_106 ?_
        refine aw_toL (z := (k : Int)) (i2l_in (by unfold ab_In; omega)) ?_
        refine aw_lload dX11_mean_107 rfl ?_
        refine aw_lmul dX11_mean_109 ?_
        refine aw_ladd dX11_mean_110 ?_
        refine aw_toL (z := ((mu a b m (k + 1) : Nat) : Int)) (by rw [mu, Int.natCast_add, Int.natCast_mul k]) ?_
        refine aw_lstore (ls' := [some (ab_r 1), some (ab_i (p : Int)), some (ab_i (q : Int)), some (ab_i (m : Int)), some (ab_i c), some (ab_l (a : Int)), none, some (ab_l (b : Int)), none, some (ab_l ((mu a b m (k + 1) : Nat) : Int)), none, some (ab_l (md a b m k : Int)), none, some (ab_i (k : Int)), some (ab_l ((a ^ k * b ^ (m - k) : Nat) : Int)), none]) dX11_mean_111 (by decide) rfl ?_
        refine aw_lload dX11_mean_113 rfl ?_
        refine aw_lload dX11_mean_115 rfl ?_
        refine aw_ladd dX11_mean_117 ?_
        refine aw_toL (z := ((md a b m (k + 1) : Nat) : Int)) (by rw [md, Int.natCast_add]) ?_
        refine aw_lstore (ls' := [some (ab_r 1), some (ab_i (p : Int)), some (ab_i (q : Int)), some (ab_i (m : Int)), some (ab_i c), some (ab_l (a : Int)), none, some (ab_l (b : Int)), none, some (ab_l ((mu a b m (k + 1) : Nat) : Int)), none, some (ab_l ((md a b m (k + 1) : Nat) : Int)), none, some (ab_i (k : Int)), some (ab_l ((a ^ k * b ^ (m - k) : Nat) : Int)), none]) dX11_mean_118 (by decide) rfl ?_
        refine aw_iinc (ls' := [some (ab_r 1), some (ab_i (p : Int)), some (ab_i (q : Int)), some (ab_i (m : Int)), some (ab_i c), some (ab_l (a : Int)), none, some (ab_l (b : Int)), none, some (ab_l ((mu a b m (k + 1) : Nat) : Int)), none, some (ab_l ((md a b m (k + 1) : Nat) : Int)), none, some (ab_i ((k : Int) + 1)), some (ab_l ((a ^ k * b ^ (m - k) : Nat) : Int)), none]) dX11_mean_120 (by decide) rfl rfl ?_
        refine aw_goto (tgt := 77) dX11_mean_123 rfl ?_
        have h9 := ih (k + 1) (by omega)
        exact aw_le (ls' := [some (ab_r 1), some (ab_i (p : Int)), some (ab_i (q : Int)), some (ab_i (m : Int)), some (ab_i c), some (ab_l (a : Int)), none, some (ab_l (b : Int)), none, some (ab_l ((mu a b m (k + 1) : Nat) : Int)), none, some (ab_l ((md a b m (k + 1) : Nat) : Int)), none, some (ab_i ((k : Int) + 1)), none, none]) (ab_le_c (ab_le_c (ab_le_c (ab_le_c (ab_le_c (ab_le_c (ab_le_c (ab_le_c (ab_le_c (ab_le_c (ab_le_c (ab_le_c (ab_le_c (ab_le_c (ab_le_n (ab_le_c ab_le_nil)))))))))))))))) h9
  refine aw_iload_n dX11_mean_0 rfl ?_
  refine aw_iconst dX11_mean_1 ?_
  refine aw_bipush dX11_mean_2 rfl ?_
  refine aw_callS (as := [ab_i (p : Int), ab_i 1, ab_i 9]) (rest := []) dX11_mean_4 (ct_X11_within G (104, I, F) (p : Int) 1 9 (by first | assumption | (unfold ab_In at *; omega)) (by first | assumption | (unfold ab_In at *; omega)) (by first | assumption | (unfold ab_In at *; omega))) kX11_within sX11_within lX11_89 rfl (Nat.le_of_ble_eq_true rfl) (by decide) (by decide) (by decide) (by decide) ?_
  rintro r9 _ ⟨e9, rfl⟩
  rw [if_pos (by omega)] at e9
  subst e9
  refine aw_if_eq (tgt := 20) dX11_mean_7 rfl ⟨by decide, by decide⟩ (fun c9 => absurd c9 (by decide)) (fun _ => ?_)
  refine aw_iload_n dX11_mean_10 rfl ?_
  refine aw_iconst dX11_mean_11 ?_
  refine aw_bipush dX11_mean_12 rfl ?_
  refine aw_callS (as := [ab_i (q : Int), ab_i 1, ab_i 9]) (rest := []) dX11_mean_14 (ct_X11_within G (104, I, F) (q : Int) 1 9 (by first | assumption | (unfold ab_In at *; omega)) (by first | assumption | (unfold ab_In at *; omega)) (by first | assumption | (unfold ab_In at *; omega))) kX11_within sX11_within lX11_89 rfl (Nat.le_of_ble_eq_true rfl) (by decide) (by decide) (by decide) (by decide) ?_
  rintro r9 _ ⟨e9, rfl⟩
  rw [if_pos (by omega)] at e9
  subst e9
  refine aw_if_ne (tgt := 24) dX11_mean_17 rfl ⟨by decide, by decide⟩ (fun _ => ?_) (fun c9 => absurd c9 (by decide))
  refine aw_iload_n dX11_mean_24 rfl ?_
  refine aw_iconst dX11_mean_25 ?_
  refine aw_bipush dX11_mean_26 rfl ?_
  refine aw_callS (as := [ab_i (m : Int), ab_i 1, ab_i 6]) (rest := []) dX11_mean_28 (ct_X11_within G (104, I, F) (m : Int) 1 6 (by first | assumption | (unfold ab_In at *; omega)) (by first | assumption | (unfold ab_In at *; omega)) (by first | assumption | (unfold ab_In at *; omega))) kX11_within sX11_within lX11_89 rfl (Nat.le_of_ble_eq_true rfl) (by decide) (by decide) (by decide) (by decide) ?_
  rintro r9 _ ⟨e9, rfl⟩
  rw [if_pos (by omega)] at e9
  subst e9
  refine aw_if_eq (tgt := 44) dX11_mean_31 rfl ⟨by decide, by decide⟩ (fun c9 => absurd c9 (by decide)) (fun _ => ?_)
  refine aw_iload dX11_mean_34 rfl ?_
  refine aw_iconst dX11_mean_36 ?_
  refine aw_iconst dX11_mean_37 ?_
  refine aw_callS (as := [ab_i c, ab_i 0, ab_i 1]) (rest := []) dX11_mean_38 (ct_X11_within G (104, I, F) c 0 1 (by first | assumption | (unfold ab_In at *; omega)) (by first | assumption | (unfold ab_In at *; omega)) (by first | assumption | (unfold ab_In at *; omega))) kX11_within sX11_within lX11_89 rfl (Nat.le_of_ble_eq_true rfl) (by decide) (by decide) (by decide) (by decide) ?_
  rintro r9 _ ⟨e9, rfl⟩
  rw [if_pos (by omega)] at e9
  subst e9
  refine aw_if_ne (tgt := 48) dX11_mean_41 rfl ⟨by decide, by decide⟩ (fun _ => ?_) (fun c9 => absurd c9 (by decide))
  refine aw_iload_n dX11_mean_48 rfl ?_
  refine aw_i2l dX11_mean_49 ?_
  refine aw_toL (z := (p : Int)) (i2l_in (by unfold ab_In; omega)) ?_
  refine aw_bipush dX11_mean_50 rfl ?_
  refine aw_iload_n dX11_mean_52 rfl ?_
  refine aw_isub dX11_mean_53 ?_
  refine aw_i2l dX11_mean_54 ?_
  refine aw_toL (z := (10 - (q : Int))) (i2l_in (by unfold ab_In; omega)) ?_
  refine aw_lmul dX11_mean_55 ?_
  refine aw_toL (z := (a : Int)) eA ?_
  refine aw_lstore (ls' := [some (ab_r 1), some (ab_i (p : Int)), some (ab_i (q : Int)), some (ab_i (m : Int)), some (ab_i c), some (ab_l (a : Int)), none, none, none, none, none, none, none, none, none, none]) dX11_mean_56 (by decide) rfl ?_
  refine aw_iload_n dX11_mean_58 rfl ?_
  refine aw_i2l dX11_mean_59 ?_
  refine aw_toL (z := (q : Int)) (i2l_in (by unfold ab_In; omega)) ?_
  refine aw_bipush dX11_mean_60 rfl ?_
  refine aw_iload_n dX11_mean_62 rfl ?_
  refine aw_isub dX11_mean_63 ?_
  refine aw_i2l dX11_mean_64 ?_
  refine aw_toL (z := (10 - (p : Int))) (i2l_in (by unfold ab_In; omega)) ?_
  refine aw_lmul dX11_mean_65 ?_
  refine aw_toL (z := (b : Int)) eB ?_
  refine aw_lstore (ls' := [some (ab_r 1), some (ab_i (p : Int)), some (ab_i (q : Int)), some (ab_i (m : Int)), some (ab_i c), some (ab_l (a : Int)), none, some (ab_l (b : Int)), none, none, none, none, none, none, none, none]) dX11_mean_66 (by decide) rfl ?_
  refine aw_lconst (z := 0) dX11_mean_68 rfl ?_
  refine aw_lstore (ls' := [some (ab_r 1), some (ab_i (p : Int)), some (ab_i (q : Int)), some (ab_i (m : Int)), some (ab_i c), some (ab_l (a : Int)), none, some (ab_l (b : Int)), none, some (ab_l 0), none, none, none, none, none, none]) dX11_mean_69 (by decide) rfl ?_
  refine aw_lconst (z := 0) dX11_mean_71 rfl ?_
  refine aw_lstore (ls' := [some (ab_r 1), some (ab_i (p : Int)), some (ab_i (q : Int)), some (ab_i (m : Int)), some (ab_i c), some (ab_l (a : Int)), none, some (ab_l (b : Int)), none, some (ab_l 0), none, some (ab_l 0), none, none, none, none]) dX11_mean_72 (by decide) rfl ?_
  refine aw_iconst dX11_mean_74 ?_
  refine aw_istore (ls' := [some (ab_r 1), some (ab_i (p : Int)), some (ab_i (q : Int)), some (ab_i (m : Int)), some (ab_i c), some (ab_l (a : Int)), none, some (ab_l (b : Int)), none, some (ab_l 0), none, some (ab_l 0), none, some (ab_i 0), none, none]) dX11_mean_75 (by decide) rfl ?_
  exact loop (m + 1) 0 (by omega)
set_option maxHeartbeats 4000000 in
set_option maxRecDepth 100000 in
theorem ct_X12_mean (G : ab_G) (I : Nat → Nat → Int) (F : Nat → Nat → Nat) (p q m : Nat) (hp : 1 ≤ p ∧ p ≤ 9) (hq : 1 ≤ q ∧ q ≤ 9) (hm : 1 ≤ m ∧ m ≤ 6) (c : Int) (hc : 0 ≤ c ∧ c ≤ 1) : Ct G 2 0 0 YX12_mean [ab_r 84, ab_i (p : Int), ab_i (q : Int), ab_i (m : Int), ab_i c] (104, I, F) (fun r h => r = some (ab_l (mnR (p * (10 - q)) (q * (10 - p)) m c)) ∧ h = (104, I, F)) := by
  refine Ct.ofW kX12_mean (ls := [some (ab_r 84), some (ab_i (p : Int)), some (ab_i (q : Int)), some (ab_i (m : Int)), some (ab_i c), none, none, none, none, none, none, none, none]) (Nat.le_of_ble_eq_true rfl) rfl ?_
  obtain ⟨a, ha⟩ : ∃ a : Nat, a = p * (10 - q) := ⟨_, rfl⟩
  obtain ⟨b, hb⟩ : ∃ b : Nat, b = q * (10 - p) := ⟨_, rfl⟩
  have ha1 : 1 ≤ a ∧ a ≤ 81 := by rw [ha]; exact ⟨Nat.mul_pos (by omega) (by omega), Nat.mul_le_mul (show p ≤ 9 by omega) (show 10 - q ≤ 9 by omega)⟩
  have hb1 : 1 ≤ b ∧ b ≤ 81 := by rw [hb]; exact ⟨Nat.mul_pos (by omega) (by omega), Nat.mul_le_mul (show q ≤ 9 by omega) (show 10 - p ≤ 9 by omega)⟩
  have eA : (p : Int) * (10 - (q : Int)) = (a : Int) := by rw [ha, Int.natCast_mul]; congr 1; omega
  have eB : (q : Int) * (10 - (p : Int)) = (b : Int) := by rw [hb, Int.natCast_mul]; congr 1; omega
  rw [← ha, ← hb]
  have hbd := mu_bd ha1.2 hb1.2 hm.2
  have hE := hbd (m + 1) (Nat.le_refl _)
  have hD := md_pos (m := m) ha1.1 hb1.1 (m + 1) (by omega)
  have hg : 0 < Nat.gcd (mu a b m (m + 1)) (md a b m (m + 1)) := Nat.gcd_pos_of_pos_right _ (by omega)
  have hg2 : Nat.gcd (mu a b m (m + 1)) (md a b m (m + 1)) < 9223372036854775808 := Nat.lt_of_le_of_lt (Nat.gcd_le_right _ (by omega)) (show md a b m (m + 1) < _ by omega)
  generalize hZ : ab_Z G (fun r h => r = some (ab_l (mnR a b m c)) ∧ h = (104, I, F)) 0 0 = Z
  have loop : ∀ (d k : Nat), k + d = m + 1 → aW G YX12_mean (ab_rm 2 0 0) Z 0 0 (104, I, F) 53 [some (ab_r 84), some (ab_i (p : Int)), some (ab_i (q : Int)), some (ab_i (m : Int)), some (ab_i c), some (ab_l (mu a b m k : Int)), none, some (ab_l (md a b m k : Int)), none, some (ab_i (k : Int)), none, none, none] [] := by
    intro d
    induction d with
    | zero =>
      intro k hk
      have hkm : k = m + 1 := by omega
      subst hkm
      refine aw_iload dX12_mean_53 rfl ?_
      refine aw_iload_n dX12_mean_55 rfl ?_
      refine aw_icmp_gt (tgt := 129) dX12_mean_56 rfl (by first | assumption | (unfold ab_In at *; omega)) (by first | assumption | (unfold ab_In at *; omega)) (fun c_56 => ?_) (fun c_56 => ?_)
      · refine aw_lload dX12_mean_129 rfl ?_
        refine aw_lload dX12_mean_131 rfl ?_
        refine aw_callS (as := [ab_l (mu a b m (m + 1) : Int), ab_l (md a b m (m + 1) : Int)]) (rest := []) dX12_mean_133 (ct_X12_divisor G (104, I, F) (mu a b m (m + 1)) (md a b m (m + 1)) (by omega) (by omega)) kX12_divisor sX12_divisor lX12_226 rfl (Nat.le_of_ble_eq_true rfl) (by decide) (by decide) (by decide) (by decide) ?_
        rintro _ _ ⟨rfl, rfl⟩
        refine aw_lstore (ls' := [some (ab_r 84), some (ab_i (p : Int)), some (ab_i (q : Int)), some (ab_i (m : Int)), some (ab_i c), some (ab_l (mu a b m (m + 1) : Int)), none, some (ab_l (md a b m (m + 1) : Int)), none, some (ab_l (Nat.gcd (mu a b m (m + 1)) (md a b m (m + 1)) : Int)), none, none, none]) dX12_mean_136 (by decide) rfl ?_
        refine aw_iload dX12_mean_138 rfl ?_
        refine aw_if_ne (tgt := 148) dX12_mean_140 rfl (by first | assumption | (unfold ab_In at *; omega)) (fun c_140 => ?_) (fun c_140 => ?_)
        · refine aw_lload dX12_mean_148 rfl ?_
          refine aw_lload dX12_mean_150 rfl ?_
          refine aw_ldiv dX12_mean_152 (by unfold ab_Il; omega) (by omega) ?_
          rw [← hZ]
          refine aw_toL (z := ((md a b m (m + 1) / Nat.gcd (mu a b m (m + 1)) (md a b m (m + 1)) : Nat) : Int)) (ldiv_n (by omega) hg hg2) ?_
          refine aw_lreturn dX12_mean_153 rfl ?_
          exact ⟨by unfold mnR; first | rw [if_pos (by omega)] | rw [if_neg (by omega)], rfl⟩
        · refine aw_lload dX12_mean_143 rfl ?_
          refine aw_goto (tgt := 150) dX12_mean_145 rfl ?_
          refine aw_lload dX12_mean_150 rfl ?_
          refine aw_ldiv dX12_mean_152 (by unfold ab_Il; omega) (by omega) ?_
          rw [← hZ]
          refine aw_toL (z := ((mu a b m (m + 1) / Nat.gcd (mu a b m (m + 1)) (md a b m (m + 1)) : Nat) : Int)) (ldiv_n (by omega) hg hg2) ?_
          refine aw_lreturn dX12_mean_153 rfl ?_
          exact ⟨by unfold mnR; first | rw [if_pos (by omega)] | rw [if_neg (by omega)], rfl⟩
      · exfalso; omega
    | succ d ih =>
      intro k hk
      have hbk := hbd k (by omega)
      have inner : ∀ (e j : Nat), j + e = m → aW G YX12_mean (ab_rm 2 0 0) Z 0 0 (104, I, F) 65 [some (ab_r 84), some (ab_i (p : Int)), some (ab_i (q : Int)), some (ab_i (m : Int)), some (ab_i c), some (ab_l (mu a b m k : Int)), none, some (ab_l (md a b m k : Int)), none, some (ab_i (k : Int)), some (ab_l (mp a b k j : Int)), none, some (ab_i (j : Int))] [] := by
        intro e
        induction e with
        | zero =>
          intro j hj
          have hjm : j = m := by omega
          have hmp : mp a b k j = a ^ k * b ^ (m - k) := by rw [hjm]; exact mp_eq (by omega)
          refine aw_iload dX12_mean_65 rfl ?_
          refine aw_iload_n dX12_mean_67 rfl ?_
          refine aw_icmp_ge (tgt := 105) dX12_mean_68 rfl (by first | assumption | (unfold ab_In at *; omega)) (by first | assumption | (unfold ab_In at *; omega)) (fun c_68 => ?_) (fun c_68 => ?_)
          · refine aw_lload dX12_mean_105 rfl ?_
            refine aw_iload dX12_mean_107 rfl ?_
            refine aw_i2l dX12_mean_109 ?_
            refine aw_toL (z := (k : Int)) (i2l_in (by unfold ab_In; omega)) ?_
            refine aw_lload dX12_mean_110 rfl ?_
            refine aw_lmul dX12_mean_112 ?_
            refine aw_ladd dX12_mean_113 ?_
            refine aw_toL (z := ((mu a b m (k + 1) : Nat) : Int)) (by rw [mu, hmp, Int.natCast_add, Int.natCast_mul k]) ?_
            refine aw_lstore (ls' := [some (ab_r 84), some (ab_i (p : Int)), some (ab_i (q : Int)), some (ab_i (m : Int)), some (ab_i c), some (ab_l ((mu a b m (k + 1) : Nat) : Int)), none, some (ab_l (md a b m k : Int)), none, some (ab_i (k : Int)), some (ab_l (mp a b k j : Int)), none, some (ab_i (j : Int))]) dX12_mean_114 (by decide) rfl ?_
            refine aw_lload dX12_mean_116 rfl ?_
            refine aw_lload dX12_mean_118 rfl ?_
            refine aw_ladd dX12_mean_120 ?_
            refine aw_toL (z := ((md a b m (k + 1) : Nat) : Int)) (by rw [md, hmp, Int.natCast_add]) ?_
            refine aw_lstore (ls' := [some (ab_r 84), some (ab_i (p : Int)), some (ab_i (q : Int)), some (ab_i (m : Int)), some (ab_i c), some (ab_l ((mu a b m (k + 1) : Nat) : Int)), none, some (ab_l ((md a b m (k + 1) : Nat) : Int)), none, some (ab_i (k : Int)), some (ab_l (mp a b k j : Int)), none, some (ab_i (j : Int))]) dX12_mean_121 (by decide) rfl ?_
            refine aw_iinc (ls' := [some (ab_r 84), some (ab_i (p : Int)), some (ab_i (q : Int)), some (ab_i (m : Int)), some (ab_i c), some (ab_l ((mu a b m (k + 1) : Nat) : Int)), none, some (ab_l ((md a b m (k + 1) : Nat) : Int)), none, some (ab_i ((k : Int) + 1)), some (ab_l (mp a b k j : Int)), none, some (ab_i (j : Int))]) dX12_mean_123 (by decide) rfl rfl ?_
            refine aw_goto (tgt := 53) dX12_mean_126 rfl ?_
            have h9 := ih (k + 1) (by omega)
            exact aw_le (ls' := [some (ab_r 84), some (ab_i (p : Int)), some (ab_i (q : Int)), some (ab_i (m : Int)), some (ab_i c), some (ab_l ((mu a b m (k + 1) : Nat) : Int)), none, some (ab_l ((md a b m (k + 1) : Nat) : Int)), none, some (ab_i ((k : Int) + 1)), none, none, none]) (ab_le_c (ab_le_c (ab_le_c (ab_le_c (ab_le_c (ab_le_c (ab_le_c (ab_le_c (ab_le_c (ab_le_c (ab_le_n (ab_le_c (ab_le_n ab_le_nil))))))))))))) h9
          · exfalso; omega
        | succ e ihe =>
          intro j hj
          refine aw_iload dX12_mean_65 rfl ?_
          refine aw_iload_n dX12_mean_67 rfl ?_
          refine aw_icmp_ge (tgt := 105) dX12_mean_68 rfl (by first | assumption | (unfold ab_In at *; omega)) (by first | assumption | (unfold ab_In at *; omega)) (fun c_68 => ?_) (fun c_68 => ?_)
          · exfalso; omega
          · refine aw_lload dX12_mean_71 rfl ?_
            refine aw_iload dX12_mean_73 rfl ?_
            refine aw_iload dX12_mean_75 rfl ?_
            refine aw_icmp_ge (tgt := 89) dX12_mean_77 rfl (by first | assumption | (unfold ab_In at *; omega)) (by first | assumption | (unfold ab_In at *; omega)) (fun c_77 => ?_) (fun c_77 => ?_)
            · refine aw_iload_n dX12_mean_89 rfl ?_
              refine aw_bipush dX12_mean_90 rfl ?_
              refine aw_iload_n dX12_mean_92 rfl ?_
              refine aw_isub dX12_mean_93 ?_
              refine aw_imul dX12_mean_94 ?_
              refine aw_to (z := (b : Int)) eB ?_
              refine aw_i2l dX12_mean_95 ?_
              refine aw_toL (z := (b : Int)) (i2l_in (by unfold ab_In; omega)) ?_
              refine aw_lmul dX12_mean_96 ?_
              refine aw_toL (z := ((mp a b k (j + 1) : Nat) : Int)) (by rw [mp, if_neg (by omega), Int.natCast_mul]) ?_
              refine aw_lstore (ls' := [some (ab_r 84), some (ab_i (p : Int)), some (ab_i (q : Int)), some (ab_i (m : Int)), some (ab_i c), some (ab_l (mu a b m k : Int)), none, some (ab_l (md a b m k : Int)), none, some (ab_i (k : Int)), some (ab_l ((mp a b k (j + 1) : Nat) : Int)), none, some (ab_i (j : Int))]) dX12_mean_97 (by decide) rfl ?_
              refine aw_iinc (ls' := [some (ab_r 84), some (ab_i (p : Int)), some (ab_i (q : Int)), some (ab_i (m : Int)), some (ab_i c), some (ab_l (mu a b m k : Int)), none, some (ab_l (md a b m k : Int)), none, some (ab_i (k : Int)), some (ab_l ((mp a b k (j + 1) : Nat) : Int)), none, some (ab_i ((j : Int) + 1))]) dX12_mean_99 (by decide) rfl rfl ?_
              refine aw_goto (tgt := 65) dX12_mean_102 rfl ?_
              exact ihe (j + 1) (by omega)
            · refine aw_iload_n dX12_mean_80 rfl ?_
              refine aw_bipush dX12_mean_81 rfl ?_
              refine aw_iload_n dX12_mean_83 rfl ?_
              refine aw_isub dX12_mean_84 ?_
              refine aw_imul dX12_mean_85 ?_
              refine aw_goto (tgt := 95) dX12_mean_86 rfl ?_
              refine aw_to (z := (a : Int)) eA ?_
              refine aw_i2l dX12_mean_95 ?_
              refine aw_toL (z := (a : Int)) (i2l_in (by unfold ab_In; omega)) ?_
              refine aw_lmul dX12_mean_96 ?_
              refine aw_toL (z := ((mp a b k (j + 1) : Nat) : Int)) (by rw [mp, if_pos (by omega), Int.natCast_mul]) ?_
              refine aw_lstore (ls' := [some (ab_r 84), some (ab_i (p : Int)), some (ab_i (q : Int)), some (ab_i (m : Int)), some (ab_i c), some (ab_l (mu a b m k : Int)), none, some (ab_l (md a b m k : Int)), none, some (ab_i (k : Int)), some (ab_l ((mp a b k (j + 1) : Nat) : Int)), none, some (ab_i (j : Int))]) dX12_mean_97 (by decide) rfl ?_
              refine aw_iinc (ls' := [some (ab_r 84), some (ab_i (p : Int)), some (ab_i (q : Int)), some (ab_i (m : Int)), some (ab_i c), some (ab_l (mu a b m k : Int)), none, some (ab_l (md a b m k : Int)), none, some (ab_i (k : Int)), some (ab_l ((mp a b k (j + 1) : Nat) : Int)), none, some (ab_i ((j : Int) + 1))]) dX12_mean_99 (by decide) rfl rfl ?_
              refine aw_goto (tgt := 65) dX12_mean_102 rfl ?_
              exact ihe (j + 1) (by omega)
      refine aw_iload dX12_mean_53 rfl ?_
      refine aw_iload_n dX12_mean_55 rfl ?_
      refine aw_icmp_gt (tgt := 129) dX12_mean_56 rfl (by first | assumption | (unfold ab_In at *; omega)) (by first | assumption | (unfold ab_In at *; omega)) (fun c_56 => ?_) (fun c_56 => ?_)
      · exfalso; omega
      · refine aw_lconst (z := 1) dX12_mean_59 rfl ?_
        refine aw_lstore (ls' := [some (ab_r 84), some (ab_i (p : Int)), some (ab_i (q : Int)), some (ab_i (m : Int)), some (ab_i c), some (ab_l (mu a b m k : Int)), none, some (ab_l (md a b m k : Int)), none, some (ab_i (k : Int)), some (ab_l 1), none, none]) dX12_mean_60 (by decide) rfl ?_
        refine aw_iconst dX12_mean_62 ?_
        refine aw_istore (ls' := [some (ab_r 84), some (ab_i (p : Int)), some (ab_i (q : Int)), some (ab_i (m : Int)), some (ab_i c), some (ab_l (mu a b m k : Int)), none, some (ab_l (md a b m k : Int)), none, some (ab_i (k : Int)), some (ab_l 1), none, some (ab_i 0)]) dX12_mean_63 (by decide) rfl ?_
        exact inner m 0 (by omega)
  refine aw_iload_n dX12_mean_0 rfl ?_
  refine aw_iconst dX12_mean_1 ?_
  refine aw_bipush dX12_mean_2 rfl ?_
  refine aw_callS (as := [ab_i (p : Int), ab_i 1, ab_i 9]) (rest := []) dX12_mean_4 (ct_X12_in G (104, I, F) (p : Int) 1 9 (by first | assumption | (unfold ab_In at *; omega)) (by first | assumption | (unfold ab_In at *; omega)) (by first | assumption | (unfold ab_In at *; omega))) kX12_in sX12_in lX12_75 rfl (Nat.le_of_ble_eq_true rfl) (by decide) (by decide) (by decide) (by decide) ?_
  rintro r9 _ ⟨e9, rfl⟩
  rw [if_pos (by omega)] at e9
  subst e9
  refine aw_if_eq (tgt := 40) dX12_mean_7 rfl ⟨by decide, by decide⟩ (fun c9 => absurd c9 (by decide)) (fun _ => ?_)
  refine aw_iload_n dX12_mean_10 rfl ?_
  refine aw_iconst dX12_mean_11 ?_
  refine aw_bipush dX12_mean_12 rfl ?_
  refine aw_callS (as := [ab_i (q : Int), ab_i 1, ab_i 9]) (rest := []) dX12_mean_14 (ct_X12_in G (104, I, F) (q : Int) 1 9 (by first | assumption | (unfold ab_In at *; omega)) (by first | assumption | (unfold ab_In at *; omega)) (by first | assumption | (unfold ab_In at *; omega))) kX12_in sX12_in lX12_75 rfl (Nat.le_of_ble_eq_true rfl) (by decide) (by decide) (by decide) (by decide) ?_
  rintro r9 _ ⟨e9, rfl⟩
  rw [if_pos (by omega)] at e9
  subst e9
  refine aw_if_eq (tgt := 40) dX12_mean_17 rfl ⟨by decide, by decide⟩ (fun c9 => absurd c9 (by decide)) (fun _ => ?_)
  refine aw_iload_n dX12_mean_20 rfl ?_
  refine aw_iconst dX12_mean_21 ?_
  refine aw_bipush dX12_mean_22 rfl ?_
  refine aw_callS (as := [ab_i (m : Int), ab_i 1, ab_i 6]) (rest := []) dX12_mean_24 (ct_X12_in G (104, I, F) (m : Int) 1 6 (by first | assumption | (unfold ab_In at *; omega)) (by first | assumption | (unfold ab_In at *; omega)) (by first | assumption | (unfold ab_In at *; omega))) kX12_in sX12_in lX12_75 rfl (Nat.le_of_ble_eq_true rfl) (by decide) (by decide) (by decide) (by decide) ?_
  rintro r9 _ ⟨e9, rfl⟩
  rw [if_pos (by omega)] at e9
  subst e9
  refine aw_if_eq (tgt := 40) dX12_mean_27 rfl ⟨by decide, by decide⟩ (fun c9 => absurd c9 (by decide)) (fun _ => ?_)
  refine aw_iload dX12_mean_30 rfl ?_
  refine aw_iconst dX12_mean_32 ?_
  refine aw_iconst dX12_mean_33 ?_
  refine aw_callS (as := [ab_i c, ab_i 0, ab_i 1]) (rest := []) dX12_mean_34 (ct_X12_in G (104, I, F) c 0 1 (by first | assumption | (unfold ab_In at *; omega)) (by first | assumption | (unfold ab_In at *; omega)) (by first | assumption | (unfold ab_In at *; omega))) kX12_in sX12_in lX12_75 rfl (Nat.le_of_ble_eq_true rfl) (by decide) (by decide) (by decide) (by decide) ?_
  rintro r9 _ ⟨e9, rfl⟩
  rw [if_pos (by omega)] at e9
  subst e9
  refine aw_if_ne (tgt := 44) dX12_mean_37 rfl ⟨by decide, by decide⟩ (fun _ => ?_) (fun c9 => absurd c9 (by decide))
  refine aw_lconst (z := 0) dX12_mean_44 rfl ?_
  refine aw_lstore (ls' := [some (ab_r 84), some (ab_i (p : Int)), some (ab_i (q : Int)), some (ab_i (m : Int)), some (ab_i c), some (ab_l 0), none, none, none, none, none, none, none]) dX12_mean_45 (by decide) rfl ?_
  refine aw_lconst (z := 0) dX12_mean_47 rfl ?_
  refine aw_lstore (ls' := [some (ab_r 84), some (ab_i (p : Int)), some (ab_i (q : Int)), some (ab_i (m : Int)), some (ab_i c), some (ab_l 0), none, some (ab_l 0), none, none, none, none, none]) dX12_mean_48 (by decide) rfl ?_
  refine aw_iconst dX12_mean_50 ?_
  refine aw_istore (ls' := [some (ab_r 84), some (ab_i (p : Int)), some (ab_i (q : Int)), some (ab_i (m : Int)), some (ab_i c), some (ab_l 0), none, some (ab_l 0), none, some (ab_i 0), none, none, none]) dX12_mean_51 (by decide) rfl ?_
  exact loop (m + 1) 0 (by omega)
set_option maxHeartbeats 4000000 in
set_option maxRecDepth 100000 in
theorem pr_mean (G : ab_G) (I : Nat → Nat → Int) (F : Nat → Nat → Nat) (c : Nat) (h : INV c I F) (hc : c ≤ 600) (p q m c9 : Int) (hp : ab_In p) (hq : ab_In q) (hm : ab_In m) (hc9 : ab_In c9) : Pair G 2 2 YX11_mean YX12_mean [ab_i p, ab_i q, ab_i m, ab_i c9] ab_l c I F := by
  by_cases hv9 : (1 ≤ p ∧ p ≤ 9) ∧ (1 ≤ q ∧ q ≤ 9) ∧ (1 ≤ m ∧ m ≤ 6) ∧ (0 ≤ c9 ∧ c9 ≤ 1)
  · obtain ⟨p, rfl⟩ : ∃ n : Nat, p = n := ⟨p.toNat, by omega⟩
    obtain ⟨q, rfl⟩ : ∃ n : Nat, q = n := ⟨q.toNat, by omega⟩
    obtain ⟨m, rfl⟩ : ∃ n : Nat, m = n := ⟨m.toNat, by omega⟩
    refine (ct_X11_mean G I F p q m (by omega) (by omega) (by omega) c9 hv9.2.2.2).mono ?_
    rintro _ _ ⟨rfl, rfl⟩
    refine ⟨_, _, _, rfl, rfl, ?_⟩
    refine (ct_X12_mean G I F p q m (by omega) (by omega) (by omega) c9 hv9.2.2.2).mono ?_
    rintro _ _ ⟨rfl, rfl⟩
    exact ⟨rfl, _, _, rfl, h.up (by omega)⟩
  · refine (ct_X11_mean_bad G I F p hp q hq m hm c9 hc9 hv9).mono ?_
    rintro _ _ ⟨rfl, rfl⟩
    refine ⟨_, _, _, rfl, rfl, ?_⟩
    refine (ct_X12_mean_bad G I F p hp q hq m hm c9 hc9 hv9).mono ?_
    rintro _ _ ⟨rfl, rfl⟩
    exact ⟨rfl, _, _, rfl, h.up (by omega)⟩
