def wgX (I : Nat → Nat → Int) (h k : Nat) : Bool := decide (h < 8 ∧ k < 4) && decide (I (4 + (I 77 h).toNat) (I 78 h).toNat < I (4 + (I 77 h).toNat) k)
def kdH (I : Nat → Nat → Int) (h : Nat) : Nat := if h < 8 then (I 78 h).toNat else 0
def wgM (I : Nat → Nat → Int) (h k : Nat) : Bool := decide (h < 8 ∧ k < 4) && decide (I 85 (4 * (I 100 h).toNat + (I 101 h).toNat) < I 85 (4 * (I 100 h).toNat + k))
def kdHM (I : Nat → Nat → Int) (h : Nat) : Nat := if h < 8 then (I 101 h).toNat else 0
/-- a list lies in a row's first places -/
def RLs (f : Nat → Int) (l : List Nat) : Prop := ∀ i, i < l.length → l[i]?.map (fun q => (q : Int)) = some (f i)
theorem RLs.app {f g : Nat → Int} {l : List Nat} {x : Nat} (h : RLs f l) (he : ∀ i, i < l.length → g i = f i) (hx : g l.length = (x : Int)) : RLs g (l ++ [x]) := by
  intro i hi
  rw [List.length_append, List.length_singleton] at hi
  by_cases e : i = l.length
  · rw [e, List.getElem?_append_right (Nat.le_refl _), Nat.sub_self, hx]; rfl
  · rw [List.getElem?_append_left (by omega), he i (by omega)]; exact h i (by omega)
theorem RLs.of {f g : Nat → Int} {l : List Nat} (h : RLs f l) (he : ∀ i, i < l.length → g i = f i) : RLs g l := fun i hi => by rw [he i hi]; exact h i hi
def CF (I0 I : Nat → Nat → Int) : Prop := ∀ i b, ¬ (i = 81 ∧ b = 3) → i ≠ 82 → i ≠ 83 → I i b = I0 i b
def CP (I : Nat → Nat → Int) (lst : List Nat) : Prop := I 81 3 = (lst.length : Int) ∧ RLs (I 83) lst ∧ lst.length ≤ 8
theorem up_app_nil {x pf : List Nat} (h : pf.length ≤ x.length) : up x (pf ++ []) = x := by
  unfold up; rw [List.append_nil, if_neg (by omega)]
theorem wgX_true {I : Nat → Nat → Int} {h k s c : Nat} (hh : h < 8) (hk : k < 4) (hs : I 77 h = (s : Int)) (hc : I 78 h = (c : Int)) : (wgX I h k = true ↔ I (4 + s) c < I (4 + s) k) := by
  unfold wgX; rw [hs, hc]; simp [hh, hk]
theorem wgM_true {I : Nat → Nat → Int} {h k s c : Nat} (hh : h < 8) (hk : k < 4) (hs : I 100 h = (s : Int)) (hc : I 101 h = (c : Int)) : (wgM I h k = true ↔ I 85 (4 * s + c) < I 85 (4 * s + k)) := by
  unfold wgM; rw [hs, hc]; simp [hh, hk]
theorem INV.wg {c : Nat} {I : Nat → Nat → Int} {F : Nat → Nat → Nat} (h : INV c I F) : wgX I = wgM I ∧ kdH I = kdHM I := by
  have hh := h.2.2.2.2.2.2.1.2.2
  have ht := h.2.2.1.2.1
  refine ⟨funext fun x => funext fun k => ?_, funext fun x => ?_⟩
  · unfold wgX wgM
    by_cases e : x < 8 ∧ k < 4
    · have := hh x e.1
      rw [this.1.1, this.1.2, ← ht _ _ (by omega) (by omega), ← ht _ k (by omega) e.2]
    · simp [e]
  · unfold kdH kdHM
    by_cases e : x < 8
    · rw [if_pos e, if_pos e, (hh x e).1.2]
    · rw [if_neg e, if_neg e]
theorem fH_no {wg : Nat → Nat → Bool} {kd : Nat → Nat} {N m k h : Nat} (hn : m.testBit h = true ∨ ¬ wg h k = true) : fH wg kd N m k h = 0 := by
  unfold fH
  rw [if_neg]
  intro q
  simp at q
  rcases hn with e | e
  · rw [e] at q; simp at q
  · exact e q.2
theorem fH_yes {wg : Nat → Nat → Bool} {kd : Nat → Nat} {N m k h : Nat} (hb : m.testBit h = false) (hw : wg h k = true) : fH wg kd N m k h = 1 + mx wg kd N (m ||| 2 ^ h) (kd h) := by
  unfold fH; rw [if_pos (by simp [hb, hw])]
theorem cl_no {wg : Nat → Nat → Bool} {kd : Nat → Nat} {N m k j : Nat} {x pf : List Nat} (hn : m.testBit j = true ∨ ¬ wg j k = true) : cl wg kd N m k x pf (j + 1) = cl wg kd N m k x pf j := by
  rw [cl_s, if_neg]
  intro q
  simp at q
  rcases hn with e | e
  · rw [e] at q; simp at q
  · exact e q.2
theorem cl_yes {wg : Nat → Nat → Bool} {kd : Nat → Nat} {N m k j : Nat} {x pf : List Nat} (hb : m.testBit j = false) (hw : wg j k = true) : cl wg kd N m k x pf (j + 1) = up (cl wg kd N m k x pf j) ((pf ++ [j]) ++ path wg kd N (m ||| 2 ^ j) (kd j)) := by
  rw [cl_s, if_pos (by simp [hb, hw])]
theorem cl_len {N : Nat} (hN : N ≤ 8) {wg : Nat → Nat → Bool} {kd : Nat → Nat} {m k j : Nat} {x pf : List Nat} (hj : j ≤ N) (hx : x.length ≤ 8) (hm : m < 2 ^ N) (hpf : pf.length = pc8 m) : (cl wg kd N m k x pf j).length ≤ 8 := by
  unfold cl up
  split
  · rw [List.length_append, pj_len]
    have h1 : mxp (fH wg kd N m k) j ≤ mxp (fH wg kd N m k) N := mxp_le (fun h hh => mxp_ge (by omega))
    have h2 := (bit_all ⟨N, by omega⟩).2.2
    simp only [] at h2
    have h3 := mx_bd (wg := wg) (kd := kd) hN k hm
    rw [mx_eq hN (by omega)] at h3
    omega
  · exact hx
theorem up_bd {N : Nat} (hN : N ≤ 8) {wg : Nat → Nat → Bool} {kd : Nat → Nat} {m k : Nat} {x pf : List Nat} (hx : x.length ≤ 8) (hm : m < 2 ^ N) (hpf : pf.length = pc8 m) : (up x (pf ++ path wg kd N m k)).length ≤ 8 := by
  have h2 := (bit_all ⟨N, by omega⟩).2.2
  simp only [] at h2
  have := cl_len (wg := wg) (kd := kd) (k := k) (j := N) (x := x) (pf := pf) hN (Nat.le_refl _) hx hm hpf
  rwa [cl_N hN (by omega)] at this
set_option maxHeartbeats 4000000 in
set_option maxRecDepth 100000 in
theorem ct_X2_likesMore (G : ab_G) (I : Nat → Nat → Int) (F : Nat → Nat → Nat) (hF : ab_FB F) (h s a b : Nat) (hh : h < 8) (h77 : I 77 h = (s : Int)) (hs : s < 4) (ha : a < 4) (hb : b < 4) (hwa : ab_In (I (4 + s) a)) (hwb : ab_In (I (4 + s) b)) : Ct G 0 0 0 YX2_likesMore [ab_r 76, ab_i (h : Int), ab_i (a : Int), ab_i (b : Int)] (104, I, F) (fun r h => r = some (ab_i (if I (4 + s) b < I (4 + s) a then 1 else 0)) ∧ h = (104, I, F)) := by
  refine Ct.ofW kX2_likesMore (ls := [some (ab_r 76), some (ab_i (h : Int)), some (ab_i (a : Int)), some (ab_i (b : Int)), none]) (Nat.le_of_ble_eq_true rfl) rfl ?_
  refine aw_aload_n dX2_likesMore_0 rfl (by decide) ?_
  refine aw_getrv (r := 2) dX2_likesMore_1 fX2_22 ⟨Nat.le_of_ble_eq_true rfl, Nat.le_of_ble_eq_true rfl⟩ rfl rfl (hF.at 76 0 2 rfl rfl rfl) ?_
  refine aw_getrv (r := 3) dX2_likesMore_4 fX2_26 ⟨Nat.le_of_ble_eq_true rfl, Nat.le_of_ble_eq_true rfl⟩ rfl rfl (hF.at 2 0 3 rfl rfl rfl) ?_
  refine aw_aload_n dX2_likesMore_7 rfl (by decide) ?_
  refine aw_getrv (r := 77) dX2_likesMore_8 fX2_9 ⟨Nat.le_of_ble_eq_true rfl, Nat.le_of_ble_eq_true rfl⟩ rfl rfl (hF.at 76 1 77 rfl rfl rfl) ?_
  refine aw_iload_n dX2_likesMore_11 rfl ?_
  refine aw_ialdq (q := h) (v := (s : Int)) dX2_likesMore_12 ⟨Nat.le_of_ble_eq_true rfl, Nat.le_of_ble_eq_true rfl⟩ rfl (by omega) (by omega) (by decide) rfl h77 ?_
  refine aw_aaldv (r := 4 + s) dX2_likesMore_13 ⟨Nat.le_of_ble_eq_true rfl, Nat.le_of_ble_eq_true rfl⟩ rfl (by decide) (by omega) (by omega) (by decide) (hF.w hs) ?_
  refine aw_astore (ls' := [some (ab_r 76), some (ab_i (h : Int)), some (ab_i (a : Int)), some (ab_i (b : Int)), some (ab_r (4 + s))]) dX2_likesMore_14 (by decide) (by omega) rfl ?_
  refine aw_aload dX2_likesMore_16 rfl (by omega) ?_
  refine aw_iload_n dX2_likesMore_18 rfl ?_
  refine aw_ialdq (q := a) (v := I (4 + s) a) dX2_likesMore_19 ⟨by omega, by omega⟩ (sh_w hs) (by omega) (by omega) (by decide) rfl rfl ?_
  refine aw_aload dX2_likesMore_20 rfl (by omega) ?_
  refine aw_iload_n dX2_likesMore_22 rfl ?_
  refine aw_ialdq (q := b) (v := I (4 + s) b) dX2_likesMore_23 ⟨by omega, by omega⟩ (sh_w hs) (by omega) (by omega) (by decide) rfl rfl ?_
  refine aw_icmp_le (tgt := 31) dX2_likesMore_24 rfl (by first | assumption | (unfold ab_In at *; omega)) (by first | assumption | (unfold ab_In at *; omega)) (fun c_24 => ?_) (fun c_24 => ?_)
  · refine aw_iconst dX2_likesMore_31 ?_
    refine aw_breturn dX2_likesMore_32 rfl (by omega) ?_
    exact ⟨by first | rw [if_pos (by omega)] | rw [if_neg (by omega)], rfl⟩
  · refine aw_iconst dX2_likesMore_27 ?_
    refine aw_goto (tgt := 32) dX2_likesMore_28 rfl ?_
    refine aw_breturn dX2_likesMore_32 rfl (by omega) ?_
    exact ⟨by first | rw [if_pos (by omega)] | rw [if_neg (by omega)], rfl⟩
set_option maxHeartbeats 4000000 in
set_option maxRecDepth 100000 in
theorem ct_X0_goOn (G : ab_G) (I0 : Nat → Nat → Int) (F : Nat → Nat → Nat) (hF : ab_FB F) (N : Nat) (hN : I0 76 3 = (N : Int)) (hN8 : N ≤ 8) (hh : ∀ j, j < 8 → (0 ≤ I0 77 j ∧ I0 77 j ≤ 3) ∧ (0 ≤ I0 78 j ∧ I0 78 j ≤ 3)) (hw : ∀ s k, s < 4 → k < 4 → 0 ≤ I0 (4 + s) k ∧ I0 (4 + s) k ≤ 99) : ∀ (u d m k : Nat) (pf lst : List Nat) (I : Nat → Nat → Int), d + u = N → pf.length = d → pc8 m = d → m < 2 ^ N → k < 4 → CP I lst → RLs (I 82) pf → CF I0 I → Ct G (u + 1) 0 0 YX0_goOn [ab_r 81, ab_i (d : Int), ab_i (m : Int), ab_i (k : Int)] (104, I, F) (fun r h => r = none ∧ ∃ I2, h = (104, I2, F) ∧ CP I2 (up lst (pf ++ (path (wgX I0) (kdH I0) N m k))) ∧ (∀ i, i < d → I2 82 i = I 82 i) ∧ CF I0 I2) := by
  have h256 := (bit_all ⟨N, by omega⟩).2.2
  simp only [] at h256
  intro u
  induction u with
  | zero =>
    intro d m k pf lst I hd hpf hpc hm hk hCP hRL hCF
    refine Ct.ofW kX0_goOn (ls := [some (ab_r 81), some (ab_i (d : Int)), some (ab_i (m : Int)), some (ab_i (k : Int)), none]) (Nat.le_of_ble_eq_true rfl) rfl ?_
    generalize hZ : ab_Z G (fun r h => r = none ∧ ∃ I2, h = (104, I2, F) ∧ CP I2 (up lst (pf ++ (path (wgX I0) (kdH I0) N m k))) ∧ (∀ i, i < d → I2 82 i = I 82 i) ∧ CF I0 I2) 0 0 = Z
    have hmd := mx_bd (wg := wgX I0) (kd := kdH I0) hN8 k hm
    have hup : up (up lst pf) (pf ++ (path (wgX I0) (kdH I0) N m k)) = up lst (pf ++ (path (wgX I0) (kdH I0) N m k)) := up_up (by simp) (fun e => by rw [List.length_append] at e; rw [List.eq_nil_of_length_eq_zero (show (path (wgX I0) (kdH I0) N m k).length = 0 by omega), List.append_nil])
    have fin : ∀ (J : Nat → Nat → Int) (x : List Nat), CP J x → x = up lst (pf ++ (path (wgX I0) (kdH I0) N m k)) → (∀ i, i < d → J 82 i = I 82 i) → CF I0 J → (fun r h => r = none ∧ ∃ I2, h = (104, I2, F) ∧ CP I2 (up lst (pf ++ (path (wgX I0) (kdH I0) N m k))) ∧ (∀ i, i < d → I2 82 i = I 82 i) ∧ CF I0 I2) (none : Option ab_V) ((104, J, F) : ab_H) := fun J x h1 h2 h3 h4 => ⟨rfl, J, rfl, h2 ▸ h1, h3, h4⟩
    have s27 : ∀ (J : Nat → Nat → Int), CP J (up lst pf) → (∀ i, i < d → J 82 i = I 82 i) → CF I0 J → aW G YX0_goOn (ab_rm (0 + 1) 0 0) Z 0 0 (104, J, F) 27 [some (ab_r 81), some (ab_i (d : Int)), some (ab_i (m : Int)), some (ab_i (k : Int)), none] [] := by
      intro J hP hT hFr
      have e76 : J 76 3 = (N : Int) := (hFr 76 3 (by omega) (by omega) (by omega)).trans hN
      have hul := (up_len lst pf).2
      refine aw_iload_n dX0_goOn_27 rfl ?_
      refine aw_aload_n dX0_goOn_28 rfl (by decide) ?_
      refine aw_getrv (r := 76) dX0_goOn_29 fX0_22 ⟨Nat.le_of_ble_eq_true rfl, Nat.le_of_ble_eq_true rfl⟩ rfl rfl (hF.at 81 0 76 rfl rfl rfl) ?_
      refine aw_getiv (v := (N : Int)) dX0_goOn_32 fX0_36 ⟨Nat.le_of_ble_eq_true rfl, Nat.le_of_ble_eq_true rfl⟩ rfl rfl e76 ?_
      refine aw_icmp_lt (tgt := 39) dX0_goOn_35 rfl (by first | assumption | (unfold ab_In at *; omega)) (by first | assumption | (unfold ab_In at *; omega)) (fun c_35 => ?_) (fun c_35 => ?_)
      · exfalso; omega
      · rw [← hZ]
        refine aw_return dX0_goOn_38 rfl ?_
        refine fin J _ hP ?_ hT hFr
        rw [← hup, List.eq_nil_of_length_eq_zero (show (path (wgX I0) (kdH I0) N m k).length = 0 by rw [path_len]; omega), up_app_nil hul]
    have e813 := hCP.1
    have hl8 := hCP.2.2
    refine aw_iload_n dX0_goOn_0 rfl ?_
    refine aw_aload_n dX0_goOn_1 rfl (by decide) ?_
    refine aw_getiv (v := (lst.length : Int)) dX0_goOn_2 fX0_18 ⟨Nat.le_of_ble_eq_true rfl, Nat.le_of_ble_eq_true rfl⟩ rfl rfl e813 ?_
    refine aw_icmp_le (tgt := 27) dX0_goOn_5 rfl (by first | assumption | (unfold ab_In at *; omega)) (by first | assumption | (unfold ab_In at *; omega)) (fun c_5 => ?_) (fun c_5 => ?_)
    · refine s27 I ?_ (fun _ _ => rfl) hCF
      unfold up; rw [if_neg (by omega)]; exact hCP
    · refine aw_aload_n dX0_goOn_8 rfl (by decide) ?_
      refine aw_iload_n dX0_goOn_9 rfl ?_
      refine aw_puti dX0_goOn_10 fX0_18 ⟨Nat.le_of_ble_eq_true rfl, Nat.le_of_ble_eq_true rfl⟩ rfl rfl ?_
      refine aw_aload_n dX0_goOn_13 rfl (by decide) ?_
      refine aw_getrv (r := 82) dX0_goOn_14 fX0_9 ⟨Nat.le_of_ble_eq_true rfl, Nat.le_of_ble_eq_true rfl⟩ rfl rfl (hF.at 81 1 82 rfl rfl rfl) ?_
      refine aw_iconst dX0_goOn_17 ?_
      refine aw_aload_n dX0_goOn_18 rfl (by decide) ?_
      refine aw_getrv (r := 83) dX0_goOn_19 fX0_15 ⟨Nat.le_of_ble_eq_true rfl, Nat.le_of_ble_eq_true rfl⟩ rfl rfl (hF.at 81 2 83 rfl rfl rfl) ?_
      refine aw_iconst dX0_goOn_22 ?_
      refine aw_iload_n dX0_goOn_23 rfl ?_
      refine aw_acopy (k := d) dX0_goOn_24 lX0_30 ⟨Nat.le_of_ble_eq_true rfl, Nat.le_of_ble_eq_true rfl⟩ rfl ⟨Nat.le_of_ble_eq_true rfl, Nat.le_of_ble_eq_true rfl⟩ rfl (by decide) (by omega) (by decide) rfl (show 1 ≤ 0 + 1 by omega) (show 40 ≤ 64 * (0 + 1) by omega) ?_
      refine s27 _ ?_ (fun i hi => ?_) (fun i b q1 q2 q3 => ?_)
      · unfold up; rw [if_pos (by omega)]; exact ⟨by rw [cp_ne (by decide), ab_u_s, hpf], fun i hi => by rw [cp_in (by omega), ab_u_i (by decide)]; exact hRL i hi, by omega⟩
      · rw [cp_ne (by decide), ab_u_i (by decide)]
      · rw [cp_ne q3, ab_u_o (by omega)]; exact hCF i b q1 q2 q3
  | succ u ihu =>
    intro d m k pf lst I hd hpf hpc hm hk hCP hRL hCF
    refine Ct.ofW kX0_goOn (ls := [some (ab_r 81), some (ab_i (d : Int)), some (ab_i (m : Int)), some (ab_i (k : Int)), none]) (Nat.le_of_ble_eq_true rfl) rfl ?_
    generalize hZ : ab_Z G (fun r h => r = none ∧ ∃ I2, h = (104, I2, F) ∧ CP I2 (up lst (pf ++ (path (wgX I0) (kdH I0) N m k))) ∧ (∀ i, i < d → I2 82 i = I 82 i) ∧ CF I0 I2) 0 0 = Z
    have hmd := mx_bd (wg := wgX I0) (kd := kdH I0) hN8 k hm
    have hup : up (up lst pf) (pf ++ (path (wgX I0) (kdH I0) N m k)) = up lst (pf ++ (path (wgX I0) (kdH I0) N m k)) := up_up (by simp) (fun e => by rw [List.length_append] at e; rw [List.eq_nil_of_length_eq_zero (show (path (wgX I0) (kdH I0) N m k).length = 0 by omega), List.append_nil])
    have fin : ∀ (J : Nat → Nat → Int) (x : List Nat), CP J x → x = up lst (pf ++ (path (wgX I0) (kdH I0) N m k)) → (∀ i, i < d → J 82 i = I 82 i) → CF I0 J → (fun r h => r = none ∧ ∃ I2, h = (104, I2, F) ∧ CP I2 (up lst (pf ++ (path (wgX I0) (kdH I0) N m k))) ∧ (∀ i, i < d → I2 82 i = I 82 i) ∧ CF I0 I2) (none : Option ab_V) ((104, J, F) : ab_H) := fun J x h1 h2 h3 h4 => ⟨rfl, J, rfl, h2 ▸ h1, h3, h4⟩
    have loop : ∀ (x : List Nat), x = up lst pf → x.length ≤ 8 → pf.length ≤ x.length → ∀ (e j : Nat) (J : Nat → Nat → Int), j + e = N → CP J (cl (wgX I0) (kdH I0) N m k x pf j) → (∀ i, i < d → J 82 i = I 82 i) → CF I0 J → aW G YX0_goOn (ab_rm (u + 1 + 1) 0 0) Z 0 0 (104, J, F) 42 [some (ab_r 81), some (ab_i (d : Int)), some (ab_i (m : Int)), some (ab_i (k : Int)), some (ab_i (j : Int))] [] := by
      intro x hx hx8 hxp e
      have hcN : cl (wgX I0) (kdH I0) N m k x pf N = up lst (pf ++ (path (wgX I0) (kdH I0) N m k)) := by rw [cl_N hN8 (by omega), hx, hup]
      induction e with
      | zero =>
        intro j J hj hP hT hFr
        have hjN : j = N := by omega
        have e76 : J 76 3 = (N : Int) := (hFr 76 3 (by omega) (by omega) (by omega)).trans hN
        refine aw_iload dX0_goOn_42 rfl ?_
        refine aw_aload_n dX0_goOn_44 rfl (by decide) ?_
        refine aw_getrv (r := 76) dX0_goOn_45 fX0_22 ⟨Nat.le_of_ble_eq_true rfl, Nat.le_of_ble_eq_true rfl⟩ rfl rfl (hF.at 81 0 76 rfl rfl rfl) ?_
        refine aw_getiv (v := (N : Int)) dX0_goOn_48 fX0_36 ⟨Nat.le_of_ble_eq_true rfl, Nat.le_of_ble_eq_true rfl⟩ rfl rfl e76 ?_
        refine aw_icmp_ge (tgt := 143) dX0_goOn_51 rfl (by first | assumption | (unfold ab_In at *; omega)) (by first | assumption | (unfold ab_In at *; omega)) (fun c_51 => ?_) (fun c_51 => ?_)
        · rw [← hZ]
          refine aw_return dX0_goOn_143 rfl ?_
          exact fin J _ hP (by rw [hjN]; exact hcN) hT hFr
        · exfalso; omega
      | succ e ih =>
        intro j J hj hP hT hFr
        have e76 : J 76 3 = (N : Int) := (hFr 76 3 (by omega) (by omega) (by omega)).trans hN
        have hj8 : j < 8 := by omega
        have hhj := hh j hj8
        have e813 := hP.1
        have hl8 := hP.2.2
        obtain ⟨s, hs0⟩ : ∃ s : Nat, I0 77 j = (s : Int) := ⟨(I0 77 j).toNat, by omega⟩
        obtain ⟨kj, hk0⟩ : ∃ kj : Nat, I0 78 j = (kj : Int) := ⟨(I0 78 j).toNat, by omega⟩
        have hs : s < 4 := by omega
        have hkj : kj < 4 := by omega
        have ekd : kdH I0 j = kj := by unfold kdH; rw [if_pos hj8]; omega
        have e77 : J 77 j = (s : Int) := (hFr 77 j (by omega) (by omega) (by omega)).trans hs0
        have e78 : J 78 j = (kj : Int) := (hFr 78 j (by omega) (by omega) (by omega)).trans hk0
        have ew : ∀ b, J (4 + s) b = I0 (4 + s) b := fun b => hFr (4 + s) b (by omega) (by omega) (by omega)
        have hwt := wgX_true (I := I0) hj8 hk hs0 hk0
        have hw1 := hw s k hs hk
        have hw2 := hw s kj hs hkj
        have hbm := bit_m ⟨m, by omega⟩ ⟨j, hj8⟩
        simp only [] at hbm
        by_cases hb : m.testBit j = true
        · rw [if_pos hb] at hbm
          refine aw_iload dX0_goOn_42 rfl ?_
          refine aw_aload_n dX0_goOn_44 rfl (by decide) ?_
          refine aw_getrv (r := 76) dX0_goOn_45 fX0_22 ⟨Nat.le_of_ble_eq_true rfl, Nat.le_of_ble_eq_true rfl⟩ rfl rfl (hF.at 81 0 76 rfl rfl rfl) ?_
          refine aw_getiv (v := (N : Int)) dX0_goOn_48 fX0_36 ⟨Nat.le_of_ble_eq_true rfl, Nat.le_of_ble_eq_true rfl⟩ rfl rfl e76 ?_
          refine aw_icmp_ge (tgt := 143) dX0_goOn_51 rfl (by first | assumption | (unfold ab_In at *; omega)) (by first | assumption | (unfold ab_In at *; omega)) (fun c_51 => ?_) (fun c_51 => ?_)
          · exfalso; omega
          · refine aw_aload_n dX0_goOn_54 rfl (by decide) ?_
            refine aw_getiv (v := (((cl (wgX I0) (kdH I0) N m k x pf j)).length : Int)) dX0_goOn_55 fX0_18 ⟨Nat.le_of_ble_eq_true rfl, Nat.le_of_ble_eq_true rfl⟩ rfl rfl e813 ?_
            refine aw_aload_n dX0_goOn_58 rfl (by decide) ?_
            refine aw_getrv (r := 76) dX0_goOn_59 fX0_22 ⟨Nat.le_of_ble_eq_true rfl, Nat.le_of_ble_eq_true rfl⟩ rfl rfl (hF.at 81 0 76 rfl rfl rfl) ?_
            refine aw_getiv (v := (N : Int)) dX0_goOn_62 fX0_36 ⟨Nat.le_of_ble_eq_true rfl, Nat.le_of_ble_eq_true rfl⟩ rfl rfl e76 ?_
            refine aw_icmp_ge (tgt := 143) dX0_goOn_65 rfl (by first | assumption | (unfold ab_In at *; omega)) (by first | assumption | (unfold ab_In at *; omega)) (fun c_65 => ?_) (fun c_65 => ?_)
            · rw [← hZ]
              refine aw_return dX0_goOn_143 rfl ?_
              exact fin J _ hP (by rw [← cl_full hN8 hm (by omega) (e + 1) j hj (by omega)]; exact hcN) hT hFr
            · refine aw_iload_n dX0_goOn_68 rfl ?_
              refine aw_iload dX0_goOn_69 rfl ?_
              refine aw_ishr dX0_goOn_71 ?_
              refine aw_iconst dX0_goOn_72 ?_
              refine aw_iand dX0_goOn_73 ?_
              refine aw_to (z := 1) hbm.1 ?_
              refine aw_if_eq (tgt := 80) dX0_goOn_74 rfl ⟨by decide, by decide⟩ (fun c9 => absurd c9 (by decide)) (fun _ => ?_)
              refine aw_goto (tgt := 137) dX0_goOn_77 rfl ?_
              refine aw_iinc (ls' := [some (ab_r 81), some (ab_i (d : Int)), some (ab_i (m : Int)), some (ab_i (k : Int)), some (ab_i ((j : Int) + 1))]) dX0_goOn_137 (by decide) rfl rfl ?_
              refine aw_goto (tgt := 42) dX0_goOn_140 rfl ?_
              have h9 := ih (j + 1) J (by omega) (by rw [cl_no (Or.inl hb)]; exact hP) hT hFr
              exact h9
        · rw [if_neg hb] at hbm
          have hbf : m.testBit j = false := by simpa using hb
          have hor := bit_or ⟨m, by omega⟩ ⟨j, hj8⟩ hbf
          simp only [] at hor
          have horN := (bit_N ⟨N, by omega⟩ ⟨m, by omega⟩ hm).2 ⟨j, hj8⟩ (by show j < N; omega)
          simp only [] at horN
          obtain ⟨x2, hx2⟩ : ∃ x2, m ||| 2 ^ j = x2 := ⟨_, rfl⟩
          rw [hx2] at hbm hor horN
          refine aw_iload dX0_goOn_42 rfl ?_
          refine aw_aload_n dX0_goOn_44 rfl (by decide) ?_
          refine aw_getrv (r := 76) dX0_goOn_45 fX0_22 ⟨Nat.le_of_ble_eq_true rfl, Nat.le_of_ble_eq_true rfl⟩ rfl rfl (hF.at 81 0 76 rfl rfl rfl) ?_
          refine aw_getiv (v := (N : Int)) dX0_goOn_48 fX0_36 ⟨Nat.le_of_ble_eq_true rfl, Nat.le_of_ble_eq_true rfl⟩ rfl rfl e76 ?_
          refine aw_icmp_ge (tgt := 143) dX0_goOn_51 rfl (by first | assumption | (unfold ab_In at *; omega)) (by first | assumption | (unfold ab_In at *; omega)) (fun c_51 => ?_) (fun c_51 => ?_)
          · exfalso; omega
          · refine aw_aload_n dX0_goOn_54 rfl (by decide) ?_
            refine aw_getiv (v := (((cl (wgX I0) (kdH I0) N m k x pf j)).length : Int)) dX0_goOn_55 fX0_18 ⟨Nat.le_of_ble_eq_true rfl, Nat.le_of_ble_eq_true rfl⟩ rfl rfl e813 ?_
            refine aw_aload_n dX0_goOn_58 rfl (by decide) ?_
            refine aw_getrv (r := 76) dX0_goOn_59 fX0_22 ⟨Nat.le_of_ble_eq_true rfl, Nat.le_of_ble_eq_true rfl⟩ rfl rfl (hF.at 81 0 76 rfl rfl rfl) ?_
            refine aw_getiv (v := (N : Int)) dX0_goOn_62 fX0_36 ⟨Nat.le_of_ble_eq_true rfl, Nat.le_of_ble_eq_true rfl⟩ rfl rfl e76 ?_
            refine aw_icmp_ge (tgt := 143) dX0_goOn_65 rfl (by first | assumption | (unfold ab_In at *; omega)) (by first | assumption | (unfold ab_In at *; omega)) (fun c_65 => ?_) (fun c_65 => ?_)
            · rw [← hZ]
              refine aw_return dX0_goOn_143 rfl ?_
              exact fin J _ hP (by rw [← cl_full hN8 hm (by omega) (e + 1) j hj (by omega)]; exact hcN) hT hFr
            · refine aw_iload_n dX0_goOn_68 rfl ?_
              refine aw_iload dX0_goOn_69 rfl ?_
              refine aw_ishr dX0_goOn_71 ?_
              refine aw_iconst dX0_goOn_72 ?_
              refine aw_iand dX0_goOn_73 ?_
              refine aw_to (z := 0) hbm.1 ?_
              refine aw_if_eq (tgt := 80) dX0_goOn_74 rfl ⟨by decide, by decide⟩ (fun _ => ?_) (fun c9 => absurd (by decide) c9)
              refine aw_aload_n dX0_goOn_80 rfl (by decide) ?_
              refine aw_getrv (r := 76) dX0_goOn_81 fX0_22 ⟨Nat.le_of_ble_eq_true rfl, Nat.le_of_ble_eq_true rfl⟩ rfl rfl (hF.at 81 0 76 rfl rfl rfl) ?_
              refine aw_iload dX0_goOn_84 rfl ?_
              refine aw_iload_n dX0_goOn_86 rfl ?_
              refine aw_aload_n dX0_goOn_87 rfl (by decide) ?_
              refine aw_getrv (r := 76) dX0_goOn_88 fX0_22 ⟨Nat.le_of_ble_eq_true rfl, Nat.le_of_ble_eq_true rfl⟩ rfl rfl (hF.at 81 0 76 rfl rfl rfl) ?_
              refine aw_getrv (r := 78) dX0_goOn_91 fX0_41 ⟨Nat.le_of_ble_eq_true rfl, Nat.le_of_ble_eq_true rfl⟩ rfl rfl (hF.at 76 2 78 rfl rfl rfl) ?_
              refine aw_iload dX0_goOn_94 rfl ?_
              refine aw_ialdq (q := j) (v := (kj : Int)) dX0_goOn_96 ⟨Nat.le_of_ble_eq_true rfl, Nat.le_of_ble_eq_true rfl⟩ rfl (by omega) (by omega) (by decide) rfl e78 ?_
              refine aw_callV (as := [ab_i (j : Int), ab_i (k : Int), ab_i (kj : Int)]) (rest := []) dX0_goOn_97 (ct_X2_likesMore G J F hF j s k kj hj8 e77 hs hk hkj (by rw [ew]; unfold ab_In; omega) (by rw [ew]; unfold ab_In; omega)) ⟨Nat.le_of_ble_eq_true rfl, Nat.le_of_ble_eq_true rfl⟩ rfl kc2 rfl kX2_likesMore iX2_likesMore eX2_likesMore lX0_44 rfl (Nat.le_of_ble_eq_true rfl) (show 0 + 1 ≤ u + 1 + 1 by omega) (show 64 * (0) + 19 + 5 ≤ 64 * (u + 1 + 1) by omega) (Nat.zero_le _) (Nat.zero_le _) ?_
              rintro r9 _ ⟨e9, rfl⟩
              rw [ew, ew] at e9
              by_cases q01 : I0 (4 + s) kj < I0 (4 + s) k
              · rw [if_pos q01] at e9
                subst e9
                refine aw_if_ne (tgt := 106) dX0_goOn_100 rfl ⟨by decide, by decide⟩ (fun _ => ?_) (fun c9 => absurd c9 (by decide))
                refine aw_aload_n dX0_goOn_106 rfl (by decide) ?_
                refine aw_getrv (r := 82) dX0_goOn_107 fX0_9 ⟨Nat.le_of_ble_eq_true rfl, Nat.le_of_ble_eq_true rfl⟩ rfl rfl (hF.at 81 1 82 rfl rfl rfl) ?_
                refine aw_iload_n dX0_goOn_110 rfl ?_
                refine aw_iload dX0_goOn_111 rfl ?_
                refine aw_iastv (q := d) dX0_goOn_113 ⟨Nat.le_of_ble_eq_true rfl, Nat.le_of_ble_eq_true rfl⟩ rfl (by omega) (by omega) (by decide) rfl ?_
                refine aw_aload_n dX0_goOn_114 rfl (by decide) ?_
                refine aw_iload_n dX0_goOn_115 rfl ?_
                refine aw_iconst dX0_goOn_116 ?_
                refine aw_iadd dX0_goOn_117 ?_
                refine aw_to (z := ((d + 1 : Nat) : Int)) rfl ?_
                refine aw_iload_n dX0_goOn_118 rfl ?_
                refine aw_iconst dX0_goOn_119 ?_
                refine aw_iload dX0_goOn_120 rfl ?_
                refine aw_ishl dX0_goOn_122 ?_
                refine aw_ior dX0_goOn_123 ?_
                refine aw_to (z := (x2 : Int)) hbm.2 ?_
                refine aw_aload_n dX0_goOn_124 rfl (by decide) ?_
                refine aw_getrv (r := 76) dX0_goOn_125 fX0_22 ⟨Nat.le_of_ble_eq_true rfl, Nat.le_of_ble_eq_true rfl⟩ rfl rfl (hF.at 81 0 76 rfl rfl rfl) ?_
                refine aw_getrv (r := 78) dX0_goOn_128 fX0_41 ⟨Nat.le_of_ble_eq_true rfl, Nat.le_of_ble_eq_true rfl⟩ rfl rfl (hF.at 76 2 78 rfl rfl rfl) ?_
                refine aw_iload dX0_goOn_131 rfl ?_
                refine aw_ialdq (q := j) (v := (kj : Int)) dX0_goOn_133 ⟨Nat.le_of_ble_eq_true rfl, Nat.le_of_ble_eq_true rfl⟩ rfl (by omega) (by omega) (by decide) rfl ((ab_u_i (by decide)).trans e78) ?_
                refine aw_callV (as := [ab_i ((d + 1 : Nat) : Int), ab_i (x2 : Int), ab_i (kj : Int)]) (rest := []) dX0_goOn_134 (ihu (d + 1) x2 kj (pf ++ [j]) (cl (wgX I0) (kdH I0) N m k x pf j) (ab_u J 82 d (j : Int)) (by omega) (by simp [hpf]) (by omega) horN hkj ⟨by rw [ab_u_i (by decide)]; exact hP.1, hP.2.1.of (fun i _ => ab_u_i (by decide)), hP.2.2⟩ (hRL.app (fun i hi => by rw [ab_u_j (by omega)]; exact hT i (by omega)) (by rw [hpf, ab_u_s])) (fun i b q1 q2 q3 => by rw [ab_u_i q2]; exact hFr i b q1 q2 q3)) ⟨Nat.le_of_ble_eq_true rfl, Nat.le_of_ble_eq_true rfl⟩ rfl kc0 rfl kX0_goOn iX0_goOn eX0_goOn lX0_26 rfl (Nat.le_of_ble_eq_true rfl) (show (u + 1) + 1 ≤ u + 1 + 1 by omega) (show 64 * ((u + 1)) + 19 + 5 ≤ 64 * (u + 1 + 1) by omega) (Nat.zero_le _) (Nat.zero_le _) ?_
                rintro _ _ ⟨rfl, J2, rfl, hP2, hT2, hF2⟩
                refine aw_iinc (ls' := [some (ab_r 81), some (ab_i (d : Int)), some (ab_i (m : Int)), some (ab_i (k : Int)), some (ab_i ((j : Int) + 1))]) dX0_goOn_137 (by decide) rfl rfl ?_
                refine aw_goto (tgt := 42) dX0_goOn_140 rfl ?_
                have h9 := ih (j + 1) J2 (by omega) (by rw [cl_yes hbf (hwt.mpr q01), hx2, ekd]; exact hP2) (fun i hi => by rw [hT2 i (by omega), ab_u_j (by omega)]; exact hT i hi) hF2
                exact h9
              · rw [if_neg q01] at e9
                subst e9
                refine aw_if_ne (tgt := 106) dX0_goOn_100 rfl ⟨by decide, by decide⟩ (fun c9 => absurd rfl c9) (fun _ => ?_)
                refine aw_goto (tgt := 137) dX0_goOn_103 rfl ?_
                refine aw_iinc (ls' := [some (ab_r 81), some (ab_i (d : Int)), some (ab_i (m : Int)), some (ab_i (k : Int)), some (ab_i ((j : Int) + 1))]) dX0_goOn_137 (by decide) rfl rfl ?_
                refine aw_goto (tgt := 42) dX0_goOn_140 rfl ?_
                have h9 := ih (j + 1) J (by omega) (by rw [cl_no (Or.inr (fun q => q01 (hwt.mp q)))]; exact hP) hT hFr
                exact h9
    have s27 : ∀ (J : Nat → Nat → Int), CP J (up lst pf) → (∀ i, i < d → J 82 i = I 82 i) → CF I0 J → aW G YX0_goOn (ab_rm (u + 1 + 1) 0 0) Z 0 0 (104, J, F) 27 [some (ab_r 81), some (ab_i (d : Int)), some (ab_i (m : Int)), some (ab_i (k : Int)), none] [] := by
      intro J hP hT hFr
      have e76 : J 76 3 = (N : Int) := (hFr 76 3 (by omega) (by omega) (by omega)).trans hN
      have hul := (up_len lst pf).2
      refine aw_iload_n dX0_goOn_27 rfl ?_
      refine aw_aload_n dX0_goOn_28 rfl (by decide) ?_
      refine aw_getrv (r := 76) dX0_goOn_29 fX0_22 ⟨Nat.le_of_ble_eq_true rfl, Nat.le_of_ble_eq_true rfl⟩ rfl rfl (hF.at 81 0 76 rfl rfl rfl) ?_
      refine aw_getiv (v := (N : Int)) dX0_goOn_32 fX0_36 ⟨Nat.le_of_ble_eq_true rfl, Nat.le_of_ble_eq_true rfl⟩ rfl rfl e76 ?_
      refine aw_icmp_lt (tgt := 39) dX0_goOn_35 rfl (by first | assumption | (unfold ab_In at *; omega)) (by first | assumption | (unfold ab_In at *; omega)) (fun c_35 => ?_) (fun c_35 => ?_)
      · refine aw_iconst dX0_goOn_39 ?_
        refine aw_istore (ls' := [some (ab_r 81), some (ab_i (d : Int)), some (ab_i (m : Int)), some (ab_i (k : Int)), some (ab_i 0)]) dX0_goOn_40 (by decide) rfl ?_
        exact loop _ rfl hP.2.2 hul N 0 J (by omega) (by rw [cl_0 hul]; exact hP) hT hFr
      · exfalso; omega
    have e813 := hCP.1
    have hl8 := hCP.2.2
    refine aw_iload_n dX0_goOn_0 rfl ?_
    refine aw_aload_n dX0_goOn_1 rfl (by decide) ?_
    refine aw_getiv (v := (lst.length : Int)) dX0_goOn_2 fX0_18 ⟨Nat.le_of_ble_eq_true rfl, Nat.le_of_ble_eq_true rfl⟩ rfl rfl e813 ?_
    refine aw_icmp_le (tgt := 27) dX0_goOn_5 rfl (by first | assumption | (unfold ab_In at *; omega)) (by first | assumption | (unfold ab_In at *; omega)) (fun c_5 => ?_) (fun c_5 => ?_)
    · refine s27 I ?_ (fun _ _ => rfl) hCF
      unfold up; rw [if_neg (by omega)]; exact hCP
    · refine aw_aload_n dX0_goOn_8 rfl (by decide) ?_
      refine aw_iload_n dX0_goOn_9 rfl ?_
      refine aw_puti dX0_goOn_10 fX0_18 ⟨Nat.le_of_ble_eq_true rfl, Nat.le_of_ble_eq_true rfl⟩ rfl rfl ?_
      refine aw_aload_n dX0_goOn_13 rfl (by decide) ?_
      refine aw_getrv (r := 82) dX0_goOn_14 fX0_9 ⟨Nat.le_of_ble_eq_true rfl, Nat.le_of_ble_eq_true rfl⟩ rfl rfl (hF.at 81 1 82 rfl rfl rfl) ?_
      refine aw_iconst dX0_goOn_17 ?_
      refine aw_aload_n dX0_goOn_18 rfl (by decide) ?_
      refine aw_getrv (r := 83) dX0_goOn_19 fX0_15 ⟨Nat.le_of_ble_eq_true rfl, Nat.le_of_ble_eq_true rfl⟩ rfl rfl (hF.at 81 2 83 rfl rfl rfl) ?_
      refine aw_iconst dX0_goOn_22 ?_
      refine aw_iload_n dX0_goOn_23 rfl ?_
      refine aw_acopy (k := d) dX0_goOn_24 lX0_30 ⟨Nat.le_of_ble_eq_true rfl, Nat.le_of_ble_eq_true rfl⟩ rfl ⟨Nat.le_of_ble_eq_true rfl, Nat.le_of_ble_eq_true rfl⟩ rfl (by decide) (by omega) (by decide) rfl (show 1 ≤ u + 1 + 1 by omega) (show 40 ≤ 64 * (u + 1 + 1) by omega) ?_
      refine s27 _ ?_ (fun i hi => ?_) (fun i b q1 q2 q3 => ?_)
      · unfold up; rw [if_pos (by omega)]; exact ⟨by rw [cp_ne (by decide), ab_u_s, hpf], fun i hi => by rw [cp_in (by omega), ab_u_i (by decide)]; exact hRL i hi, by omega⟩
      · rw [cp_ne (by decide), ab_u_i (by decide)]
      · rw [cp_ne q3, ab_u_o (by omega)]; exact hCF i b q1 q2 q3
set_option maxHeartbeats 4000000 in
set_option maxRecDepth 100000 in
theorem ct_X0_find (G : ab_G) (I : Nat → Nat → Int) (F : Nat → Nat → Nat) (hF : ab_FB F) (N : Nat) (hN : I 76 3 = (N : Int)) (hN8 : N ≤ 8) (hh : ∀ j, j < 8 → (0 ≤ I 77 j ∧ I 77 j ≤ 3) ∧ (0 ≤ I 78 j ∧ I 78 j ≤ 3)) (hw : ∀ s k, s < 4 → k < 4 → 0 ≤ I (4 + s) k ∧ I (4 + s) k ≤ 99) (k : Nat) (hk : k < 4) : Ct G 10 0 0 YX0_find [ab_r 81, ab_i (k : Int)] (104, I, F) (fun r h => r = none ∧ ∃ I2, h = (104, I2, F) ∧ CP I2 (path (wgX I) (kdH I) N 0 k) ∧ CF I I2) := by
  refine Ct.ofW kX0_find (ls := [some (ab_r 81), some (ab_i (k : Int))]) (Nat.le_of_ble_eq_true rfl) rfl ?_
  refine aw_aload_n dX0_find_0 rfl (by decide) ?_
  refine aw_iconst dX0_find_1 ?_
  refine aw_puti dX0_find_2 fX0_18 ⟨Nat.le_of_ble_eq_true rfl, Nat.le_of_ble_eq_true rfl⟩ rfl rfl ?_
  refine aw_aload_n dX0_find_5 rfl (by decide) ?_
  refine aw_iconst dX0_find_6 ?_
  refine aw_iconst dX0_find_7 ?_
  refine aw_iload_n dX0_find_8 rfl ?_
  refine aw_callV (as := [ab_i 0, ab_i 0, ab_i (k : Int)]) (rest := []) dX0_find_9 (ct_X0_goOn G I F hF N hN hN8 hh hw N 0 0 k [] [] (ab_u I 81 3 0) (by omega) rfl rfl (Nat.two_pow_pos N) hk ⟨ab_u_s, fun i hi => by simp at hi, by simp⟩ (fun i hi => by simp at hi) (fun i b q1 q2 q3 => ab_u_o (by omega))) ⟨Nat.le_of_ble_eq_true rfl, Nat.le_of_ble_eq_true rfl⟩ rfl kc0 rfl kX0_goOn iX0_goOn eX0_goOn lX0_26 rfl (Nat.le_of_ble_eq_true rfl) (show N + 1 + 1 ≤ 10 by omega) (show 64 * (N + 1) + 19 + 5 ≤ 64 * 10 by omega) (Nat.zero_le _) (Nat.zero_le _) ?_
  rintro _ _ ⟨rfl, I2, rfl, hP2, hT2, hF2⟩
  refine aw_return dX0_find_12 rfl ?_
  refine ⟨rfl, I2, rfl, ?_, hF2⟩
  have e9 : up [] ([] ++ (path (wgX I) (kdH I) N 0 k)) = (path (wgX I) (kdH I) N 0 k) := by cases h9 : (path (wgX I) (kdH I) N 0 k) <;> simp [up]
  rwa [e9] at hP2
set_option maxHeartbeats 4000000 in
set_option maxRecDepth 100000 in
theorem ct_X11_chain_bad (G : ab_G) (I : Nat → Nat → Int) (F : Nat → Nat → Nat) (hF : ab_FB F) (a : Int) (ha : ab_In a) (b : Int) (hb : ab_In b)  (hbad : ¬ ((0 ≤ a ∧ a ≤ 3) ∧ -1 ≤ b)) : Ct G 11 0 0 YX11_chain [ab_r 1, ab_i a, ab_i b] (104, I, F) (fun r h => r = some (ab_i (if 0 ≤ a ∧ a ≤ 3 then -3 else -2)) ∧ h = (104, I, F)) := by
  refine Ct.ofW kX11_chain (ls := [some (ab_r 1), some (ab_i a), some (ab_i b)]) (Nat.le_of_ble_eq_true rfl) rfl ?_
  refine aw_iload_n dX11_chain_0 rfl ?_
  refine aw_callS (as := [ab_i a]) (rest := []) dX11_chain_1 (ct_X11_isKind G (104, I, F) a (by first | assumption | (unfold ab_In at *; omega))) kX11_isKind sX11_isKind lX11_86 rfl (Nat.le_of_ble_eq_true rfl) (by decide) (by decide) (by decide) (by decide) ?_
  rintro r9 _ ⟨e9, rfl⟩
  by_cases q1 : 0 ≤ a ∧ a ≤ 3
  · rw [if_pos q1] at e9
    subst e9
    refine aw_if_ne (tgt := 10) dX11_chain_4 rfl ⟨by decide, by decide⟩ (fun _ => ?_) (fun c9 => absurd c9 (by decide))
    refine aw_iload_n dX11_chain_10 rfl ?_
    refine aw_iconst dX11_chain_11 ?_
    refine aw_icmp_ge (tgt := 18) dX11_chain_12 rfl (by first | assumption | (unfold ab_In at *; omega)) (by first | assumption | (unfold ab_In at *; omega)) (fun c_12 => ?_) (fun c_12 => ?_)
    · exfalso; omega
    · refine aw_bipush dX11_chain_15 rfl ?_
      refine aw_ireturn dX11_chain_17 rfl ?_
      exact ⟨by first | rw [if_pos (by omega)] | rw [if_neg (by omega)] | rfl, rfl⟩
  · rw [if_neg q1] at e9
    subst e9
    refine aw_if_ne (tgt := 10) dX11_chain_4 rfl ⟨by decide, by decide⟩ (fun c9 => absurd rfl c9) (fun _ => ?_)
    refine aw_bipush dX11_chain_7 rfl ?_
    refine aw_ireturn dX11_chain_9 rfl ?_
    exact ⟨by first | rw [if_pos (by omega)] | rw [if_neg (by omega)] | rfl, rfl⟩
set_option maxHeartbeats 4000000 in
set_option maxRecDepth 100000 in
theorem ct_X12_chain_bad (G : ab_G) (I : Nat → Nat → Int) (F : Nat → Nat → Nat) (hF : ab_FB F) (a : Int) (ha : ab_In a) (b : Int) (hb : ab_In b)  (hbad : ¬ ((0 ≤ a ∧ a ≤ 3) ∧ -1 ≤ b)) : Ct G 2 0 0 YX12_chain [ab_r 84, ab_i a, ab_i b] (104, I, F) (fun r h => r = some (ab_i (if 0 ≤ a ∧ a ≤ 3 then -3 else -2)) ∧ h = (104, I, F)) := by
  refine Ct.ofW kX12_chain (ls := [some (ab_r 84), some (ab_i a), some (ab_i b), none, none, none, none, none, none, none, none, none, none]) (Nat.le_of_ble_eq_true rfl) rfl ?_
  refine aw_iload_n dX12_chain_0 rfl ?_
  refine aw_callS (as := [ab_i a]) (rest := []) dX12_chain_1 (ct_X12_isFour G (104, I, F) a (by first | assumption | (unfold ab_In at *; omega))) kX12_isFour sX12_isFour lX12_79 rfl (Nat.le_of_ble_eq_true rfl) (by decide) (by decide) (by decide) (by decide) ?_
  rintro r9 _ ⟨e9, rfl⟩
  by_cases q1 : 0 ≤ a ∧ a ≤ 3
  · rw [if_pos q1] at e9
    subst e9
    refine aw_if_ne (tgt := 10) dX12_chain_4 rfl ⟨by decide, by decide⟩ (fun _ => ?_) (fun c9 => absurd c9 (by decide))
    refine aw_iload_n dX12_chain_10 rfl ?_
    refine aw_iconst dX12_chain_11 ?_
    refine aw_icmp_ge (tgt := 18) dX12_chain_12 rfl (by first | assumption | (unfold ab_In at *; omega)) (by first | assumption | (unfold ab_In at *; omega)) (fun c_12 => ?_) (fun c_12 => ?_)
    · exfalso; omega
    · refine aw_bipush dX12_chain_15 rfl ?_
      refine aw_ireturn dX12_chain_17 rfl ?_
      exact ⟨by first | rw [if_pos (by omega)] | rw [if_neg (by omega)] | rfl, rfl⟩
  · rw [if_neg q1] at e9
    subst e9
    refine aw_if_ne (tgt := 10) dX12_chain_4 rfl ⟨by decide, by decide⟩ (fun c9 => absurd rfl c9) (fun _ => ?_)
    refine aw_bipush dX12_chain_7 rfl ?_
    refine aw_ireturn dX12_chain_9 rfl ?_
    exact ⟨by first | rw [if_pos (by omega)] | rw [if_neg (by omega)] | rfl, rfl⟩
set_option maxHeartbeats 4000000 in
set_option maxRecDepth 100000 in
theorem ct_X11_chain (G : ab_G) (I : Nat → Nat → Int) (F : Nat → Nat → Nat) (hF : ab_FB F) (N : Nat) (hN : I 76 3 = (N : Int)) (hN8 : N ≤ 8) (hh : ∀ j, j < 8 → (0 ≤ I 77 j ∧ I 77 j ≤ 3) ∧ (0 ≤ I 78 j ∧ I 78 j ≤ 3)) (hw : ∀ s k, s < 4 → k < 4 → 0 ≤ I (4 + s) k ∧ I (4 + s) k ≤ 99) (k : Nat) (hk : k < 4) (b : Int) (hb : ab_In b) (hb1 : -1 ≤ b) : Ct G 11 0 0 YX11_chain [ab_r 1, ab_i (k : Int), ab_i b] (104, I, F) (fun r h => r = some (ab_i (rvL (path (wgX I) (kdH I) N 0 k) b)) ∧ ∃ I2, h = (104, I2, F) ∧ CF I I2) := by
  refine Ct.ofW kX11_chain (ls := [some (ab_r 1), some (ab_i (k : Int)), some (ab_i b)]) (Nat.le_of_ble_eq_true rfl) rfl ?_
  refine aw_iload_n dX11_chain_0 rfl ?_
  refine aw_callS (as := [ab_i (k : Int)]) (rest := []) dX11_chain_1 (ct_X11_isKind G (104, I, F) (k : Int) (by first | assumption | (unfold ab_In at *; omega))) kX11_isKind sX11_isKind lX11_86 rfl (Nat.le_of_ble_eq_true rfl) (by decide) (by decide) (by decide) (by decide) ?_
  rintro r9 _ ⟨e9, rfl⟩
  rw [if_pos (by omega)] at e9
  subst e9
  refine aw_if_ne (tgt := 10) dX11_chain_4 rfl ⟨by decide, by decide⟩ (fun _ => ?_) (fun c9 => absurd c9 (by decide))
  refine aw_iload_n dX11_chain_10 rfl ?_
  refine aw_iconst dX11_chain_11 ?_
  refine aw_icmp_ge (tgt := 18) dX11_chain_12 rfl (by first | assumption | (unfold ab_In at *; omega)) (by first | assumption | (unfold ab_In at *; omega)) (fun c_12 => ?_) (fun c_12 => ?_)
  · refine aw_aload_n dX11_chain_18 rfl (by decide) ?_
    refine aw_getrv (r := 81) dX11_chain_19 fX11_78 ⟨Nat.le_of_ble_eq_true rfl, Nat.le_of_ble_eq_true rfl⟩ rfl rfl (hF.at 1 10 81 rfl rfl rfl) ?_
    refine aw_iload_n dX11_chain_22 rfl ?_
    refine aw_callV (as := [ab_i (k : Int)]) (rest := []) dX11_chain_23 (ct_X0_find G I F hF N hN hN8 hh hw k hk) ⟨Nat.le_of_ble_eq_true rfl, Nat.le_of_ble_eq_true rfl⟩ rfl kc0 rfl kX0_find iX0_find eX0_find lX11_263 rfl (Nat.le_of_ble_eq_true rfl) (by decide) (by decide) (by decide) (by decide) ?_
    rintro _ _ ⟨rfl, I2, rfl, hP2, hF2⟩
    have hl8 := hP2.2.2
    refine aw_iload_n dX11_chain_26 rfl ?_
    refine aw_iconst dX11_chain_27 ?_
    refine aw_icmp_ne (tgt := 39) dX11_chain_28 rfl (by first | assumption | (unfold ab_In at *; omega)) (by first | assumption | (unfold ab_In at *; omega)) (fun c_28 => ?_) (fun c_28 => ?_)
    · refine aw_iload_n dX11_chain_39 rfl ?_
      refine aw_aload_n dX11_chain_40 rfl (by decide) ?_
      refine aw_getrv (r := 81) dX11_chain_41 fX11_78 ⟨Nat.le_of_ble_eq_true rfl, Nat.le_of_ble_eq_true rfl⟩ rfl rfl (hF.at 1 10 81 rfl rfl rfl) ?_
      refine aw_getiv (v := (((path (wgX I) (kdH I) N 0 k)).length : Int)) dX11_chain_44 fX11_265 ⟨Nat.le_of_ble_eq_true rfl, Nat.le_of_ble_eq_true rfl⟩ rfl rfl hP2.1 ?_
      refine aw_icmp_ge (tgt := 62) dX11_chain_47 rfl (by first | assumption | (unfold ab_In at *; omega)) (by first | assumption | (unfold ab_In at *; omega)) (fun c_47 => ?_) (fun c_47 => ?_)
      · refine aw_iconst dX11_chain_62 ?_
        refine aw_ireturn dX11_chain_63 rfl ?_
        refine ⟨?_, I2, rfl, hF2⟩
        unfold rvL
        first | rw [if_pos (by omega)] | (rw [if_neg (by omega), hP2.2.1 _ (by omega)]; rfl) | (rw [if_neg (by omega), List.getElem?_eq_none (by omega)]; rfl)
      · refine aw_aload_n dX11_chain_50 rfl (by decide) ?_
        refine aw_getrv (r := 81) dX11_chain_51 fX11_78 ⟨Nat.le_of_ble_eq_true rfl, Nat.le_of_ble_eq_true rfl⟩ rfl rfl (hF.at 1 10 81 rfl rfl rfl) ?_
        refine aw_getrv (r := 83) dX11_chain_54 fX11_266 ⟨Nat.le_of_ble_eq_true rfl, Nat.le_of_ble_eq_true rfl⟩ rfl rfl (hF.at 81 2 83 rfl rfl rfl) ?_
        refine aw_iload_n dX11_chain_57 rfl ?_
        refine aw_ialdq (q := b.toNat) (v := I2 83 b.toNat) dX11_chain_58 ⟨Nat.le_of_ble_eq_true rfl, Nat.le_of_ble_eq_true rfl⟩ rfl (by omega) (by omega) (by decide) rfl rfl ?_
        refine aw_goto (tgt := 63) dX11_chain_59 rfl ?_
        refine aw_ireturn dX11_chain_63 rfl ?_
        refine ⟨?_, I2, rfl, hF2⟩
        unfold rvL
        first | rw [if_pos (by omega)] | (rw [if_neg (by omega), hP2.2.1 _ (by omega)]; rfl) | (rw [if_neg (by omega), List.getElem?_eq_none (by omega)]; rfl)
    · refine aw_aload_n dX11_chain_31 rfl (by decide) ?_
      refine aw_getrv (r := 81) dX11_chain_32 fX11_78 ⟨Nat.le_of_ble_eq_true rfl, Nat.le_of_ble_eq_true rfl⟩ rfl rfl (hF.at 1 10 81 rfl rfl rfl) ?_
      refine aw_getiv (v := (((path (wgX I) (kdH I) N 0 k)).length : Int)) dX11_chain_35 fX11_265 ⟨Nat.le_of_ble_eq_true rfl, Nat.le_of_ble_eq_true rfl⟩ rfl rfl hP2.1 ?_
      refine aw_ireturn dX11_chain_38 rfl ?_
      refine ⟨?_, I2, rfl, hF2⟩
      unfold rvL
      first | rw [if_pos (by omega)] | (rw [if_neg (by omega), hP2.2.1 _ (by omega)]; rfl) | (rw [if_neg (by omega), List.getElem?_eq_none (by omega)]; rfl)
  · exfalso; omega
