/-- a person of the reference, at its place -/
def rt (N : Nat → Int) (p : Nat) : P5 := (N p, N (12 + p), N (24 + p), N (36 + p), N (48 + p))
def ruM (I : Nat → Nat → Int) : Ru := (I 95 0, I 95 1, I 95 2, I 95 3, n4 (fun s => I 95 (4 + 3 * s)), n4 (fun s => I 95 (5 + 3 * s)), n4 (fun s => I 95 (6 + 3 * s)))
def tnM (I : Nat → Nat → Int) : Tn := (n4 (I 86), fun s k => if s < 4 ∧ k < 4 then I 85 (4 * s + k) else 0)
/-- how many of the first k stand ahead of a -/
def rk (R : Nat → Nat → Bool) (a k : Nat) : Nat := ((List.range k).filter (fun b => !(b == a) && R b a)).length
theorem rk_0 (R : Nat → Nat → Bool) (a : Nat) : rk R a 0 = 0 := rfl
theorem rk_s (R : Nat → Nat → Bool) (a k : Nat) : rk R a (k + 1) = rk R a k + (if k ≠ a ∧ R k a = true then 1 else 0) := by
  unfold rk
  rw [List.range_succ, List.filter_append, List.length_append]
  congr 1
  by_cases h1 : k = a
  · subst h1; simp
  · cases h2 : R k a <;> simp [h1, h2]
theorem rk_le (R : Nat → Nat → Bool) (a k : Nat) : rk R a k ≤ k := by
  unfold rk
  have := List.length_filter_le (fun b => !(b == a) && R b a) (List.range k)
  simpa using this
theorem filter_lt (N q : Nat) (h : q ≤ N) : ((List.range N).filter (fun i => decide (i < q))).length = q := by
  induction N with
  | zero => simp; omega
  | succ N ih =>
    rw [List.range_succ, List.filter_append, List.length_append]
    by_cases hq : q ≤ N
    · rw [ih hq]; simp; omega
    · have : q = N + 1 := by omega
      subst this
      rw [List.filter_eq_self.mpr (by intro a ha; have := List.mem_range.mp ha; simp; omega)]
      simp
/-- in a row put in order, a place is how many stand ahead -/
theorem rk_sd (R : Nat → Nat → Bool) (N : Nat) (has : ∀ a b, R a b = true → ¬ R b a = true) (htr : ∀ a b c, ¬ R b a = true → ¬ R c b = true → ¬ R c a = true) (htot : ∀ a b, a < N → b < N → a ≠ b → R a b = true ∨ R b a = true) (q : Nat) (hq : q < N) : rk R (sd R id N q) N = q := by
  have hp : ((List.range N).map (sd R id N)).Perm (List.range N) := by have := sd_perm R id N; rwa [List.map_id] at this
  have hm : ∀ i, i < N → sd R id N i < N := fun i hi => List.mem_range.mp (hp.mem_iff.mp (List.mem_map.mpr ⟨i, List.mem_range.mpr hi, rfl⟩))
  have hnd : ((List.range N).map (sd R id N)).Nodup := hp.symm.nodup List.nodup_range
  have hinj : ∀ i j, i < N → j < N → sd R id N i = sd R id N j → i = j := fun i j hi hj e => by
    have := (List.getElem_inj (i := i) (j := j) (h₀ := by simpa using hi) (h₁ := by simpa using hj) hnd).mp (by simpa using e)
    exact this
  unfold rk
  rw [← (hp.filter _).length_eq, List.filter_map, List.length_map]
  have e : (List.range N).filter ((fun b => !(b == sd R id N q) && R b (sd R id N q)) ∘ sd R id N) = (List.range N).filter (fun i => decide (i < q)) := by
    apply List.filter_congr
    intro i hi
    have hi := List.mem_range.mp hi
    simp only [Function.comp]
    by_cases h1 : i < q
    · have hne : sd R id N i ≠ sd R id N q := fun e => by have := hinj i q hi hq e; omega
      have hns := sd_sorted R id has htr N i q h1 hq
      have := (htot _ _ (hm i hi) (hm q hq) hne).resolve_right hns
      simp [h1, hne, this]
    · by_cases h2 : i = q
      · subst h2; simp
      · have hns := sd_sorted R id has htr N q i (by omega) hi
        simp [h1, hns]
  rw [e]
  exact filter_lt N q (by omega)
theorem sd_onto (R : Nat → Nat → Bool) (N : Nat) {a : Nat} (ha : a < N) : ∃ q, q < N ∧ sd R id N q = a := by
  have hp : ((List.range N).map (sd R id N)).Perm (List.range N) := by have := sd_perm R id N; rwa [List.map_id] at this
  obtain ⟨q, hq, e⟩ := List.mem_map.mp (hp.mem_iff.mpr (List.mem_range.mpr ha))
  exact ⟨q, List.mem_range.mp hq, e⟩
theorem sd_ltN (R : Nat → Nat → Bool) (N : Nat) {q : Nat} (hq : q < N) : sd R id N q < N := by
  have hp : ((List.range N).map (sd R id N)).Perm (List.range N) := by have := sd_perm R id N; rwa [List.map_id] at this
  exact List.mem_range.mp (hp.mem_iff.mp (List.mem_map.mpr ⟨q, List.mem_range.mpr hq, rfl⟩))
set_option maxHeartbeats 4000000 in
set_option maxRecDepth 100000 in
theorem ct_X12_isAhead (G : ab_G) (I : Nat → Nat → Int) (F : Nat → Nat → Nat) (hF : ab_FB F) (N : Nat) (W nx : Int) (hb : ∀ p, p < N → PB W nx (rt (I 89) p)) (hW : W ≤ 6000) (hnx : nx ≤ 100000) (hN12 : N ≤ 12) (hn : ∀ s, s < 4 → 1 ≤ I 86 s ∧ I 86 s ≤ 9) (ho : ab_In (I 95 0)) (a b : Nat) (ha : a < N) (hb2 : b < N) : Ct G 0 0 0 YX12_isAhead [ab_r 84, ab_i (a : Int), ab_i (b : Int)] (104, I, F) (fun r h => r = some (ab_i (if ah (I 95 0) (n4 (I 86)) (rt (I 89) a) (rt (I 89) b) = true then 1 else 0)) ∧ h = (104, I, F)) := by
  refine Ct.ofW kX12_isAhead (ls := [some (ab_r 84), some (ab_i (a : Int)), some (ab_i (b : Int)), none, none]) (Nat.le_of_ble_eq_true rfl) rfl ?_
  have hpa := hb a ha
  have hpb := hb b hb2
  unfold PB rt at hpa hpb
  dsimp only at hpa hpb
  obtain ⟨s, hs⟩ : ∃ s : Nat, I 89 a = (s : Int) := ⟨(I 89 a).toNat, by omega⟩
  obtain ⟨u, hu⟩ : ∃ u : Nat, I 89 b = (u : Int) := ⟨(I 89 b).toNat, by omega⟩
  have hs4 : s < 4 := by omega
  have hu4 : u < 4 := by omega
  have hn1 := hn s hs4
  have hn2 := hn u hu4
  refine aw_aload_n dX12_isAhead_0 rfl (by decide) ?_
  refine aw_getrv (r := 95) dX12_isAhead_1 fX12_41 ⟨Nat.le_of_ble_eq_true rfl, Nat.le_of_ble_eq_true rfl⟩ rfl rfl (hF.at 84 20 95 rfl rfl rfl) ?_
  refine aw_iconst dX12_isAhead_4 ?_
  refine aw_ialdq (q := 0) (v := I 95 0) dX12_isAhead_5 ⟨Nat.le_of_ble_eq_true rfl, Nat.le_of_ble_eq_true rfl⟩ rfl (by omega) (by omega) (by decide) rfl rfl ?_
  refine aw_iconst dX12_isAhead_6 ?_
  refine aw_icmp_ne (tgt := 26) dX12_isAhead_7 rfl (by first | assumption | (unfold ab_In at *; omega)) (by first | assumption | (unfold ab_In at *; omega)) (fun c_7 => ?_) (fun c_7 => ?_)
  · refine aw_aload_n dX12_isAhead_26 rfl (by decide) ?_
    refine aw_getrv (r := 95) dX12_isAhead_27 fX12_41 ⟨Nat.le_of_ble_eq_true rfl, Nat.le_of_ble_eq_true rfl⟩ rfl rfl (hF.at 84 20 95 rfl rfl rfl) ?_
    refine aw_iconst dX12_isAhead_30 ?_
    refine aw_ialdq (q := 0) (v := I 95 0) dX12_isAhead_31 ⟨Nat.le_of_ble_eq_true rfl, Nat.le_of_ble_eq_true rfl⟩ rfl (by omega) (by omega) (by decide) rfl rfl ?_
    refine aw_iconst dX12_isAhead_32 ?_
    refine aw_icmp_ne (tgt := 48) dX12_isAhead_33 rfl (by first | assumption | (unfold ab_In at *; omega)) (by first | assumption | (unfold ab_In at *; omega)) (fun c_33 => ?_) (fun c_33 => ?_)
    · refine aw_iconst dX12_isAhead_48 ?_
      refine aw_istore_n (ls' := [some (ab_r 84), some (ab_i (a : Int)), some (ab_i (b : Int)), some (ab_i 0), none]) dX12_isAhead_49 (by decide) rfl ?_
      refine aw_aload_n dX12_isAhead_50 rfl (by decide) ?_
      refine aw_getrv (r := 95) dX12_isAhead_51 fX12_41 ⟨Nat.le_of_ble_eq_true rfl, Nat.le_of_ble_eq_true rfl⟩ rfl rfl (hF.at 84 20 95 rfl rfl rfl) ?_
      refine aw_iconst dX12_isAhead_54 ?_
      refine aw_ialdq (q := 0) (v := I 95 0) dX12_isAhead_55 ⟨Nat.le_of_ble_eq_true rfl, Nat.le_of_ble_eq_true rfl⟩ rfl (by omega) (by omega) (by decide) rfl rfl ?_
      refine aw_iconst dX12_isAhead_56 ?_
      refine aw_icmp_ne (tgt := 76) dX12_isAhead_57 rfl (by first | assumption | (unfold ab_In at *; omega)) (by first | assumption | (unfold ab_In at *; omega)) (fun c_57 => ?_) (fun c_57 => ?_)
      · refine aw_aload_n dX12_isAhead_76 rfl (by decide) ?_
        refine aw_getrv (r := 95) dX12_isAhead_77 fX12_41 ⟨Nat.le_of_ble_eq_true rfl, Nat.le_of_ble_eq_true rfl⟩ rfl rfl (hF.at 84 20 95 rfl rfl rfl) ?_
        refine aw_iconst dX12_isAhead_80 ?_
        refine aw_ialdq (q := 0) (v := I 95 0) dX12_isAhead_81 ⟨Nat.le_of_ble_eq_true rfl, Nat.le_of_ble_eq_true rfl⟩ rfl (by omega) (by omega) (by decide) rfl rfl ?_
        refine aw_iconst dX12_isAhead_82 ?_
        refine aw_icmp_ne (tgt := 98) dX12_isAhead_83 rfl (by first | assumption | (unfold ab_In at *; omega)) (by first | assumption | (unfold ab_In at *; omega)) (fun c_83 => ?_) (fun c_83 => ?_)
        · refine aw_iconst dX12_isAhead_98 ?_
          refine aw_istore (ls' := [some (ab_r 84), some (ab_i (a : Int)), some (ab_i (b : Int)), some (ab_i 0), some (ab_i 0)]) dX12_isAhead_99 (by decide) rfl ?_
          refine aw_iload_n dX12_isAhead_101 rfl ?_
          refine aw_iload dX12_isAhead_102 rfl ?_
          refine aw_icmp_gt (tgt := 134) dX12_isAhead_104 rfl ⟨by decide, by decide⟩ ⟨by decide, by decide⟩ (fun c9 => absurd c9 (by decide)) (fun _ => ?_)
          refine aw_iload_n dX12_isAhead_107 rfl ?_
          refine aw_iload dX12_isAhead_108 rfl ?_
          refine aw_icmp_ne (tgt := 138) dX12_isAhead_110 rfl ⟨by decide, by decide⟩ ⟨by decide, by decide⟩ (fun c9 => absurd rfl c9) (fun _ => ?_)
          refine aw_aload_n dX12_isAhead_113 rfl (by decide) ?_
          refine aw_getrv (r := 89) dX12_isAhead_114 fX12_22 ⟨Nat.le_of_ble_eq_true rfl, Nat.le_of_ble_eq_true rfl⟩ rfl rfl (hF.at 84 6 89 rfl rfl rfl) ?_
          refine aw_bipush dX12_isAhead_117 rfl ?_
          refine aw_iload_n dX12_isAhead_119 rfl ?_
          refine aw_iadd dX12_isAhead_120 ?_
          refine aw_ialdq (q := (12 + a)) (v := I 89 (12 + a)) dX12_isAhead_121 ⟨Nat.le_of_ble_eq_true rfl, Nat.le_of_ble_eq_true rfl⟩ rfl (by omega) (by omega) (by decide) (by omega) rfl ?_
          refine aw_aload_n dX12_isAhead_122 rfl (by decide) ?_
          refine aw_getrv (r := 89) dX12_isAhead_123 fX12_22 ⟨Nat.le_of_ble_eq_true rfl, Nat.le_of_ble_eq_true rfl⟩ rfl rfl (hF.at 84 6 89 rfl rfl rfl) ?_
          refine aw_bipush dX12_isAhead_126 rfl ?_
          refine aw_iload_n dX12_isAhead_128 rfl ?_
          refine aw_iadd dX12_isAhead_129 ?_
          refine aw_ialdq (q := (12 + b)) (v := I 89 (12 + b)) dX12_isAhead_130 ⟨Nat.le_of_ble_eq_true rfl, Nat.le_of_ble_eq_true rfl⟩ rfl (by omega) (by omega) (by decide) (by omega) rfl ?_
          refine aw_icmp_ge (tgt := 138) dX12_isAhead_131 rfl (by first | assumption | (unfold ab_In at *; omega)) (by first | assumption | (unfold ab_In at *; omega)) (fun c_131 => ?_) (fun c_131 => ?_)
          · refine aw_iconst dX12_isAhead_138 ?_
            refine aw_breturn dX12_isAhead_139 rfl (by omega) ?_
            refine ⟨?_, rfl⟩
            have ea : (rt (I 89) a).1.toNat = s := by unfold rt; dsimp only; omega
            have eb : (rt (I 89) b).1.toNat = u := by unfold rt; dsimp only; omega
            by_cases e9 : ah (I 95 0) (n4 (I 86)) (rt (I 89) a) (rt (I 89) b) = true
            · first | (rw [if_pos e9]; done) | (exfalso; rw [ah_iff, ea, eb, n4_lt hs4, n4_lt hu4] at e9; simp only [rt] at e9; omega)
            · first | (rw [if_neg e9]; done) | (exfalso; apply e9; rw [ah_iff, ea, eb, n4_lt hs4, n4_lt hu4]; simp only [rt]; omega)
          · refine aw_iconst dX12_isAhead_134 ?_
            refine aw_goto (tgt := 139) dX12_isAhead_135 rfl ?_
            refine aw_breturn dX12_isAhead_139 rfl (by omega) ?_
            refine ⟨?_, rfl⟩
            have ea : (rt (I 89) a).1.toNat = s := by unfold rt; dsimp only; omega
            have eb : (rt (I 89) b).1.toNat = u := by unfold rt; dsimp only; omega
            by_cases e9 : ah (I 95 0) (n4 (I 86)) (rt (I 89) a) (rt (I 89) b) = true
            · first | (rw [if_pos e9]; done) | (exfalso; rw [ah_iff, ea, eb, n4_lt hs4, n4_lt hu4] at e9; simp only [rt] at e9; omega)
            · first | (rw [if_neg e9]; done) | (exfalso; apply e9; rw [ah_iff, ea, eb, n4_lt hs4, n4_lt hu4]; simp only [rt]; omega)
        · refine aw_aload_n dX12_isAhead_86 rfl (by decide) ?_
          refine aw_getrv (r := 89) dX12_isAhead_87 fX12_22 ⟨Nat.le_of_ble_eq_true rfl, Nat.le_of_ble_eq_true rfl⟩ rfl rfl (hF.at 84 6 89 rfl rfl rfl) ?_
          refine aw_bipush dX12_isAhead_90 rfl ?_
          refine aw_iload_n dX12_isAhead_92 rfl ?_
          refine aw_iadd dX12_isAhead_93 ?_
          refine aw_ialdq (q := (24 + b)) (v := I 89 (24 + b)) dX12_isAhead_94 ⟨Nat.le_of_ble_eq_true rfl, Nat.le_of_ble_eq_true rfl⟩ rfl (by omega) (by omega) (by decide) (by omega) rfl ?_
          refine aw_goto (tgt := 99) dX12_isAhead_95 rfl ?_
          refine aw_istore (ls' := [some (ab_r 84), some (ab_i (a : Int)), some (ab_i (b : Int)), some (ab_i 0), some (ab_i (I 89 (24 + b)))]) dX12_isAhead_99 (by decide) rfl ?_
          refine aw_iload_n dX12_isAhead_101 rfl ?_
          refine aw_iload dX12_isAhead_102 rfl ?_
          refine aw_icmp_gt (tgt := 134) dX12_isAhead_104 rfl (by first | assumption | (unfold ab_In at *; omega)) (by first | assumption | (unfold ab_In at *; omega)) (fun c_104 => ?_) (fun c_104 => ?_)
          · refine aw_iconst dX12_isAhead_134 ?_
            refine aw_goto (tgt := 139) dX12_isAhead_135 rfl ?_
            refine aw_breturn dX12_isAhead_139 rfl (by omega) ?_
            refine ⟨?_, rfl⟩
            have ea : (rt (I 89) a).1.toNat = s := by unfold rt; dsimp only; omega
            have eb : (rt (I 89) b).1.toNat = u := by unfold rt; dsimp only; omega
            by_cases e9 : ah (I 95 0) (n4 (I 86)) (rt (I 89) a) (rt (I 89) b) = true
            · first | (rw [if_pos e9]; done) | (exfalso; rw [ah_iff, ea, eb, n4_lt hs4, n4_lt hu4] at e9; simp only [rt] at e9; omega)
            · first | (rw [if_neg e9]; done) | (exfalso; apply e9; rw [ah_iff, ea, eb, n4_lt hs4, n4_lt hu4]; simp only [rt]; omega)
          · refine aw_iload_n dX12_isAhead_107 rfl ?_
            refine aw_iload dX12_isAhead_108 rfl ?_
            refine aw_icmp_ne (tgt := 138) dX12_isAhead_110 rfl (by first | assumption | (unfold ab_In at *; omega)) (by first | assumption | (unfold ab_In at *; omega)) (fun c_110 => ?_) (fun c_110 => ?_)
            · refine aw_iconst dX12_isAhead_138 ?_
              refine aw_breturn dX12_isAhead_139 rfl (by omega) ?_
              refine ⟨?_, rfl⟩
              have ea : (rt (I 89) a).1.toNat = s := by unfold rt; dsimp only; omega
              have eb : (rt (I 89) b).1.toNat = u := by unfold rt; dsimp only; omega
              by_cases e9 : ah (I 95 0) (n4 (I 86)) (rt (I 89) a) (rt (I 89) b) = true
              · first | (rw [if_pos e9]; done) | (exfalso; rw [ah_iff, ea, eb, n4_lt hs4, n4_lt hu4] at e9; simp only [rt] at e9; omega)
              · first | (rw [if_neg e9]; done) | (exfalso; apply e9; rw [ah_iff, ea, eb, n4_lt hs4, n4_lt hu4]; simp only [rt]; omega)
            · refine aw_aload_n dX12_isAhead_113 rfl (by decide) ?_
              refine aw_getrv (r := 89) dX12_isAhead_114 fX12_22 ⟨Nat.le_of_ble_eq_true rfl, Nat.le_of_ble_eq_true rfl⟩ rfl rfl (hF.at 84 6 89 rfl rfl rfl) ?_
              refine aw_bipush dX12_isAhead_117 rfl ?_
              refine aw_iload_n dX12_isAhead_119 rfl ?_
              refine aw_iadd dX12_isAhead_120 ?_
              refine aw_ialdq (q := (12 + a)) (v := I 89 (12 + a)) dX12_isAhead_121 ⟨Nat.le_of_ble_eq_true rfl, Nat.le_of_ble_eq_true rfl⟩ rfl (by omega) (by omega) (by decide) (by omega) rfl ?_
              refine aw_aload_n dX12_isAhead_122 rfl (by decide) ?_
              refine aw_getrv (r := 89) dX12_isAhead_123 fX12_22 ⟨Nat.le_of_ble_eq_true rfl, Nat.le_of_ble_eq_true rfl⟩ rfl rfl (hF.at 84 6 89 rfl rfl rfl) ?_
              refine aw_bipush dX12_isAhead_126 rfl ?_
              refine aw_iload_n dX12_isAhead_128 rfl ?_
              refine aw_iadd dX12_isAhead_129 ?_
              refine aw_ialdq (q := (12 + b)) (v := I 89 (12 + b)) dX12_isAhead_130 ⟨Nat.le_of_ble_eq_true rfl, Nat.le_of_ble_eq_true rfl⟩ rfl (by omega) (by omega) (by decide) (by omega) rfl ?_
              refine aw_icmp_ge (tgt := 138) dX12_isAhead_131 rfl (by first | assumption | (unfold ab_In at *; omega)) (by first | assumption | (unfold ab_In at *; omega)) (fun c_131 => ?_) (fun c_131 => ?_)
              · refine aw_iconst dX12_isAhead_138 ?_
                refine aw_breturn dX12_isAhead_139 rfl (by omega) ?_
                refine ⟨?_, rfl⟩
                have ea : (rt (I 89) a).1.toNat = s := by unfold rt; dsimp only; omega
                have eb : (rt (I 89) b).1.toNat = u := by unfold rt; dsimp only; omega
                by_cases e9 : ah (I 95 0) (n4 (I 86)) (rt (I 89) a) (rt (I 89) b) = true
                · first | (rw [if_pos e9]; done) | (exfalso; rw [ah_iff, ea, eb, n4_lt hs4, n4_lt hu4] at e9; simp only [rt] at e9; omega)
                · first | (rw [if_neg e9]; done) | (exfalso; apply e9; rw [ah_iff, ea, eb, n4_lt hs4, n4_lt hu4]; simp only [rt]; omega)
              · refine aw_iconst dX12_isAhead_134 ?_
                refine aw_goto (tgt := 139) dX12_isAhead_135 rfl ?_
                refine aw_breturn dX12_isAhead_139 rfl (by omega) ?_
                refine ⟨?_, rfl⟩
                have ea : (rt (I 89) a).1.toNat = s := by unfold rt; dsimp only; omega
                have eb : (rt (I 89) b).1.toNat = u := by unfold rt; dsimp only; omega
                by_cases e9 : ah (I 95 0) (n4 (I 86)) (rt (I 89) a) (rt (I 89) b) = true
                · first | (rw [if_pos e9]; done) | (exfalso; rw [ah_iff, ea, eb, n4_lt hs4, n4_lt hu4] at e9; simp only [rt] at e9; omega)
                · first | (rw [if_neg e9]; done) | (exfalso; apply e9; rw [ah_iff, ea, eb, n4_lt hs4, n4_lt hu4]; simp only [rt]; omega)
      · refine aw_aload_n dX12_isAhead_60 rfl (by decide) ?_
        refine aw_getrv (r := 86) dX12_isAhead_61 fX12_13 ⟨Nat.le_of_ble_eq_true rfl, Nat.le_of_ble_eq_true rfl⟩ rfl rfl (hF.at 84 1 86 rfl rfl rfl) ?_
        refine aw_aload_n dX12_isAhead_64 rfl (by decide) ?_
        refine aw_getrv (r := 89) dX12_isAhead_65 fX12_22 ⟨Nat.le_of_ble_eq_true rfl, Nat.le_of_ble_eq_true rfl⟩ rfl rfl (hF.at 84 6 89 rfl rfl rfl) ?_
        refine aw_iconst dX12_isAhead_68 ?_
        refine aw_iload_n dX12_isAhead_69 rfl ?_
        refine aw_iadd dX12_isAhead_70 ?_
        refine aw_ialdq (q := b) (v := (u : Int)) dX12_isAhead_71 ⟨Nat.le_of_ble_eq_true rfl, Nat.le_of_ble_eq_true rfl⟩ rfl (by omega) (by omega) (by decide) (by omega) hu ?_
        refine aw_ialdq (q := u) (v := I 86 u) dX12_isAhead_72 ⟨Nat.le_of_ble_eq_true rfl, Nat.le_of_ble_eq_true rfl⟩ rfl (by omega) (by omega) (by decide) rfl rfl ?_
        refine aw_goto (tgt := 99) dX12_isAhead_73 rfl ?_
        refine aw_istore (ls' := [some (ab_r 84), some (ab_i (a : Int)), some (ab_i (b : Int)), some (ab_i 0), some (ab_i (I 86 u))]) dX12_isAhead_99 (by decide) rfl ?_
        refine aw_iload_n dX12_isAhead_101 rfl ?_
        refine aw_iload dX12_isAhead_102 rfl ?_
        refine aw_icmp_gt (tgt := 134) dX12_isAhead_104 rfl (by first | assumption | (unfold ab_In at *; omega)) (by first | assumption | (unfold ab_In at *; omega)) (fun c_104 => ?_) (fun c_104 => ?_)
        · refine aw_iconst dX12_isAhead_134 ?_
          refine aw_goto (tgt := 139) dX12_isAhead_135 rfl ?_
          refine aw_breturn dX12_isAhead_139 rfl (by omega) ?_
          refine ⟨?_, rfl⟩
          have ea : (rt (I 89) a).1.toNat = s := by unfold rt; dsimp only; omega
          have eb : (rt (I 89) b).1.toNat = u := by unfold rt; dsimp only; omega
          by_cases e9 : ah (I 95 0) (n4 (I 86)) (rt (I 89) a) (rt (I 89) b) = true
          · first | (rw [if_pos e9]; done) | (exfalso; rw [ah_iff, ea, eb, n4_lt hs4, n4_lt hu4] at e9; simp only [rt] at e9; omega)
          · first | (rw [if_neg e9]; done) | (exfalso; apply e9; rw [ah_iff, ea, eb, n4_lt hs4, n4_lt hu4]; simp only [rt]; omega)
        · refine aw_iload_n dX12_isAhead_107 rfl ?_
          refine aw_iload dX12_isAhead_108 rfl ?_
          refine aw_icmp_ne (tgt := 138) dX12_isAhead_110 rfl (by first | assumption | (unfold ab_In at *; omega)) (by first | assumption | (unfold ab_In at *; omega)) (fun c_110 => ?_) (fun c_110 => ?_)
          · refine aw_iconst dX12_isAhead_138 ?_
            refine aw_breturn dX12_isAhead_139 rfl (by omega) ?_
            refine ⟨?_, rfl⟩
            have ea : (rt (I 89) a).1.toNat = s := by unfold rt; dsimp only; omega
            have eb : (rt (I 89) b).1.toNat = u := by unfold rt; dsimp only; omega
            by_cases e9 : ah (I 95 0) (n4 (I 86)) (rt (I 89) a) (rt (I 89) b) = true
            · first | (rw [if_pos e9]; done) | (exfalso; rw [ah_iff, ea, eb, n4_lt hs4, n4_lt hu4] at e9; simp only [rt] at e9; omega)
            · first | (rw [if_neg e9]; done) | (exfalso; apply e9; rw [ah_iff, ea, eb, n4_lt hs4, n4_lt hu4]; simp only [rt]; omega)
          · refine aw_aload_n dX12_isAhead_113 rfl (by decide) ?_
            refine aw_getrv (r := 89) dX12_isAhead_114 fX12_22 ⟨Nat.le_of_ble_eq_true rfl, Nat.le_of_ble_eq_true rfl⟩ rfl rfl (hF.at 84 6 89 rfl rfl rfl) ?_
            refine aw_bipush dX12_isAhead_117 rfl ?_
            refine aw_iload_n dX12_isAhead_119 rfl ?_
            refine aw_iadd dX12_isAhead_120 ?_
            refine aw_ialdq (q := (12 + a)) (v := I 89 (12 + a)) dX12_isAhead_121 ⟨Nat.le_of_ble_eq_true rfl, Nat.le_of_ble_eq_true rfl⟩ rfl (by omega) (by omega) (by decide) (by omega) rfl ?_
            refine aw_aload_n dX12_isAhead_122 rfl (by decide) ?_
            refine aw_getrv (r := 89) dX12_isAhead_123 fX12_22 ⟨Nat.le_of_ble_eq_true rfl, Nat.le_of_ble_eq_true rfl⟩ rfl rfl (hF.at 84 6 89 rfl rfl rfl) ?_
            refine aw_bipush dX12_isAhead_126 rfl ?_
            refine aw_iload_n dX12_isAhead_128 rfl ?_
            refine aw_iadd dX12_isAhead_129 ?_
            refine aw_ialdq (q := (12 + b)) (v := I 89 (12 + b)) dX12_isAhead_130 ⟨Nat.le_of_ble_eq_true rfl, Nat.le_of_ble_eq_true rfl⟩ rfl (by omega) (by omega) (by decide) (by omega) rfl ?_
            refine aw_icmp_ge (tgt := 138) dX12_isAhead_131 rfl (by first | assumption | (unfold ab_In at *; omega)) (by first | assumption | (unfold ab_In at *; omega)) (fun c_131 => ?_) (fun c_131 => ?_)
            · refine aw_iconst dX12_isAhead_138 ?_
              refine aw_breturn dX12_isAhead_139 rfl (by omega) ?_
              refine ⟨?_, rfl⟩
              have ea : (rt (I 89) a).1.toNat = s := by unfold rt; dsimp only; omega
              have eb : (rt (I 89) b).1.toNat = u := by unfold rt; dsimp only; omega
              by_cases e9 : ah (I 95 0) (n4 (I 86)) (rt (I 89) a) (rt (I 89) b) = true
              · first | (rw [if_pos e9]; done) | (exfalso; rw [ah_iff, ea, eb, n4_lt hs4, n4_lt hu4] at e9; simp only [rt] at e9; omega)
              · first | (rw [if_neg e9]; done) | (exfalso; apply e9; rw [ah_iff, ea, eb, n4_lt hs4, n4_lt hu4]; simp only [rt]; omega)
            · refine aw_iconst dX12_isAhead_134 ?_
              refine aw_goto (tgt := 139) dX12_isAhead_135 rfl ?_
              refine aw_breturn dX12_isAhead_139 rfl (by omega) ?_
              refine ⟨?_, rfl⟩
              have ea : (rt (I 89) a).1.toNat = s := by unfold rt; dsimp only; omega
              have eb : (rt (I 89) b).1.toNat = u := by unfold rt; dsimp only; omega
              by_cases e9 : ah (I 95 0) (n4 (I 86)) (rt (I 89) a) (rt (I 89) b) = true
              · first | (rw [if_pos e9]; done) | (exfalso; rw [ah_iff, ea, eb, n4_lt hs4, n4_lt hu4] at e9; simp only [rt] at e9; omega)
              · first | (rw [if_neg e9]; done) | (exfalso; apply e9; rw [ah_iff, ea, eb, n4_lt hs4, n4_lt hu4]; simp only [rt]; omega)
    · refine aw_aload_n dX12_isAhead_36 rfl (by decide) ?_
      refine aw_getrv (r := 89) dX12_isAhead_37 fX12_22 ⟨Nat.le_of_ble_eq_true rfl, Nat.le_of_ble_eq_true rfl⟩ rfl rfl (hF.at 84 6 89 rfl rfl rfl) ?_
      refine aw_bipush dX12_isAhead_40 rfl ?_
      refine aw_iload_n dX12_isAhead_42 rfl ?_
      refine aw_iadd dX12_isAhead_43 ?_
      refine aw_ialdq (q := (24 + a)) (v := I 89 (24 + a)) dX12_isAhead_44 ⟨Nat.le_of_ble_eq_true rfl, Nat.le_of_ble_eq_true rfl⟩ rfl (by omega) (by omega) (by decide) (by omega) rfl ?_
      refine aw_goto (tgt := 49) dX12_isAhead_45 rfl ?_
      refine aw_istore_n (ls' := [some (ab_r 84), some (ab_i (a : Int)), some (ab_i (b : Int)), some (ab_i (I 89 (24 + a))), none]) dX12_isAhead_49 (by decide) rfl ?_
      refine aw_aload_n dX12_isAhead_50 rfl (by decide) ?_
      refine aw_getrv (r := 95) dX12_isAhead_51 fX12_41 ⟨Nat.le_of_ble_eq_true rfl, Nat.le_of_ble_eq_true rfl⟩ rfl rfl (hF.at 84 20 95 rfl rfl rfl) ?_
      refine aw_iconst dX12_isAhead_54 ?_
      refine aw_ialdq (q := 0) (v := I 95 0) dX12_isAhead_55 ⟨Nat.le_of_ble_eq_true rfl, Nat.le_of_ble_eq_true rfl⟩ rfl (by omega) (by omega) (by decide) rfl rfl ?_
      refine aw_iconst dX12_isAhead_56 ?_
      refine aw_icmp_ne (tgt := 76) dX12_isAhead_57 rfl (by first | assumption | (unfold ab_In at *; omega)) (by first | assumption | (unfold ab_In at *; omega)) (fun c_57 => ?_) (fun c_57 => ?_)
      · refine aw_aload_n dX12_isAhead_76 rfl (by decide) ?_
        refine aw_getrv (r := 95) dX12_isAhead_77 fX12_41 ⟨Nat.le_of_ble_eq_true rfl, Nat.le_of_ble_eq_true rfl⟩ rfl rfl (hF.at 84 20 95 rfl rfl rfl) ?_
        refine aw_iconst dX12_isAhead_80 ?_
        refine aw_ialdq (q := 0) (v := I 95 0) dX12_isAhead_81 ⟨Nat.le_of_ble_eq_true rfl, Nat.le_of_ble_eq_true rfl⟩ rfl (by omega) (by omega) (by decide) rfl rfl ?_
        refine aw_iconst dX12_isAhead_82 ?_
        refine aw_icmp_ne (tgt := 98) dX12_isAhead_83 rfl (by first | assumption | (unfold ab_In at *; omega)) (by first | assumption | (unfold ab_In at *; omega)) (fun c_83 => ?_) (fun c_83 => ?_)
        · refine aw_iconst dX12_isAhead_98 ?_
          refine aw_istore (ls' := [some (ab_r 84), some (ab_i (a : Int)), some (ab_i (b : Int)), some (ab_i (I 89 (24 + a))), some (ab_i 0)]) dX12_isAhead_99 (by decide) rfl ?_
          refine aw_iload_n dX12_isAhead_101 rfl ?_
          refine aw_iload dX12_isAhead_102 rfl ?_
          refine aw_icmp_gt (tgt := 134) dX12_isAhead_104 rfl (by first | assumption | (unfold ab_In at *; omega)) (by first | assumption | (unfold ab_In at *; omega)) (fun c_104 => ?_) (fun c_104 => ?_)
          · refine aw_iconst dX12_isAhead_134 ?_
            refine aw_goto (tgt := 139) dX12_isAhead_135 rfl ?_
            refine aw_breturn dX12_isAhead_139 rfl (by omega) ?_
            refine ⟨?_, rfl⟩
            have ea : (rt (I 89) a).1.toNat = s := by unfold rt; dsimp only; omega
            have eb : (rt (I 89) b).1.toNat = u := by unfold rt; dsimp only; omega
            by_cases e9 : ah (I 95 0) (n4 (I 86)) (rt (I 89) a) (rt (I 89) b) = true
            · first | (rw [if_pos e9]; done) | (exfalso; rw [ah_iff, ea, eb, n4_lt hs4, n4_lt hu4] at e9; simp only [rt] at e9; omega)
            · first | (rw [if_neg e9]; done) | (exfalso; apply e9; rw [ah_iff, ea, eb, n4_lt hs4, n4_lt hu4]; simp only [rt]; omega)
          · refine aw_iload_n dX12_isAhead_107 rfl ?_
            refine aw_iload dX12_isAhead_108 rfl ?_
            refine aw_icmp_ne (tgt := 138) dX12_isAhead_110 rfl (by first | assumption | (unfold ab_In at *; omega)) (by first | assumption | (unfold ab_In at *; omega)) (fun c_110 => ?_) (fun c_110 => ?_)
            · refine aw_iconst dX12_isAhead_138 ?_
              refine aw_breturn dX12_isAhead_139 rfl (by omega) ?_
              refine ⟨?_, rfl⟩
              have ea : (rt (I 89) a).1.toNat = s := by unfold rt; dsimp only; omega
              have eb : (rt (I 89) b).1.toNat = u := by unfold rt; dsimp only; omega
              by_cases e9 : ah (I 95 0) (n4 (I 86)) (rt (I 89) a) (rt (I 89) b) = true
              · first | (rw [if_pos e9]; done) | (exfalso; rw [ah_iff, ea, eb, n4_lt hs4, n4_lt hu4] at e9; simp only [rt] at e9; omega)
              · first | (rw [if_neg e9]; done) | (exfalso; apply e9; rw [ah_iff, ea, eb, n4_lt hs4, n4_lt hu4]; simp only [rt]; omega)
            · refine aw_aload_n dX12_isAhead_113 rfl (by decide) ?_
              refine aw_getrv (r := 89) dX12_isAhead_114 fX12_22 ⟨Nat.le_of_ble_eq_true rfl, Nat.le_of_ble_eq_true rfl⟩ rfl rfl (hF.at 84 6 89 rfl rfl rfl) ?_
              refine aw_bipush dX12_isAhead_117 rfl ?_
              refine aw_iload_n dX12_isAhead_119 rfl ?_
              refine aw_iadd dX12_isAhead_120 ?_
              refine aw_ialdq (q := (12 + a)) (v := I 89 (12 + a)) dX12_isAhead_121 ⟨Nat.le_of_ble_eq_true rfl, Nat.le_of_ble_eq_true rfl⟩ rfl (by omega) (by omega) (by decide) (by omega) rfl ?_
              refine aw_aload_n dX12_isAhead_122 rfl (by decide) ?_
              refine aw_getrv (r := 89) dX12_isAhead_123 fX12_22 ⟨Nat.le_of_ble_eq_true rfl, Nat.le_of_ble_eq_true rfl⟩ rfl rfl (hF.at 84 6 89 rfl rfl rfl) ?_
              refine aw_bipush dX12_isAhead_126 rfl ?_
              refine aw_iload_n dX12_isAhead_128 rfl ?_
              refine aw_iadd dX12_isAhead_129 ?_
              refine aw_ialdq (q := (12 + b)) (v := I 89 (12 + b)) dX12_isAhead_130 ⟨Nat.le_of_ble_eq_true rfl, Nat.le_of_ble_eq_true rfl⟩ rfl (by omega) (by omega) (by decide) (by omega) rfl ?_
              refine aw_icmp_ge (tgt := 138) dX12_isAhead_131 rfl (by first | assumption | (unfold ab_In at *; omega)) (by first | assumption | (unfold ab_In at *; omega)) (fun c_131 => ?_) (fun c_131 => ?_)
              · refine aw_iconst dX12_isAhead_138 ?_
                refine aw_breturn dX12_isAhead_139 rfl (by omega) ?_
                refine ⟨?_, rfl⟩
                have ea : (rt (I 89) a).1.toNat = s := by unfold rt; dsimp only; omega
                have eb : (rt (I 89) b).1.toNat = u := by unfold rt; dsimp only; omega
                by_cases e9 : ah (I 95 0) (n4 (I 86)) (rt (I 89) a) (rt (I 89) b) = true
                · first | (rw [if_pos e9]; done) | (exfalso; rw [ah_iff, ea, eb, n4_lt hs4, n4_lt hu4] at e9; simp only [rt] at e9; omega)
                · first | (rw [if_neg e9]; done) | (exfalso; apply e9; rw [ah_iff, ea, eb, n4_lt hs4, n4_lt hu4]; simp only [rt]; omega)
              · refine aw_iconst dX12_isAhead_134 ?_
                refine aw_goto (tgt := 139) dX12_isAhead_135 rfl ?_
                refine aw_breturn dX12_isAhead_139 rfl (by omega) ?_
                refine ⟨?_, rfl⟩
                have ea : (rt (I 89) a).1.toNat = s := by unfold rt; dsimp only; omega
                have eb : (rt (I 89) b).1.toNat = u := by unfold rt; dsimp only; omega
                by_cases e9 : ah (I 95 0) (n4 (I 86)) (rt (I 89) a) (rt (I 89) b) = true
                · first | (rw [if_pos e9]; done) | (exfalso; rw [ah_iff, ea, eb, n4_lt hs4, n4_lt hu4] at e9; simp only [rt] at e9; omega)
                · first | (rw [if_neg e9]; done) | (exfalso; apply e9; rw [ah_iff, ea, eb, n4_lt hs4, n4_lt hu4]; simp only [rt]; omega)
        · refine aw_aload_n dX12_isAhead_86 rfl (by decide) ?_
          refine aw_getrv (r := 89) dX12_isAhead_87 fX12_22 ⟨Nat.le_of_ble_eq_true rfl, Nat.le_of_ble_eq_true rfl⟩ rfl rfl (hF.at 84 6 89 rfl rfl rfl) ?_
          refine aw_bipush dX12_isAhead_90 rfl ?_
          refine aw_iload_n dX12_isAhead_92 rfl ?_
          refine aw_iadd dX12_isAhead_93 ?_
          refine aw_ialdq (q := (24 + b)) (v := I 89 (24 + b)) dX12_isAhead_94 ⟨Nat.le_of_ble_eq_true rfl, Nat.le_of_ble_eq_true rfl⟩ rfl (by omega) (by omega) (by decide) (by omega) rfl ?_
          refine aw_goto (tgt := 99) dX12_isAhead_95 rfl ?_
          refine aw_istore (ls' := [some (ab_r 84), some (ab_i (a : Int)), some (ab_i (b : Int)), some (ab_i (I 89 (24 + a))), some (ab_i (I 89 (24 + b)))]) dX12_isAhead_99 (by decide) rfl ?_
          refine aw_iload_n dX12_isAhead_101 rfl ?_
          refine aw_iload dX12_isAhead_102 rfl ?_
          refine aw_icmp_gt (tgt := 134) dX12_isAhead_104 rfl (by first | assumption | (unfold ab_In at *; omega)) (by first | assumption | (unfold ab_In at *; omega)) (fun c_104 => ?_) (fun c_104 => ?_)
          · refine aw_iconst dX12_isAhead_134 ?_
            refine aw_goto (tgt := 139) dX12_isAhead_135 rfl ?_
            refine aw_breturn dX12_isAhead_139 rfl (by omega) ?_
            refine ⟨?_, rfl⟩
            have ea : (rt (I 89) a).1.toNat = s := by unfold rt; dsimp only; omega
            have eb : (rt (I 89) b).1.toNat = u := by unfold rt; dsimp only; omega
            by_cases e9 : ah (I 95 0) (n4 (I 86)) (rt (I 89) a) (rt (I 89) b) = true
            · first | (rw [if_pos e9]; done) | (exfalso; rw [ah_iff, ea, eb, n4_lt hs4, n4_lt hu4] at e9; simp only [rt] at e9; omega)
            · first | (rw [if_neg e9]; done) | (exfalso; apply e9; rw [ah_iff, ea, eb, n4_lt hs4, n4_lt hu4]; simp only [rt]; omega)
          · refine aw_iload_n dX12_isAhead_107 rfl ?_
            refine aw_iload dX12_isAhead_108 rfl ?_
            refine aw_icmp_ne (tgt := 138) dX12_isAhead_110 rfl (by first | assumption | (unfold ab_In at *; omega)) (by first | assumption | (unfold ab_In at *; omega)) (fun c_110 => ?_) (fun c_110 => ?_)
            · refine aw_iconst dX12_isAhead_138 ?_
              refine aw_breturn dX12_isAhead_139 rfl (by omega) ?_
              refine ⟨?_, rfl⟩
              have ea : (rt (I 89) a).1.toNat = s := by unfold rt; dsimp only; omega
              have eb : (rt (I 89) b).1.toNat = u := by unfold rt; dsimp only; omega
              by_cases e9 : ah (I 95 0) (n4 (I 86)) (rt (I 89) a) (rt (I 89) b) = true
              · first | (rw [if_pos e9]; done) | (exfalso; rw [ah_iff, ea, eb, n4_lt hs4, n4_lt hu4] at e9; simp only [rt] at e9; omega)
              · first | (rw [if_neg e9]; done) | (exfalso; apply e9; rw [ah_iff, ea, eb, n4_lt hs4, n4_lt hu4]; simp only [rt]; omega)
            · refine aw_aload_n dX12_isAhead_113 rfl (by decide) ?_
              refine aw_getrv (r := 89) dX12_isAhead_114 fX12_22 ⟨Nat.le_of_ble_eq_true rfl, Nat.le_of_ble_eq_true rfl⟩ rfl rfl (hF.at 84 6 89 rfl rfl rfl) ?_
              refine aw_bipush dX12_isAhead_117 rfl ?_
              refine aw_iload_n dX12_isAhead_119 rfl ?_
              refine aw_iadd dX12_isAhead_120 ?_
              refine aw_ialdq (q := (12 + a)) (v := I 89 (12 + a)) dX12_isAhead_121 ⟨Nat.le_of_ble_eq_true rfl, Nat.le_of_ble_eq_true rfl⟩ rfl (by omega) (by omega) (by decide) (by omega) rfl ?_
              refine aw_aload_n dX12_isAhead_122 rfl (by decide) ?_
              refine aw_getrv (r := 89) dX12_isAhead_123 fX12_22 ⟨Nat.le_of_ble_eq_true rfl, Nat.le_of_ble_eq_true rfl⟩ rfl rfl (hF.at 84 6 89 rfl rfl rfl) ?_
              refine aw_bipush dX12_isAhead_126 rfl ?_
              refine aw_iload_n dX12_isAhead_128 rfl ?_
              refine aw_iadd dX12_isAhead_129 ?_
              refine aw_ialdq (q := (12 + b)) (v := I 89 (12 + b)) dX12_isAhead_130 ⟨Nat.le_of_ble_eq_true rfl, Nat.le_of_ble_eq_true rfl⟩ rfl (by omega) (by omega) (by decide) (by omega) rfl ?_
              refine aw_icmp_ge (tgt := 138) dX12_isAhead_131 rfl (by first | assumption | (unfold ab_In at *; omega)) (by first | assumption | (unfold ab_In at *; omega)) (fun c_131 => ?_) (fun c_131 => ?_)
              · refine aw_iconst dX12_isAhead_138 ?_
                refine aw_breturn dX12_isAhead_139 rfl (by omega) ?_
                refine ⟨?_, rfl⟩
                have ea : (rt (I 89) a).1.toNat = s := by unfold rt; dsimp only; omega
                have eb : (rt (I 89) b).1.toNat = u := by unfold rt; dsimp only; omega
                by_cases e9 : ah (I 95 0) (n4 (I 86)) (rt (I 89) a) (rt (I 89) b) = true
                · first | (rw [if_pos e9]; done) | (exfalso; rw [ah_iff, ea, eb, n4_lt hs4, n4_lt hu4] at e9; simp only [rt] at e9; omega)
                · first | (rw [if_neg e9]; done) | (exfalso; apply e9; rw [ah_iff, ea, eb, n4_lt hs4, n4_lt hu4]; simp only [rt]; omega)
              · refine aw_iconst dX12_isAhead_134 ?_
                refine aw_goto (tgt := 139) dX12_isAhead_135 rfl ?_
                refine aw_breturn dX12_isAhead_139 rfl (by omega) ?_
                refine ⟨?_, rfl⟩
                have ea : (rt (I 89) a).1.toNat = s := by unfold rt; dsimp only; omega
                have eb : (rt (I 89) b).1.toNat = u := by unfold rt; dsimp only; omega
                by_cases e9 : ah (I 95 0) (n4 (I 86)) (rt (I 89) a) (rt (I 89) b) = true
                · first | (rw [if_pos e9]; done) | (exfalso; rw [ah_iff, ea, eb, n4_lt hs4, n4_lt hu4] at e9; simp only [rt] at e9; omega)
                · first | (rw [if_neg e9]; done) | (exfalso; apply e9; rw [ah_iff, ea, eb, n4_lt hs4, n4_lt hu4]; simp only [rt]; omega)
      · refine aw_aload_n dX12_isAhead_60 rfl (by decide) ?_
        refine aw_getrv (r := 86) dX12_isAhead_61 fX12_13 ⟨Nat.le_of_ble_eq_true rfl, Nat.le_of_ble_eq_true rfl⟩ rfl rfl (hF.at 84 1 86 rfl rfl rfl) ?_
        refine aw_aload_n dX12_isAhead_64 rfl (by decide) ?_
        refine aw_getrv (r := 89) dX12_isAhead_65 fX12_22 ⟨Nat.le_of_ble_eq_true rfl, Nat.le_of_ble_eq_true rfl⟩ rfl rfl (hF.at 84 6 89 rfl rfl rfl) ?_
        refine aw_iconst dX12_isAhead_68 ?_
        refine aw_iload_n dX12_isAhead_69 rfl ?_
        refine aw_iadd dX12_isAhead_70 ?_
        refine aw_ialdq (q := b) (v := (u : Int)) dX12_isAhead_71 ⟨Nat.le_of_ble_eq_true rfl, Nat.le_of_ble_eq_true rfl⟩ rfl (by omega) (by omega) (by decide) (by omega) hu ?_
        refine aw_ialdq (q := u) (v := I 86 u) dX12_isAhead_72 ⟨Nat.le_of_ble_eq_true rfl, Nat.le_of_ble_eq_true rfl⟩ rfl (by omega) (by omega) (by decide) rfl rfl ?_
        refine aw_goto (tgt := 99) dX12_isAhead_73 rfl ?_
        refine aw_istore (ls' := [some (ab_r 84), some (ab_i (a : Int)), some (ab_i (b : Int)), some (ab_i (I 89 (24 + a))), some (ab_i (I 86 u))]) dX12_isAhead_99 (by decide) rfl ?_
        refine aw_iload_n dX12_isAhead_101 rfl ?_
        refine aw_iload dX12_isAhead_102 rfl ?_
        refine aw_icmp_gt (tgt := 134) dX12_isAhead_104 rfl (by first | assumption | (unfold ab_In at *; omega)) (by first | assumption | (unfold ab_In at *; omega)) (fun c_104 => ?_) (fun c_104 => ?_)
        · refine aw_iconst dX12_isAhead_134 ?_
          refine aw_goto (tgt := 139) dX12_isAhead_135 rfl ?_
          refine aw_breturn dX12_isAhead_139 rfl (by omega) ?_
          refine ⟨?_, rfl⟩
          have ea : (rt (I 89) a).1.toNat = s := by unfold rt; dsimp only; omega
          have eb : (rt (I 89) b).1.toNat = u := by unfold rt; dsimp only; omega
          by_cases e9 : ah (I 95 0) (n4 (I 86)) (rt (I 89) a) (rt (I 89) b) = true
          · first | (rw [if_pos e9]; done) | (exfalso; rw [ah_iff, ea, eb, n4_lt hs4, n4_lt hu4] at e9; simp only [rt] at e9; omega)
          · first | (rw [if_neg e9]; done) | (exfalso; apply e9; rw [ah_iff, ea, eb, n4_lt hs4, n4_lt hu4]; simp only [rt]; omega)
        · refine aw_iload_n dX12_isAhead_107 rfl ?_
          refine aw_iload dX12_isAhead_108 rfl ?_
          refine aw_icmp_ne (tgt := 138) dX12_isAhead_110 rfl (by first | assumption | (unfold ab_In at *; omega)) (by first | assumption | (unfold ab_In at *; omega)) (fun c_110 => ?_) (fun c_110 => ?_)
          · refine aw_iconst dX12_isAhead_138 ?_
            refine aw_breturn dX12_isAhead_139 rfl (by omega) ?_
            refine ⟨?_, rfl⟩
            have ea : (rt (I 89) a).1.toNat = s := by unfold rt; dsimp only; omega
            have eb : (rt (I 89) b).1.toNat = u := by unfold rt; dsimp only; omega
            by_cases e9 : ah (I 95 0) (n4 (I 86)) (rt (I 89) a) (rt (I 89) b) = true
            · first | (rw [if_pos e9]; done) | (exfalso; rw [ah_iff, ea, eb, n4_lt hs4, n4_lt hu4] at e9; simp only [rt] at e9; omega)
            · first | (rw [if_neg e9]; done) | (exfalso; apply e9; rw [ah_iff, ea, eb, n4_lt hs4, n4_lt hu4]; simp only [rt]; omega)
          · refine aw_aload_n dX12_isAhead_113 rfl (by decide) ?_
            refine aw_getrv (r := 89) dX12_isAhead_114 fX12_22 ⟨Nat.le_of_ble_eq_true rfl, Nat.le_of_ble_eq_true rfl⟩ rfl rfl (hF.at 84 6 89 rfl rfl rfl) ?_
            refine aw_bipush dX12_isAhead_117 rfl ?_
            refine aw_iload_n dX12_isAhead_119 rfl ?_
            refine aw_iadd dX12_isAhead_120 ?_
            refine aw_ialdq (q := (12 + a)) (v := I 89 (12 + a)) dX12_isAhead_121 ⟨Nat.le_of_ble_eq_true rfl, Nat.le_of_ble_eq_true rfl⟩ rfl (by omega) (by omega) (by decide) (by omega) rfl ?_
            refine aw_aload_n dX12_isAhead_122 rfl (by decide) ?_
            refine aw_getrv (r := 89) dX12_isAhead_123 fX12_22 ⟨Nat.le_of_ble_eq_true rfl, Nat.le_of_ble_eq_true rfl⟩ rfl rfl (hF.at 84 6 89 rfl rfl rfl) ?_
            refine aw_bipush dX12_isAhead_126 rfl ?_
            refine aw_iload_n dX12_isAhead_128 rfl ?_
            refine aw_iadd dX12_isAhead_129 ?_
            refine aw_ialdq (q := (12 + b)) (v := I 89 (12 + b)) dX12_isAhead_130 ⟨Nat.le_of_ble_eq_true rfl, Nat.le_of_ble_eq_true rfl⟩ rfl (by omega) (by omega) (by decide) (by omega) rfl ?_
            refine aw_icmp_ge (tgt := 138) dX12_isAhead_131 rfl (by first | assumption | (unfold ab_In at *; omega)) (by first | assumption | (unfold ab_In at *; omega)) (fun c_131 => ?_) (fun c_131 => ?_)
            · refine aw_iconst dX12_isAhead_138 ?_
              refine aw_breturn dX12_isAhead_139 rfl (by omega) ?_
              refine ⟨?_, rfl⟩
              have ea : (rt (I 89) a).1.toNat = s := by unfold rt; dsimp only; omega
              have eb : (rt (I 89) b).1.toNat = u := by unfold rt; dsimp only; omega
              by_cases e9 : ah (I 95 0) (n4 (I 86)) (rt (I 89) a) (rt (I 89) b) = true
              · first | (rw [if_pos e9]; done) | (exfalso; rw [ah_iff, ea, eb, n4_lt hs4, n4_lt hu4] at e9; simp only [rt] at e9; omega)
              · first | (rw [if_neg e9]; done) | (exfalso; apply e9; rw [ah_iff, ea, eb, n4_lt hs4, n4_lt hu4]; simp only [rt]; omega)
            · refine aw_iconst dX12_isAhead_134 ?_
              refine aw_goto (tgt := 139) dX12_isAhead_135 rfl ?_
              refine aw_breturn dX12_isAhead_139 rfl (by omega) ?_
              refine ⟨?_, rfl⟩
              have ea : (rt (I 89) a).1.toNat = s := by unfold rt; dsimp only; omega
              have eb : (rt (I 89) b).1.toNat = u := by unfold rt; dsimp only; omega
              by_cases e9 : ah (I 95 0) (n4 (I 86)) (rt (I 89) a) (rt (I 89) b) = true
              · first | (rw [if_pos e9]; done) | (exfalso; rw [ah_iff, ea, eb, n4_lt hs4, n4_lt hu4] at e9; simp only [rt] at e9; omega)
              · first | (rw [if_neg e9]; done) | (exfalso; apply e9; rw [ah_iff, ea, eb, n4_lt hs4, n4_lt hu4]; simp only [rt]; omega)
  · refine aw_aload_n dX12_isAhead_10 rfl (by decide) ?_
    refine aw_getrv (r := 86) dX12_isAhead_11 fX12_13 ⟨Nat.le_of_ble_eq_true rfl, Nat.le_of_ble_eq_true rfl⟩ rfl rfl (hF.at 84 1 86 rfl rfl rfl) ?_
    refine aw_aload_n dX12_isAhead_14 rfl (by decide) ?_
    refine aw_getrv (r := 89) dX12_isAhead_15 fX12_22 ⟨Nat.le_of_ble_eq_true rfl, Nat.le_of_ble_eq_true rfl⟩ rfl rfl (hF.at 84 6 89 rfl rfl rfl) ?_
    refine aw_iconst dX12_isAhead_18 ?_
    refine aw_iload_n dX12_isAhead_19 rfl ?_
    refine aw_iadd dX12_isAhead_20 ?_
    refine aw_ialdq (q := a) (v := (s : Int)) dX12_isAhead_21 ⟨Nat.le_of_ble_eq_true rfl, Nat.le_of_ble_eq_true rfl⟩ rfl (by omega) (by omega) (by decide) (by omega) hs ?_
    refine aw_ialdq (q := s) (v := I 86 s) dX12_isAhead_22 ⟨Nat.le_of_ble_eq_true rfl, Nat.le_of_ble_eq_true rfl⟩ rfl (by omega) (by omega) (by decide) rfl rfl ?_
    refine aw_goto (tgt := 49) dX12_isAhead_23 rfl ?_
    refine aw_istore_n (ls' := [some (ab_r 84), some (ab_i (a : Int)), some (ab_i (b : Int)), some (ab_i (I 86 s)), none]) dX12_isAhead_49 (by decide) rfl ?_
    refine aw_aload_n dX12_isAhead_50 rfl (by decide) ?_
    refine aw_getrv (r := 95) dX12_isAhead_51 fX12_41 ⟨Nat.le_of_ble_eq_true rfl, Nat.le_of_ble_eq_true rfl⟩ rfl rfl (hF.at 84 20 95 rfl rfl rfl) ?_
    refine aw_iconst dX12_isAhead_54 ?_
    refine aw_ialdq (q := 0) (v := I 95 0) dX12_isAhead_55 ⟨Nat.le_of_ble_eq_true rfl, Nat.le_of_ble_eq_true rfl⟩ rfl (by omega) (by omega) (by decide) rfl rfl ?_
    refine aw_iconst dX12_isAhead_56 ?_
    refine aw_icmp_ne (tgt := 76) dX12_isAhead_57 rfl (by first | assumption | (unfold ab_In at *; omega)) (by first | assumption | (unfold ab_In at *; omega)) (fun c_57 => ?_) (fun c_57 => ?_)
    · refine aw_aload_n dX12_isAhead_76 rfl (by decide) ?_
      refine aw_getrv (r := 95) dX12_isAhead_77 fX12_41 ⟨Nat.le_of_ble_eq_true rfl, Nat.le_of_ble_eq_true rfl⟩ rfl rfl (hF.at 84 20 95 rfl rfl rfl) ?_
      refine aw_iconst dX12_isAhead_80 ?_
      refine aw_ialdq (q := 0) (v := I 95 0) dX12_isAhead_81 ⟨Nat.le_of_ble_eq_true rfl, Nat.le_of_ble_eq_true rfl⟩ rfl (by omega) (by omega) (by decide) rfl rfl ?_
      refine aw_iconst dX12_isAhead_82 ?_
      refine aw_icmp_ne (tgt := 98) dX12_isAhead_83 rfl (by first | assumption | (unfold ab_In at *; omega)) (by first | assumption | (unfold ab_In at *; omega)) (fun c_83 => ?_) (fun c_83 => ?_)
      · refine aw_iconst dX12_isAhead_98 ?_
        refine aw_istore (ls' := [some (ab_r 84), some (ab_i (a : Int)), some (ab_i (b : Int)), some (ab_i (I 86 s)), some (ab_i 0)]) dX12_isAhead_99 (by decide) rfl ?_
        refine aw_iload_n dX12_isAhead_101 rfl ?_
        refine aw_iload dX12_isAhead_102 rfl ?_
        refine aw_icmp_gt (tgt := 134) dX12_isAhead_104 rfl (by first | assumption | (unfold ab_In at *; omega)) (by first | assumption | (unfold ab_In at *; omega)) (fun c_104 => ?_) (fun c_104 => ?_)
        · refine aw_iconst dX12_isAhead_134 ?_
          refine aw_goto (tgt := 139) dX12_isAhead_135 rfl ?_
          refine aw_breturn dX12_isAhead_139 rfl (by omega) ?_
          refine ⟨?_, rfl⟩
          have ea : (rt (I 89) a).1.toNat = s := by unfold rt; dsimp only; omega
          have eb : (rt (I 89) b).1.toNat = u := by unfold rt; dsimp only; omega
          by_cases e9 : ah (I 95 0) (n4 (I 86)) (rt (I 89) a) (rt (I 89) b) = true
          · first | (rw [if_pos e9]; done) | (exfalso; rw [ah_iff, ea, eb, n4_lt hs4, n4_lt hu4] at e9; simp only [rt] at e9; omega)
          · first | (rw [if_neg e9]; done) | (exfalso; apply e9; rw [ah_iff, ea, eb, n4_lt hs4, n4_lt hu4]; simp only [rt]; omega)
        · refine aw_iload_n dX12_isAhead_107 rfl ?_
          refine aw_iload dX12_isAhead_108 rfl ?_
          refine aw_icmp_ne (tgt := 138) dX12_isAhead_110 rfl (by first | assumption | (unfold ab_In at *; omega)) (by first | assumption | (unfold ab_In at *; omega)) (fun c_110 => ?_) (fun c_110 => ?_)
          · refine aw_iconst dX12_isAhead_138 ?_
            refine aw_breturn dX12_isAhead_139 rfl (by omega) ?_
            refine ⟨?_, rfl⟩
            have ea : (rt (I 89) a).1.toNat = s := by unfold rt; dsimp only; omega
            have eb : (rt (I 89) b).1.toNat = u := by unfold rt; dsimp only; omega
            by_cases e9 : ah (I 95 0) (n4 (I 86)) (rt (I 89) a) (rt (I 89) b) = true
            · first | (rw [if_pos e9]; done) | (exfalso; rw [ah_iff, ea, eb, n4_lt hs4, n4_lt hu4] at e9; simp only [rt] at e9; omega)
            · first | (rw [if_neg e9]; done) | (exfalso; apply e9; rw [ah_iff, ea, eb, n4_lt hs4, n4_lt hu4]; simp only [rt]; omega)
          · refine aw_aload_n dX12_isAhead_113 rfl (by decide) ?_
            refine aw_getrv (r := 89) dX12_isAhead_114 fX12_22 ⟨Nat.le_of_ble_eq_true rfl, Nat.le_of_ble_eq_true rfl⟩ rfl rfl (hF.at 84 6 89 rfl rfl rfl) ?_
            refine aw_bipush dX12_isAhead_117 rfl ?_
            refine aw_iload_n dX12_isAhead_119 rfl ?_
            refine aw_iadd dX12_isAhead_120 ?_
            refine aw_ialdq (q := (12 + a)) (v := I 89 (12 + a)) dX12_isAhead_121 ⟨Nat.le_of_ble_eq_true rfl, Nat.le_of_ble_eq_true rfl⟩ rfl (by omega) (by omega) (by decide) (by omega) rfl ?_
            refine aw_aload_n dX12_isAhead_122 rfl (by decide) ?_
            refine aw_getrv (r := 89) dX12_isAhead_123 fX12_22 ⟨Nat.le_of_ble_eq_true rfl, Nat.le_of_ble_eq_true rfl⟩ rfl rfl (hF.at 84 6 89 rfl rfl rfl) ?_
            refine aw_bipush dX12_isAhead_126 rfl ?_
            refine aw_iload_n dX12_isAhead_128 rfl ?_
            refine aw_iadd dX12_isAhead_129 ?_
            refine aw_ialdq (q := (12 + b)) (v := I 89 (12 + b)) dX12_isAhead_130 ⟨Nat.le_of_ble_eq_true rfl, Nat.le_of_ble_eq_true rfl⟩ rfl (by omega) (by omega) (by decide) (by omega) rfl ?_
            refine aw_icmp_ge (tgt := 138) dX12_isAhead_131 rfl (by first | assumption | (unfold ab_In at *; omega)) (by first | assumption | (unfold ab_In at *; omega)) (fun c_131 => ?_) (fun c_131 => ?_)
            · refine aw_iconst dX12_isAhead_138 ?_
              refine aw_breturn dX12_isAhead_139 rfl (by omega) ?_
              refine ⟨?_, rfl⟩
              have ea : (rt (I 89) a).1.toNat = s := by unfold rt; dsimp only; omega
              have eb : (rt (I 89) b).1.toNat = u := by unfold rt; dsimp only; omega
              by_cases e9 : ah (I 95 0) (n4 (I 86)) (rt (I 89) a) (rt (I 89) b) = true
              · first | (rw [if_pos e9]; done) | (exfalso; rw [ah_iff, ea, eb, n4_lt hs4, n4_lt hu4] at e9; simp only [rt] at e9; omega)
              · first | (rw [if_neg e9]; done) | (exfalso; apply e9; rw [ah_iff, ea, eb, n4_lt hs4, n4_lt hu4]; simp only [rt]; omega)
            · refine aw_iconst dX12_isAhead_134 ?_
              refine aw_goto (tgt := 139) dX12_isAhead_135 rfl ?_
              refine aw_breturn dX12_isAhead_139 rfl (by omega) ?_
              refine ⟨?_, rfl⟩
              have ea : (rt (I 89) a).1.toNat = s := by unfold rt; dsimp only; omega
              have eb : (rt (I 89) b).1.toNat = u := by unfold rt; dsimp only; omega
              by_cases e9 : ah (I 95 0) (n4 (I 86)) (rt (I 89) a) (rt (I 89) b) = true
              · first | (rw [if_pos e9]; done) | (exfalso; rw [ah_iff, ea, eb, n4_lt hs4, n4_lt hu4] at e9; simp only [rt] at e9; omega)
              · first | (rw [if_neg e9]; done) | (exfalso; apply e9; rw [ah_iff, ea, eb, n4_lt hs4, n4_lt hu4]; simp only [rt]; omega)
      · refine aw_aload_n dX12_isAhead_86 rfl (by decide) ?_
        refine aw_getrv (r := 89) dX12_isAhead_87 fX12_22 ⟨Nat.le_of_ble_eq_true rfl, Nat.le_of_ble_eq_true rfl⟩ rfl rfl (hF.at 84 6 89 rfl rfl rfl) ?_
        refine aw_bipush dX12_isAhead_90 rfl ?_
        refine aw_iload_n dX12_isAhead_92 rfl ?_
        refine aw_iadd dX12_isAhead_93 ?_
        refine aw_ialdq (q := (24 + b)) (v := I 89 (24 + b)) dX12_isAhead_94 ⟨Nat.le_of_ble_eq_true rfl, Nat.le_of_ble_eq_true rfl⟩ rfl (by omega) (by omega) (by decide) (by omega) rfl ?_
        refine aw_goto (tgt := 99) dX12_isAhead_95 rfl ?_
        refine aw_istore (ls' := [some (ab_r 84), some (ab_i (a : Int)), some (ab_i (b : Int)), some (ab_i (I 86 s)), some (ab_i (I 89 (24 + b)))]) dX12_isAhead_99 (by decide) rfl ?_
        refine aw_iload_n dX12_isAhead_101 rfl ?_
        refine aw_iload dX12_isAhead_102 rfl ?_
        refine aw_icmp_gt (tgt := 134) dX12_isAhead_104 rfl (by first | assumption | (unfold ab_In at *; omega)) (by first | assumption | (unfold ab_In at *; omega)) (fun c_104 => ?_) (fun c_104 => ?_)
        · refine aw_iconst dX12_isAhead_134 ?_
          refine aw_goto (tgt := 139) dX12_isAhead_135 rfl ?_
          refine aw_breturn dX12_isAhead_139 rfl (by omega) ?_
          refine ⟨?_, rfl⟩
          have ea : (rt (I 89) a).1.toNat = s := by unfold rt; dsimp only; omega
          have eb : (rt (I 89) b).1.toNat = u := by unfold rt; dsimp only; omega
          by_cases e9 : ah (I 95 0) (n4 (I 86)) (rt (I 89) a) (rt (I 89) b) = true
          · first | (rw [if_pos e9]; done) | (exfalso; rw [ah_iff, ea, eb, n4_lt hs4, n4_lt hu4] at e9; simp only [rt] at e9; omega)
          · first | (rw [if_neg e9]; done) | (exfalso; apply e9; rw [ah_iff, ea, eb, n4_lt hs4, n4_lt hu4]; simp only [rt]; omega)
        · refine aw_iload_n dX12_isAhead_107 rfl ?_
          refine aw_iload dX12_isAhead_108 rfl ?_
          refine aw_icmp_ne (tgt := 138) dX12_isAhead_110 rfl (by first | assumption | (unfold ab_In at *; omega)) (by first | assumption | (unfold ab_In at *; omega)) (fun c_110 => ?_) (fun c_110 => ?_)
          · refine aw_iconst dX12_isAhead_138 ?_
            refine aw_breturn dX12_isAhead_139 rfl (by omega) ?_
            refine ⟨?_, rfl⟩
            have ea : (rt (I 89) a).1.toNat = s := by unfold rt; dsimp only; omega
            have eb : (rt (I 89) b).1.toNat = u := by unfold rt; dsimp only; omega
            by_cases e9 : ah (I 95 0) (n4 (I 86)) (rt (I 89) a) (rt (I 89) b) = true
            · first | (rw [if_pos e9]; done) | (exfalso; rw [ah_iff, ea, eb, n4_lt hs4, n4_lt hu4] at e9; simp only [rt] at e9; omega)
            · first | (rw [if_neg e9]; done) | (exfalso; apply e9; rw [ah_iff, ea, eb, n4_lt hs4, n4_lt hu4]; simp only [rt]; omega)
          · refine aw_aload_n dX12_isAhead_113 rfl (by decide) ?_
            refine aw_getrv (r := 89) dX12_isAhead_114 fX12_22 ⟨Nat.le_of_ble_eq_true rfl, Nat.le_of_ble_eq_true rfl⟩ rfl rfl (hF.at 84 6 89 rfl rfl rfl) ?_
            refine aw_bipush dX12_isAhead_117 rfl ?_
            refine aw_iload_n dX12_isAhead_119 rfl ?_
            refine aw_iadd dX12_isAhead_120 ?_
            refine aw_ialdq (q := (12 + a)) (v := I 89 (12 + a)) dX12_isAhead_121 ⟨Nat.le_of_ble_eq_true rfl, Nat.le_of_ble_eq_true rfl⟩ rfl (by omega) (by omega) (by decide) (by omega) rfl ?_
            refine aw_aload_n dX12_isAhead_122 rfl (by decide) ?_
            refine aw_getrv (r := 89) dX12_isAhead_123 fX12_22 ⟨Nat.le_of_ble_eq_true rfl, Nat.le_of_ble_eq_true rfl⟩ rfl rfl (hF.at 84 6 89 rfl rfl rfl) ?_
            refine aw_bipush dX12_isAhead_126 rfl ?_
            refine aw_iload_n dX12_isAhead_128 rfl ?_
            refine aw_iadd dX12_isAhead_129 ?_
            refine aw_ialdq (q := (12 + b)) (v := I 89 (12 + b)) dX12_isAhead_130 ⟨Nat.le_of_ble_eq_true rfl, Nat.le_of_ble_eq_true rfl⟩ rfl (by omega) (by omega) (by decide) (by omega) rfl ?_
            refine aw_icmp_ge (tgt := 138) dX12_isAhead_131 rfl (by first | assumption | (unfold ab_In at *; omega)) (by first | assumption | (unfold ab_In at *; omega)) (fun c_131 => ?_) (fun c_131 => ?_)
            · refine aw_iconst dX12_isAhead_138 ?_
              refine aw_breturn dX12_isAhead_139 rfl (by omega) ?_
              refine ⟨?_, rfl⟩
              have ea : (rt (I 89) a).1.toNat = s := by unfold rt; dsimp only; omega
              have eb : (rt (I 89) b).1.toNat = u := by unfold rt; dsimp only; omega
              by_cases e9 : ah (I 95 0) (n4 (I 86)) (rt (I 89) a) (rt (I 89) b) = true
              · first | (rw [if_pos e9]; done) | (exfalso; rw [ah_iff, ea, eb, n4_lt hs4, n4_lt hu4] at e9; simp only [rt] at e9; omega)
              · first | (rw [if_neg e9]; done) | (exfalso; apply e9; rw [ah_iff, ea, eb, n4_lt hs4, n4_lt hu4]; simp only [rt]; omega)
            · refine aw_iconst dX12_isAhead_134 ?_
              refine aw_goto (tgt := 139) dX12_isAhead_135 rfl ?_
              refine aw_breturn dX12_isAhead_139 rfl (by omega) ?_
              refine ⟨?_, rfl⟩
              have ea : (rt (I 89) a).1.toNat = s := by unfold rt; dsimp only; omega
              have eb : (rt (I 89) b).1.toNat = u := by unfold rt; dsimp only; omega
              by_cases e9 : ah (I 95 0) (n4 (I 86)) (rt (I 89) a) (rt (I 89) b) = true
              · first | (rw [if_pos e9]; done) | (exfalso; rw [ah_iff, ea, eb, n4_lt hs4, n4_lt hu4] at e9; simp only [rt] at e9; omega)
              · first | (rw [if_neg e9]; done) | (exfalso; apply e9; rw [ah_iff, ea, eb, n4_lt hs4, n4_lt hu4]; simp only [rt]; omega)
    · refine aw_aload_n dX12_isAhead_60 rfl (by decide) ?_
      refine aw_getrv (r := 86) dX12_isAhead_61 fX12_13 ⟨Nat.le_of_ble_eq_true rfl, Nat.le_of_ble_eq_true rfl⟩ rfl rfl (hF.at 84 1 86 rfl rfl rfl) ?_
      refine aw_aload_n dX12_isAhead_64 rfl (by decide) ?_
      refine aw_getrv (r := 89) dX12_isAhead_65 fX12_22 ⟨Nat.le_of_ble_eq_true rfl, Nat.le_of_ble_eq_true rfl⟩ rfl rfl (hF.at 84 6 89 rfl rfl rfl) ?_
      refine aw_iconst dX12_isAhead_68 ?_
      refine aw_iload_n dX12_isAhead_69 rfl ?_
      refine aw_iadd dX12_isAhead_70 ?_
      refine aw_ialdq (q := b) (v := (u : Int)) dX12_isAhead_71 ⟨Nat.le_of_ble_eq_true rfl, Nat.le_of_ble_eq_true rfl⟩ rfl (by omega) (by omega) (by decide) (by omega) hu ?_
      refine aw_ialdq (q := u) (v := I 86 u) dX12_isAhead_72 ⟨Nat.le_of_ble_eq_true rfl, Nat.le_of_ble_eq_true rfl⟩ rfl (by omega) (by omega) (by decide) rfl rfl ?_
      refine aw_goto (tgt := 99) dX12_isAhead_73 rfl ?_
      refine aw_istore (ls' := [some (ab_r 84), some (ab_i (a : Int)), some (ab_i (b : Int)), some (ab_i (I 86 s)), some (ab_i (I 86 u))]) dX12_isAhead_99 (by decide) rfl ?_
      refine aw_iload_n dX12_isAhead_101 rfl ?_
      refine aw_iload dX12_isAhead_102 rfl ?_
      refine aw_icmp_gt (tgt := 134) dX12_isAhead_104 rfl (by first | assumption | (unfold ab_In at *; omega)) (by first | assumption | (unfold ab_In at *; omega)) (fun c_104 => ?_) (fun c_104 => ?_)
      · refine aw_iconst dX12_isAhead_134 ?_
        refine aw_goto (tgt := 139) dX12_isAhead_135 rfl ?_
        refine aw_breturn dX12_isAhead_139 rfl (by omega) ?_
        refine ⟨?_, rfl⟩
        have ea : (rt (I 89) a).1.toNat = s := by unfold rt; dsimp only; omega
        have eb : (rt (I 89) b).1.toNat = u := by unfold rt; dsimp only; omega
        by_cases e9 : ah (I 95 0) (n4 (I 86)) (rt (I 89) a) (rt (I 89) b) = true
        · first | (rw [if_pos e9]; done) | (exfalso; rw [ah_iff, ea, eb, n4_lt hs4, n4_lt hu4] at e9; simp only [rt] at e9; omega)
        · first | (rw [if_neg e9]; done) | (exfalso; apply e9; rw [ah_iff, ea, eb, n4_lt hs4, n4_lt hu4]; simp only [rt]; omega)
      · refine aw_iload_n dX12_isAhead_107 rfl ?_
        refine aw_iload dX12_isAhead_108 rfl ?_
        refine aw_icmp_ne (tgt := 138) dX12_isAhead_110 rfl (by first | assumption | (unfold ab_In at *; omega)) (by first | assumption | (unfold ab_In at *; omega)) (fun c_110 => ?_) (fun c_110 => ?_)
        · refine aw_iconst dX12_isAhead_138 ?_
          refine aw_breturn dX12_isAhead_139 rfl (by omega) ?_
          refine ⟨?_, rfl⟩
          have ea : (rt (I 89) a).1.toNat = s := by unfold rt; dsimp only; omega
          have eb : (rt (I 89) b).1.toNat = u := by unfold rt; dsimp only; omega
          by_cases e9 : ah (I 95 0) (n4 (I 86)) (rt (I 89) a) (rt (I 89) b) = true
          · first | (rw [if_pos e9]; done) | (exfalso; rw [ah_iff, ea, eb, n4_lt hs4, n4_lt hu4] at e9; simp only [rt] at e9; omega)
          · first | (rw [if_neg e9]; done) | (exfalso; apply e9; rw [ah_iff, ea, eb, n4_lt hs4, n4_lt hu4]; simp only [rt]; omega)
        · refine aw_aload_n dX12_isAhead_113 rfl (by decide) ?_
          refine aw_getrv (r := 89) dX12_isAhead_114 fX12_22 ⟨Nat.le_of_ble_eq_true rfl, Nat.le_of_ble_eq_true rfl⟩ rfl rfl (hF.at 84 6 89 rfl rfl rfl) ?_
          refine aw_bipush dX12_isAhead_117 rfl ?_
          refine aw_iload_n dX12_isAhead_119 rfl ?_
          refine aw_iadd dX12_isAhead_120 ?_
          refine aw_ialdq (q := (12 + a)) (v := I 89 (12 + a)) dX12_isAhead_121 ⟨Nat.le_of_ble_eq_true rfl, Nat.le_of_ble_eq_true rfl⟩ rfl (by omega) (by omega) (by decide) (by omega) rfl ?_
          refine aw_aload_n dX12_isAhead_122 rfl (by decide) ?_
          refine aw_getrv (r := 89) dX12_isAhead_123 fX12_22 ⟨Nat.le_of_ble_eq_true rfl, Nat.le_of_ble_eq_true rfl⟩ rfl rfl (hF.at 84 6 89 rfl rfl rfl) ?_
          refine aw_bipush dX12_isAhead_126 rfl ?_
          refine aw_iload_n dX12_isAhead_128 rfl ?_
          refine aw_iadd dX12_isAhead_129 ?_
          refine aw_ialdq (q := (12 + b)) (v := I 89 (12 + b)) dX12_isAhead_130 ⟨Nat.le_of_ble_eq_true rfl, Nat.le_of_ble_eq_true rfl⟩ rfl (by omega) (by omega) (by decide) (by omega) rfl ?_
          refine aw_icmp_ge (tgt := 138) dX12_isAhead_131 rfl (by first | assumption | (unfold ab_In at *; omega)) (by first | assumption | (unfold ab_In at *; omega)) (fun c_131 => ?_) (fun c_131 => ?_)
          · refine aw_iconst dX12_isAhead_138 ?_
            refine aw_breturn dX12_isAhead_139 rfl (by omega) ?_
            refine ⟨?_, rfl⟩
            have ea : (rt (I 89) a).1.toNat = s := by unfold rt; dsimp only; omega
            have eb : (rt (I 89) b).1.toNat = u := by unfold rt; dsimp only; omega
            by_cases e9 : ah (I 95 0) (n4 (I 86)) (rt (I 89) a) (rt (I 89) b) = true
            · first | (rw [if_pos e9]; done) | (exfalso; rw [ah_iff, ea, eb, n4_lt hs4, n4_lt hu4] at e9; simp only [rt] at e9; omega)
            · first | (rw [if_neg e9]; done) | (exfalso; apply e9; rw [ah_iff, ea, eb, n4_lt hs4, n4_lt hu4]; simp only [rt]; omega)
          · refine aw_iconst dX12_isAhead_134 ?_
            refine aw_goto (tgt := 139) dX12_isAhead_135 rfl ?_
            refine aw_breturn dX12_isAhead_139 rfl (by omega) ?_
            refine ⟨?_, rfl⟩
            have ea : (rt (I 89) a).1.toNat = s := by unfold rt; dsimp only; omega
            have eb : (rt (I 89) b).1.toNat = u := by unfold rt; dsimp only; omega
            by_cases e9 : ah (I 95 0) (n4 (I 86)) (rt (I 89) a) (rt (I 89) b) = true
            · first | (rw [if_pos e9]; done) | (exfalso; rw [ah_iff, ea, eb, n4_lt hs4, n4_lt hu4] at e9; simp only [rt] at e9; omega)
            · first | (rw [if_neg e9]; done) | (exfalso; apply e9; rw [ah_iff, ea, eb, n4_lt hs4, n4_lt hu4]; simp only [rt]; omega)
set_option maxHeartbeats 4000000 in
set_option maxRecDepth 100000 in
theorem ct_X12_findOrder (G : ab_G) (I : Nat → Nat → Int) (F : Nat → Nat → Nat) (hF : ab_FB F) (N : Nat) (W nx : Int) (hb : ∀ p, p < N → PB W nx (rt (I 89) p)) (hW : W ≤ 6000) (hnx : nx ≤ 100000) (hN12 : N ≤ 12) (hn : ∀ s, s < 4 → 1 ≤ I 86 s ∧ I 86 s ≤ 9) (ho : ab_In (I 95 0)) (hN : I 89 84 = N) (hnm : ∀ a b, a < N → b < N → a ≠ b → I 89 (12 + a) ≠ I 89 (12 + b)) : Ct G 1 0 0 YX12_findOrder [ab_r 84] (104, I, F) (fun r h => r = none ∧ ∃ I2, h = (104, I2, F) ∧ (∀ i b, i ≠ 91 → I2 i b = I i b) ∧ ∀ q, q < N → I2 91 q = (sd (fun a b => ah (I 95 0) (n4 (I 86)) (rt (I 89) a) (rt (I 89) b)) id N q : Int)) := by
  refine Ct.ofW kX12_findOrder (ls := [some (ab_r 84), none, none, none]) (Nat.le_of_ble_eq_true rfl) rfl ?_
  generalize hZ : ab_Z G (fun r h => r = none ∧ ∃ I2, h = (104, I2, F) ∧ (∀ i b, i ≠ 91 → I2 i b = I i b) ∧ ∀ q, q < N → I2 91 q = (sd (fun a b => ah (I 95 0) (n4 (I 86)) (rt (I 89) a) (rt (I 89) b)) id N q : Int)) 0 0 = Z
  generalize hRd : (fun a b => ah (I 95 0) (n4 (I 86)) (rt (I 89) a) (rt (I 89) b)) = Rd at *
  have has : ∀ a b, Rd a b = true → ¬ Rd b a = true := fun a b h => by rw [← hRd] at *; exact ah_asymm h
  have htr : ∀ a b c, ¬ Rd b a = true → ¬ Rd c b = true → ¬ Rd c a = true := fun a b c h h2 => by rw [← hRd] at *; exact ah_trans h h2
  have htot : ∀ a b, a < N → b < N → a ≠ b → Rd a b = true ∨ Rd b a = true := fun a b h1 h2 h3 => by
    by_cases q1 : Rd a b = true
    · exact Or.inl q1
    · by_cases q2 : Rd b a = true
      · exact Or.inr q2
      · rw [← hRd] at q1 q2
        exact absurd (ah_total q2 q1) (hnm a b h1 h2 h3)
  have hrk := rk_sd Rd N has htr htot
  have hrl : ∀ a, a < N → rk Rd a N < N := fun a ha => by obtain ⟨q, hq, e⟩ := sd_onto Rd N ha; rw [← e, hrk q hq]; exact hq
  have hri : ∀ a b, a < N → b < N → rk Rd a N = rk Rd b N → a = b := fun a b ha hb2 e => by
    obtain ⟨q, hq, e1⟩ := sd_onto Rd N ha
    obtain ⟨q2, hq2, e2⟩ := sd_onto Rd N hb2
    rw [← e1, ← e2, hrk q hq, hrk q2 hq2] at e
    rw [← e1, ← e2, e]
  have outer : ∀ (d a : Nat) (I1 : Nat → Nat → Int), a + d = N → (∀ i b, i ≠ 91 → I1 i b = I i b) → (∀ x, x < a → I1 91 (rk Rd x N) = (x : Int)) → aW G YX12_findOrder (ab_rm 1 0 0) Z 0 0 (104, I1, F) 2 [some (ab_r 84), some (ab_i (a : Int)), none, none] [] := by
    intro d
    induction d with
    | zero =>
      intro a I1 ha he hx
      have haN : a = N := by omega
      have h84 : I1 89 84 = (N : Int) := (he 89 84 (by omega)).trans hN
      refine aw_iload_n dX12_findOrder_2 rfl ?_
      refine aw_aload_n dX12_findOrder_3 rfl (by decide) ?_
      refine aw_getrv (r := 89) dX12_findOrder_4 fX12_22 ⟨Nat.le_of_ble_eq_true rfl, Nat.le_of_ble_eq_true rfl⟩ rfl rfl (hF.at 84 6 89 rfl rfl rfl) ?_
      refine aw_bipush dX12_findOrder_7 rfl ?_
      refine aw_ialdq (q := 84) (v := (N : Int)) dX12_findOrder_9 ⟨Nat.le_of_ble_eq_true rfl, Nat.le_of_ble_eq_true rfl⟩ rfl (by omega) (by omega) (by decide) rfl h84 ?_
      refine aw_icmp_ge (tgt := 69) dX12_findOrder_10 rfl (by first | assumption | (unfold ab_In at *; omega)) (by first | assumption | (unfold ab_In at *; omega)) (fun c_10 => ?_) (fun c_10 => ?_)
      · rw [← hZ]
        refine aw_return dX12_findOrder_69 rfl ?_
        refine ⟨rfl, I1, rfl, he, fun q hq => ?_⟩
        have := hx _ (by rw [haN]; exact sd_ltN Rd N hq)
        rw [hrk q hq] at this
        rw [this]
      · exfalso; omega
    | succ d ih =>
      intro a I1 ha he hx
      have haN : a < N := by omega
      have h84 : I1 89 84 = (N : Int) := (he 89 84 (by omega)).trans hN
      have h89 : I1 89 = I 89 := funext fun b => he 89 b (by omega)
      have h86 : I1 86 = I 86 := funext fun b => he 86 b (by omega)
      have h95 : I1 95 0 = I 95 0 := he 95 0 (by omega)
      have inner : ∀ (e k : Nat), k + e = N → aW G YX12_findOrder (ab_rm 1 0 0) Z 0 0 (104, I1, F) 17 [some (ab_r 84), some (ab_i (a : Int)), some (ab_i (rk Rd a k : Int)), some (ab_i (k : Int))] [] := by
        intro e
        induction e with
        | zero =>
          intro k hk
          have hkN : k = N := by omega
          subst hkN
          have hrl9 := hrl a haN
          refine aw_iload_n dX12_findOrder_17 rfl ?_
          refine aw_aload_n dX12_findOrder_18 rfl (by decide) ?_
          refine aw_getrv (r := 89) dX12_findOrder_19 fX12_22 ⟨Nat.le_of_ble_eq_true rfl, Nat.le_of_ble_eq_true rfl⟩ rfl rfl (hF.at 84 6 89 rfl rfl rfl) ?_
          refine aw_bipush dX12_findOrder_22 rfl ?_
          refine aw_ialdq (q := 84) (v := (k : Int)) dX12_findOrder_24 ⟨Nat.le_of_ble_eq_true rfl, Nat.le_of_ble_eq_true rfl⟩ rfl (by omega) (by omega) (by decide) rfl h84 ?_
          refine aw_icmp_ge (tgt := 56) dX12_findOrder_25 rfl (by first | assumption | (unfold ab_In at *; omega)) (by first | assumption | (unfold ab_In at *; omega)) (fun c_25 => ?_) (fun c_25 => ?_)
          · refine aw_aload_n dX12_findOrder_56 rfl (by decide) ?_
            refine aw_getrv (r := 91) dX12_findOrder_57 fX12_28 ⟨Nat.le_of_ble_eq_true rfl, Nat.le_of_ble_eq_true rfl⟩ rfl rfl (hF.at 84 8 91 rfl rfl rfl) ?_
            refine aw_iload_n dX12_findOrder_60 rfl ?_
            refine aw_iload_n dX12_findOrder_61 rfl ?_
            refine aw_iastv (q := (rk Rd a k : Int).toNat) dX12_findOrder_62 ⟨Nat.le_of_ble_eq_true rfl, Nat.le_of_ble_eq_true rfl⟩ rfl (by omega) (by omega) (by decide) rfl ?_
            refine aw_iinc (ls' := [some (ab_r 84), some (ab_i ((a : Int) + 1)), some (ab_i (rk Rd a k : Int)), some (ab_i (k : Int))]) dX12_findOrder_63 (by decide) rfl rfl ?_
            refine aw_goto (tgt := 2) dX12_findOrder_66 rfl ?_
            have hx2 : ∀ x, x < a + 1 → ab_u I1 91 (rk Rd a k) (a : Int) 91 (rk Rd x k) = (x : Int) := fun x hxa => if e9 : x = a then (by rw [e9, ab_u_s]) else (by rw [ab_u_j (fun e8 => e9 (hri x a (by omega) haN e8))]; exact hx x (by omega))
            have ih9 := ih (a + 1) _ (by omega) (fun i b hi => by rw [ab_u_i hi]; exact he i b hi) hx2
            exact aw_le (ab_le_c (ab_le_c (ab_le_n (ab_le_n ab_le_nil)))) ih9
          · exfalso; omega
        | succ e ihe =>
          intro k hk
          have hkN : k < N := by omega
          have hrl9 := rk_le Rd a k
          refine aw_iload_n dX12_findOrder_17 rfl ?_
          refine aw_aload_n dX12_findOrder_18 rfl (by decide) ?_
          refine aw_getrv (r := 89) dX12_findOrder_19 fX12_22 ⟨Nat.le_of_ble_eq_true rfl, Nat.le_of_ble_eq_true rfl⟩ rfl rfl (hF.at 84 6 89 rfl rfl rfl) ?_
          refine aw_bipush dX12_findOrder_22 rfl ?_
          refine aw_ialdq (q := 84) (v := (N : Int)) dX12_findOrder_24 ⟨Nat.le_of_ble_eq_true rfl, Nat.le_of_ble_eq_true rfl⟩ rfl (by omega) (by omega) (by decide) rfl h84 ?_
          refine aw_icmp_ge (tgt := 56) dX12_findOrder_25 rfl (by first | assumption | (unfold ab_In at *; omega)) (by first | assumption | (unfold ab_In at *; omega)) (fun c_25 => ?_) (fun c_25 => ?_)
          · exfalso; omega
          · refine aw_iload_n dX12_findOrder_28 rfl ?_
            refine aw_iload_n dX12_findOrder_29 rfl ?_
            refine aw_iload_n dX12_findOrder_30 rfl ?_
            refine aw_icmp_eq (tgt := 47) dX12_findOrder_31 rfl (by first | assumption | (unfold ab_In at *; omega)) (by first | assumption | (unfold ab_In at *; omega)) (fun c_31 => ?_) (fun c_31 => ?_)
            · refine aw_iconst dX12_findOrder_47 ?_
              refine aw_iadd dX12_findOrder_48 ?_
              refine aw_istore_n (ls' := [some (ab_r 84), some (ab_i (a : Int)), some (ab_i ((rk Rd a k : Int) + 0)), some (ab_i (k : Int))]) dX12_findOrder_49 (by decide) rfl ?_
              refine aw_iinc (ls' := [some (ab_r 84), some (ab_i (a : Int)), some (ab_i ((rk Rd a k : Int) + 0)), some (ab_i ((k : Int) + 1))]) dX12_findOrder_50 (by decide) rfl rfl ?_
              refine aw_goto (tgt := 17) dX12_findOrder_53 rfl ?_
              have hno : ¬ (k ≠ a ∧ Rd k a = true) := fun h => h.1 (by omega)
              have ih9 := ihe (k + 1) (by omega)
              rw [rk_s, if_neg hno] at ih9
              exact ih9
            · have c_31 : k ≠ a := by omega
              refine aw_aload_n dX12_findOrder_34 rfl (by decide) ?_
              refine aw_iload_n dX12_findOrder_35 rfl ?_
              refine aw_iload_n dX12_findOrder_36 rfl ?_
              refine aw_callV (as := [ab_i (k : Int), ab_i (a : Int)]) (rest := [ab_i (rk Rd a k : Int)]) dX12_findOrder_37 (ct_X12_isAhead G I1 F hF N W nx (by rw [h89]; exact hb) hW hnx hN12 (by rw [h86]; exact hn) (by rw [h95]; exact ho) k a hkN haN) ⟨Nat.le_of_ble_eq_true rfl, Nat.le_of_ble_eq_true rfl⟩ rfl kc12 rfl kX12_isAhead iX12_isAhead eX12_isAhead lX12_94 rfl (Nat.le_of_ble_eq_true rfl) (by decide) (by decide) (by decide) (by decide) ?_
              rintro _ _ ⟨rfl, rfl⟩
              rw [h89, h86, h95, show ah (I 95 0) (n4 (I 86)) (rt (I 89) k) (rt (I 89) a) = Rd k a from congrFun (congrFun hRd k) a]
              by_cases q01 : Rd k a = true
              · rw [if_pos q01]
                refine aw_if_eq (tgt := 47) dX12_findOrder_40 rfl ⟨by decide, by decide⟩ (fun c9 => absurd c9 (by decide)) (fun _ => ?_)
                refine aw_iconst dX12_findOrder_43 ?_
                refine aw_goto (tgt := 48) dX12_findOrder_44 rfl ?_
                refine aw_iadd dX12_findOrder_48 ?_
                refine aw_istore_n (ls' := [some (ab_r 84), some (ab_i (a : Int)), some (ab_i ((rk Rd a k : Int) + 1)), some (ab_i (k : Int))]) dX12_findOrder_49 (by decide) rfl ?_
                refine aw_iinc (ls' := [some (ab_r 84), some (ab_i (a : Int)), some (ab_i ((rk Rd a k : Int) + 1)), some (ab_i ((k : Int) + 1))]) dX12_findOrder_50 (by decide) rfl rfl ?_
                refine aw_goto (tgt := 17) dX12_findOrder_53 rfl ?_
                have ih9 := ihe (k + 1) (by omega)
                rw [rk_s, if_pos ⟨c_31, q01⟩] at ih9
                exact ih9
              · rw [if_neg q01]
                have hno : ¬ (k ≠ a ∧ Rd k a = true) := fun h => q01 h.2
                refine aw_if_eq (tgt := 47) dX12_findOrder_40 rfl ⟨by decide, by decide⟩ (fun _ => ?_) (fun c9 => absurd (by decide) c9)
                refine aw_iconst dX12_findOrder_47 ?_
                refine aw_iadd dX12_findOrder_48 ?_
                refine aw_istore_n (ls' := [some (ab_r 84), some (ab_i (a : Int)), some (ab_i ((rk Rd a k : Int) + 0)), some (ab_i (k : Int))]) dX12_findOrder_49 (by decide) rfl ?_
                refine aw_iinc (ls' := [some (ab_r 84), some (ab_i (a : Int)), some (ab_i ((rk Rd a k : Int) + 0)), some (ab_i ((k : Int) + 1))]) dX12_findOrder_50 (by decide) rfl rfl ?_
                refine aw_goto (tgt := 17) dX12_findOrder_53 rfl ?_
                have ih9 := ihe (k + 1) (by omega)
                rw [rk_s, if_neg hno] at ih9
                exact ih9
      refine aw_iload_n dX12_findOrder_2 rfl ?_
      refine aw_aload_n dX12_findOrder_3 rfl (by decide) ?_
      refine aw_getrv (r := 89) dX12_findOrder_4 fX12_22 ⟨Nat.le_of_ble_eq_true rfl, Nat.le_of_ble_eq_true rfl⟩ rfl rfl (hF.at 84 6 89 rfl rfl rfl) ?_
      refine aw_bipush dX12_findOrder_7 rfl ?_
      refine aw_ialdq (q := 84) (v := (N : Int)) dX12_findOrder_9 ⟨Nat.le_of_ble_eq_true rfl, Nat.le_of_ble_eq_true rfl⟩ rfl (by omega) (by omega) (by decide) rfl h84 ?_
      refine aw_icmp_ge (tgt := 69) dX12_findOrder_10 rfl (by first | assumption | (unfold ab_In at *; omega)) (by first | assumption | (unfold ab_In at *; omega)) (fun c_10 => ?_) (fun c_10 => ?_)
      · exfalso; omega
      · refine aw_iconst dX12_findOrder_13 ?_
        refine aw_istore_n (ls' := [some (ab_r 84), some (ab_i (a : Int)), some (ab_i 0), none]) dX12_findOrder_14 (by decide) rfl ?_
        refine aw_iconst dX12_findOrder_15 ?_
        refine aw_istore_n (ls' := [some (ab_r 84), some (ab_i (a : Int)), some (ab_i 0), some (ab_i 0)]) dX12_findOrder_16 (by decide) rfl ?_
        exact inner N 0 (by omega)
  refine aw_iconst dX12_findOrder_0 ?_
  refine aw_istore_n (ls' := [some (ab_r 84), some (ab_i 0), none, none]) dX12_findOrder_1 (by decide) rfl ?_
  exact outer N 0 I (by omega) (fun _ _ _ => rfl) (fun x hx => by omega)
