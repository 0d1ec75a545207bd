theorem tk_01 (ru : Ru) (tn : Tn) (k : Nat) (t : P5) : tk1 ru tn k t = 1 ∨ tk1 ru tn k t = 0 := (rl_01 _ _ _ _ _).symm
set_option maxHeartbeats 4000000 in
set_option maxRecDepth 100000 in
theorem ct_X12_doesTake (G : ab_G) (I : Nat → Nat → Int) (F : Nat → Nat → Nat) (hF : ab_FB F) (W nx : Int) (hW : W ≤ 6000) (hT : TBM I) (hR : RBM I) (p k : Nat) (hb : PB W nx (rt (I 89) p)) (hp : p < 12) (hk : k < 4) : Ct G 0 0 0 YX12_doesTake [ab_r 84, ab_i (p : Int), ab_i (k : Int)] (104, I, F) (fun r h => r = some (ab_i (tk1 (ruM I) (tnM I) k (rt (I 89) p))) ∧ h = (104, I, F)) := by
  refine Ct.ofW kX12_doesTake (ls := [some (ab_r 84), some (ab_i (p : Int)), some (ab_i (k : Int)), none, none, none]) (Nat.le_of_ble_eq_true rfl) rfl ?_
  have hpa := hb
  unfold PB rt at hpa
  dsimp only at hpa
  obtain ⟨s, hs⟩ : ∃ s : Nat, I 89 p = (s : Int) := ⟨(I 89 p).toNat, by omega⟩
  have hs4 : s < 4 := by omega
  have hr := hR.2.2.2.2 s hs4
  have hw := hT.2.1 s k hs4 hk
  have hm := mul_bd (a := I 95 (6 + 3 * s)) (b := I 89 (48 + p)) hr.2.2.1 hr.2.2.2 (by omega) (by omega)
  have ev : tk1 (ruM I) (tnM I) k (rt (I 89) p) = rl_takes (I 95 (4 + 3 * s)) (I 95 (5 + 3 * s)) (I 95 (6 + 3 * s)) (I 85 (4 * s + k)) (I 89 (48 + p)) := by
    have e0 : (rt (I 89) p).1.toNat = s := by unfold rt; dsimp only; omega
    unfold tk1 ruM tnM
    dsimp only
    rw [e0, n4_lt hs4, n4_lt hs4, n4_lt hs4, if_pos ⟨hs4, hk⟩]; rfl
  rw [ev]
  refine aw_aload_n dX12_doesTake_0 rfl (by decide) ?_
  refine aw_getrv (r := 89) dX12_doesTake_1 fX12_22 ⟨Nat.le_of_ble_eq_true rfl, Nat.le_of_ble_eq_true rfl⟩ rfl rfl (hF.at 84 6 89 rfl rfl rfl) ?_
  refine aw_iconst dX12_doesTake_4 ?_
  refine aw_iload_n dX12_doesTake_5 rfl ?_
  refine aw_iadd dX12_doesTake_6 ?_
  refine aw_ialdq (q := p) (v := (s : Int)) dX12_doesTake_7 ⟨Nat.le_of_ble_eq_true rfl, Nat.le_of_ble_eq_true rfl⟩ rfl (by omega) (by omega) (by decide) (by omega) hs ?_
  refine aw_istore_n (ls' := [some (ab_r 84), some (ab_i (p : Int)), some (ab_i (k : Int)), some (ab_i (s : Int)), none, none]) dX12_doesTake_8 (by decide) rfl ?_
  refine aw_aload_n dX12_doesTake_9 rfl (by decide) ?_
  refine aw_getrv (r := 85) dX12_doesTake_10 fX12_7 ⟨Nat.le_of_ble_eq_true rfl, Nat.le_of_ble_eq_true rfl⟩ rfl rfl (hF.at 84 0 85 rfl rfl rfl) ?_
  refine aw_iconst dX12_doesTake_13 ?_
  refine aw_iload_n dX12_doesTake_14 rfl ?_
  refine aw_imul dX12_doesTake_15 ?_
  refine aw_iload_n dX12_doesTake_16 rfl ?_
  refine aw_iadd dX12_doesTake_17 ?_
  refine aw_ialdq (q := (4 * s + k)) (v := I 85 (4 * s + k)) dX12_doesTake_18 ⟨Nat.le_of_ble_eq_true rfl, Nat.le_of_ble_eq_true rfl⟩ rfl (by omega) (by omega) (by decide) (by omega) rfl ?_
  refine aw_istore (ls' := [some (ab_r 84), some (ab_i (p : Int)), some (ab_i (k : Int)), some (ab_i (s : Int)), some (ab_i (I 85 (4 * s + k))), none]) dX12_doesTake_19 (by decide) rfl ?_
  refine aw_aload_n dX12_doesTake_21 rfl (by decide) ?_
  refine aw_getrv (r := 95) dX12_doesTake_22 fX12_41 ⟨Nat.le_of_ble_eq_true rfl, Nat.le_of_ble_eq_true rfl⟩ rfl rfl (hF.at 84 20 95 rfl rfl rfl) ?_
  refine aw_iconst dX12_doesTake_25 ?_
  refine aw_iconst dX12_doesTake_26 ?_
  refine aw_iload_n dX12_doesTake_27 rfl ?_
  refine aw_imul dX12_doesTake_28 ?_
  refine aw_iadd dX12_doesTake_29 ?_
  refine aw_ialdq (q := (4 + 3 * s)) (v := I 95 (4 + 3 * s)) dX12_doesTake_30 ⟨Nat.le_of_ble_eq_true rfl, Nat.le_of_ble_eq_true rfl⟩ rfl (by omega) (by omega) (by decide) (by omega) rfl ?_
  refine aw_istore (ls' := [some (ab_r 84), some (ab_i (p : Int)), some (ab_i (k : Int)), some (ab_i (s : Int)), some (ab_i (I 85 (4 * s + k))), some (ab_i (I 95 (4 + 3 * s)))]) dX12_doesTake_31 (by decide) rfl ?_
  refine aw_iload dX12_doesTake_33 rfl ?_
  refine aw_if_eq (tgt := 85) dX12_doesTake_35 rfl (by first | assumption | (unfold ab_In at *; omega)) (fun c_35 => ?_) (fun c_35 => ?_)
  · refine aw_iconst dX12_doesTake_85 ?_
    refine aw_goto (tgt := 90) dX12_doesTake_86 rfl ?_
    refine aw_breturn dX12_doesTake_90 rfl (by omega) ?_
    refine ⟨?_, rfl⟩
    unfold rl_takes
    (repeat' split) <;> first | rfl | (exfalso; omega)
  · refine aw_iload dX12_doesTake_38 rfl ?_
    refine aw_aload_n dX12_doesTake_40 rfl (by decide) ?_
    refine aw_getrv (r := 95) dX12_doesTake_41 fX12_41 ⟨Nat.le_of_ble_eq_true rfl, Nat.le_of_ble_eq_true rfl⟩ rfl rfl (hF.at 84 20 95 rfl rfl rfl) ?_
    refine aw_iconst dX12_doesTake_44 ?_
    refine aw_iconst dX12_doesTake_45 ?_
    refine aw_iload_n dX12_doesTake_46 rfl ?_
    refine aw_imul dX12_doesTake_47 ?_
    refine aw_iadd dX12_doesTake_48 ?_
    refine aw_ialdq (q := (5 + 3 * s)) (v := I 95 (5 + 3 * s)) dX12_doesTake_49 ⟨Nat.le_of_ble_eq_true rfl, Nat.le_of_ble_eq_true rfl⟩ rfl (by omega) (by omega) (by decide) (by omega) rfl ?_
    refine aw_iload dX12_doesTake_50 rfl ?_
    refine aw_iconst dX12_doesTake_52 ?_
    refine aw_icmp_ne (tgt := 80) dX12_doesTake_53 rfl (by first | assumption | (unfold ab_In at *; omega)) (by first | assumption | (unfold ab_In at *; omega)) (fun c_53 => ?_) (fun c_53 => ?_)
    · refine aw_iconst dX12_doesTake_80 ?_
      refine aw_isub dX12_doesTake_81 ?_
      refine aw_icmp_lt (tgt := 89) dX12_doesTake_82 rfl (by first | assumption | (unfold ab_In at *; omega)) (by first | assumption | (unfold ab_In at *; omega)) (fun c_82 => ?_) (fun c_82 => ?_)
      · refine aw_iconst dX12_doesTake_89 ?_
        refine aw_breturn dX12_doesTake_90 rfl (by omega) ?_
        refine ⟨?_, rfl⟩
        unfold rl_takes
        (repeat' split) <;> first | rfl | (exfalso; omega)
      · refine aw_iconst dX12_doesTake_85 ?_
        refine aw_goto (tgt := 90) dX12_doesTake_86 rfl ?_
        refine aw_breturn dX12_doesTake_90 rfl (by omega) ?_
        refine ⟨?_, rfl⟩
        unfold rl_takes
        (repeat' split) <;> first | rfl | (exfalso; omega)
    · refine aw_aload_n dX12_doesTake_56 rfl (by decide) ?_
      refine aw_getrv (r := 95) dX12_doesTake_57 fX12_41 ⟨Nat.le_of_ble_eq_true rfl, Nat.le_of_ble_eq_true rfl⟩ rfl rfl (hF.at 84 20 95 rfl rfl rfl) ?_
      refine aw_bipush dX12_doesTake_60 rfl ?_
      refine aw_iconst dX12_doesTake_62 ?_
      refine aw_iload_n dX12_doesTake_63 rfl ?_
      refine aw_imul dX12_doesTake_64 ?_
      refine aw_iadd dX12_doesTake_65 ?_
      refine aw_ialdq (q := (6 + 3 * s)) (v := I 95 (6 + 3 * s)) dX12_doesTake_66 ⟨Nat.le_of_ble_eq_true rfl, Nat.le_of_ble_eq_true rfl⟩ rfl (by omega) (by omega) (by decide) (by omega) rfl ?_
      refine aw_aload_n dX12_doesTake_67 rfl (by decide) ?_
      refine aw_getrv (r := 89) dX12_doesTake_68 fX12_22 ⟨Nat.le_of_ble_eq_true rfl, Nat.le_of_ble_eq_true rfl⟩ rfl rfl (hF.at 84 6 89 rfl rfl rfl) ?_
      refine aw_bipush dX12_doesTake_71 rfl ?_
      refine aw_iload_n dX12_doesTake_73 rfl ?_
      refine aw_iadd dX12_doesTake_74 ?_
      refine aw_ialdq (q := (48 + p)) (v := I 89 (48 + p)) dX12_doesTake_75 ⟨Nat.le_of_ble_eq_true rfl, Nat.le_of_ble_eq_true rfl⟩ rfl (by omega) (by omega) (by decide) (by omega) rfl ?_
      refine aw_imul dX12_doesTake_76 ?_
      refine aw_goto (tgt := 81) dX12_doesTake_77 rfl ?_
      refine aw_isub dX12_doesTake_81 ?_
      refine aw_icmp_lt (tgt := 89) dX12_doesTake_82 rfl (by first | assumption | (unfold ab_In at *; omega)) (by first | assumption | (unfold ab_In at *; omega)) (fun c_82 => ?_) (fun c_82 => ?_)
      · refine aw_iconst dX12_doesTake_89 ?_
        refine aw_breturn dX12_doesTake_90 rfl (by omega) ?_
        refine ⟨?_, rfl⟩
        unfold rl_takes
        (repeat' split) <;> first | rfl | (exfalso; omega)
      · refine aw_iconst dX12_doesTake_85 ?_
        refine aw_goto (tgt := 90) dX12_doesTake_86 rfl ?_
        refine aw_breturn dX12_doesTake_90 rfl (by omega) ?_
        refine ⟨?_, rfl⟩
        unfold rl_takes
        (repeat' split) <;> first | rfl | (exfalso; omega)
set_option maxHeartbeats 4000000 in
set_option maxRecDepth 100000 in
theorem ct_X12_offer (G : ab_G) (I : Nat → Nat → Int) (F : Nat → Nat → Nat) (hF : ab_FB F) (N : Nat) (W nx : Int) (hb : ∀ p, p < N → PB W nx (rt (I 89) p)) (hW : W ≤ 6000) (hnx : nx ≤ 100000) (hN12 : N ≤ 12) (hT : TBM I) (hR : RBM I) (hN : I 89 84 = N) (hx : I 89 85 = nx) (hx0 : 0 ≤ nx ∧ nx + 13 ≤ 100000) (hW0 : 0 ≤ W ∧ W + 1 ≤ 6000) (hq : Nq ((List.range N).map (rt (I 89))) nx) (hz : ∀ p, p < 12 → I 92 p = 0) (k : Nat) (hk : k < 4) : Ct G 2 0 0 YX12_offer [ab_r 84, ab_i (k : Int)] (104, I, F) (fun r h => r = none ∧ ∃ I2, h = (104, I2, F) ∧ RE I N W ((srt (ruM I).1 (tnM I).1 ((List.range N).map (rt (I 89)))).foldl (of_step (ruM I) (tnM I) k) ([], fun _ _ => 0, I 89 85, false)) I2) := by
  refine Ct.ofW kX12_offer (ls := [some (ab_r 84), some (ab_i (k : Int)), none, none, none, none]) (Nat.le_of_ble_eq_true rfl) rfl ?_
  generalize hfe : ((srt (ruM I).1 (tnM I).1 ((List.range N).map (rt (I 89)))).foldl (of_step (ruM I) (tnM I) k) ([], fun _ _ => 0, I 89 85, false)) = fin
  generalize hZ : ab_Z G (fun r h => r = none ∧ ∃ I2, h = (104, I2, F) ∧ RE I N W fin I2) 0 0 = Z
  have hord : ∀ q, q < N → sd (fun a b => ah (I 95 0) (n4 (I 86)) (rt (I 89) a) (rt (I 89) b)) id N q < N := fun q hq2 => sd_ltN _ N hq2
  have hperm : ((List.range N).map (sd (fun a b => ah (I 95 0) (n4 (I 86)) (rt (I 89) a) (rt (I 89) b)) id N)).Perm (List.range N) := by have := sd_perm (fun a b => ah (I 95 0) (n4 (I 86)) (rt (I 89) a) (rt (I 89) b)) id N; rwa [List.map_id] at this
  have hnd : ((List.range N).map (sd (fun a b => ah (I 95 0) (n4 (I 86)) (rt (I 89) a) (rt (I 89) b)) id N)).Nodup := hperm.symm.nodup List.nodup_range
  have hinj : ∀ a b, a < N → b < N → sd (fun a b => ah (I 95 0) (n4 (I 86)) (rt (I 89) a) (rt (I 89) b)) id N a = sd (fun a b => ah (I 95 0) (n4 (I 86)) (rt (I 89) a) (rt (I 89) b)) id N b → a = b := fun a b ha hb2 e => (List.getElem_inj (i := a) (j := b) (h₀ := by simpa using ha) (h₁ := by simpa using hb2) hnd).mp (by simpa using e)
  have hsr : (List.range N).map (fun i => rt (I 89) (sd (fun a b => ah (I 95 0) (n4 (I 86)) (rt (I 89) a) (rt (I 89) b)) id N i)) = srt (ruM I).1 (tnM I).1 ((List.range N).map (rt (I 89))) := sd_srt (t := rt (I 89)) (f := id) hq.nm
  rw [← hsr] at hfe
  have hlen : ∀ a b, a < N → b < N → a ≠ b → I 89 (12 + a) ≠ I 89 (12 + b) := fun a b ha hb2 hab e => hab ((List.getElem_inj (i := a) (j := b) (h₀ := by simpa using ha) (h₁ := by simpa using hb2) hq.1).mp (by simpa [rt] using e))
  have main : ∀ (ord : Nat → Nat) (I5 : Nat → Nat → Int), sd (fun a b => ah (I 95 0) (n4 (I 86)) (rt (I 89) a) (rt (I 89) b)) id N = ord → (∀ i b, i ≠ 91 → I5 i b = I i b) → (∀ q, q < N → I5 91 q = (ord q : Int)) → aW G YX12_offer (ab_rm 2 0 0) Z 0 0 (104, I5, F) 8 [some (ab_r 84), some (ab_i (k : Int)), some (ab_i 0), some (ab_i ((0 : Nat) : Int)), none, none] [] := by
    intro ord I5 hoe h5 h91
    rw [hoe] at hord hperm hinj hfe
    have e89 : I5 89 = I 89 := funext fun b => h5 89 b (by decide)
    have e92 : I5 92 = I 92 := funext fun b => h5 92 b (by decide)
    have e95 : I5 95 = I 95 := funext fun b => h5 95 b (by decide)
    have e86 : I5 86 = I 86 := funext fun b => h5 86 b (by decide)
    have e85 : I5 85 = I 85 := funext fun b => h5 85 b (by decide)
    have hbq : ∀ q, q < N → PB W (I5 89 85) (rt (I5 89) (ord q)) := fun q hq2 => by rw [e89, hx]; exact hb _ (hord q hq2)
    have hT5 : TBM I5 := hT.of (fun i b _ h2 _ => h5 i b h2)
    have hR5 : RBM I5 := hR.of e95
    have hru5 : ruM I5 = ruM I := ruM_congr e95
    have htn5 : tnM I5 = tnM I := tnM_congr (fun i b _ h2 _ => h5 i b h2)
    have done : ∀ (j : Nat) (o : OS) (I1 : Nat → Nat → Int) (tk : Int), RO I5 ord N W j o I1 → j ≤ N → (o.2.2.2 = true ∨ j = N) → ((((List.range N).map (fun q => rt (I5 89) (ord q))).drop j).foldl (of_step (ruM I) (tnM I) k) o) = fin → I5 89 85 ≤ o.2.2.1 → (tk = if o.2.2.2 = true then 1 else 0) → aW G YX12_offer (ab_rm 2 0 0) Z 0 0 (104, I1, F) 278 [some (ab_r 84), some (ab_i (k : Int)), some (ab_i tk), some (ab_i (j : Int)), none, none] [] := by
      intro j o I1 tk hO hj hend hf hnx2 htk
      have hF1 := hO.1
      refine aw_aload_n dX12_offer_278 rfl (by decide) ?_
      refine aw_getrv (r := 89) dX12_offer_279 fX12_22 ⟨Nat.le_of_ble_eq_true rfl, Nat.le_of_ble_eq_true rfl⟩ rfl rfl (hF.at 84 6 89 rfl rfl rfl) ?_
      refine aw_bipush dX12_offer_282 rfl ?_
      refine aw_dup2 dX12_offer_284 rfl rfl ?_
      refine aw_ialdq (q := 87) (v := I1 89 87) dX12_offer_285 ⟨Nat.le_of_ble_eq_true rfl, Nat.le_of_ble_eq_true rfl⟩ rfl (by omega) (by omega) (by decide) rfl rfl ?_
      refine aw_iload_n dX12_offer_286 rfl ?_
      refine aw_if_eq (tgt := 294) dX12_offer_287 rfl (by rw [htk]; split <;> (unfold ab_In; omega)) (fun c_287 => ?_) (fun c_287 => ?_)
      · refine aw_iconst dX12_offer_294 ?_
        refine aw_iadd dX12_offer_295 ?_
        refine aw_iastv (q := 87) dX12_offer_296 ⟨Nat.le_of_ble_eq_true rfl, Nat.le_of_ble_eq_true rfl⟩ rfl (by omega) (by omega) (by decide) rfl ?_
        rw [← hZ]
        refine aw_return dX12_offer_297 rfl ?_
        have h9 := RO.end hO hj hN12 hperm hend hf rfl hbq hnx2 h5
        have e9 : o.2.2.2 = false := by cases q9 : o.2.2.2 <;> simp [q9] at htk <;> first | rfl | (exfalso; omega)
        refine ⟨rfl, _, rfl, ?_⟩
        rw [e9] at h9
        simpa using h9
      · refine aw_iconst dX12_offer_290 ?_
        refine aw_goto (tgt := 295) dX12_offer_291 rfl ?_
        refine aw_iadd dX12_offer_295 ?_
        refine aw_iastv (q := 87) dX12_offer_296 ⟨Nat.le_of_ble_eq_true rfl, Nat.le_of_ble_eq_true rfl⟩ rfl (by omega) (by omega) (by decide) rfl ?_
        rw [← hZ]
        refine aw_return dX12_offer_297 rfl ?_
        have h9 := RO.end hO hj hN12 hperm hend hf rfl hbq hnx2 h5
        have e9 : o.2.2.2 = true := by cases q9 : o.2.2.2 <;> simp [q9] at htk <;> first | rfl | (exfalso; omega)
        refine ⟨rfl, _, rfl, ?_⟩
        rw [e9] at h9
        simpa using h9
    have fin1 : ∀ (j : Nat) (o : OS) (I1 : Nat → Nat → Int), RO I5 ord N W j o I1 → j ≤ N → o.2.2.2 = true → ((((List.range N).map (fun q => rt (I5 89) (ord q))).drop j).foldl (of_step (ruM I) (tnM I) k) o) = fin → I5 89 85 ≤ o.2.2.1 → aW G YX12_offer (ab_rm 2 0 0) Z 0 0 (104, I1, F) 8 [some (ab_r 84), some (ab_i (k : Int)), some (ab_i 1), some (ab_i (j : Int)), none, none] [] := by
      intro j o I1 hO hj ht hf hnx2
      have h84 : I1 89 84 = (N : Int) := hO.1.1
      have hd := done j o I1 1 hO hj (Or.inl ht) hf hnx2 (by rw [if_pos ht])
      refine aw_iload_n dX12_offer_8 rfl ?_
      refine aw_aload_n dX12_offer_9 rfl (by decide) ?_
      refine aw_getrv (r := 89) dX12_offer_10 fX12_22 ⟨Nat.le_of_ble_eq_true rfl, Nat.le_of_ble_eq_true rfl⟩ rfl rfl (hF.at 84 6 89 rfl rfl rfl) ?_
      refine aw_bipush dX12_offer_13 rfl ?_
      refine aw_ialdq (q := 84) (v := (N : Int)) dX12_offer_15 ⟨Nat.le_of_ble_eq_true rfl, Nat.le_of_ble_eq_true rfl⟩ rfl (by omega) (by omega) (by decide) rfl h84 ?_
      refine aw_icmp_ge (tgt := 278) dX12_offer_16 rfl (by first | assumption | (unfold ab_In at *; omega)) (by first | assumption | (unfold ab_In at *; omega)) (fun c_16 => ?_) (fun c_16 => ?_)
      · exact hd
      · refine aw_iload_n dX12_offer_19 rfl ?_
        refine aw_if_ne (tgt := 278) dX12_offer_20 rfl ⟨by decide, by decide⟩ (fun _ => ?_) (fun c9 => absurd c9 (by decide))
        exact hd
    have loop : ∀ (d j : Nat) (o : OS) (I1 : Nat → Nat → Int), j + d = N → RO I5 ord N W j o I1 → o.2.2.2 = false → ((((List.range N).map (fun q => rt (I5 89) (ord q))).drop j).foldl (of_step (ruM I) (tnM I) k) o) = fin → I5 89 85 ≤ o.2.2.1 → o.2.2.1 ≤ nx + j → aW G YX12_offer (ab_rm 2 0 0) Z 0 0 (104, I1, F) 8 [some (ab_r 84), some (ab_i (k : Int)), some (ab_i 0), some (ab_i (j : Int)), none, none] [] := by
      intro d
      induction d with
      | zero =>
        intro j o I1 hj hO ht hf hnx2 hnx3
        have h84 : I1 89 84 = (N : Int) := hO.1.1
        have hd := done j o I1 0 hO (by omega) (Or.inr (by omega)) hf hnx2 (by rw [if_neg (by rw [ht]; decide)])
        refine aw_iload_n dX12_offer_8 rfl ?_
        refine aw_aload_n dX12_offer_9 rfl (by decide) ?_
        refine aw_getrv (r := 89) dX12_offer_10 fX12_22 ⟨Nat.le_of_ble_eq_true rfl, Nat.le_of_ble_eq_true rfl⟩ rfl rfl (hF.at 84 6 89 rfl rfl rfl) ?_
        refine aw_bipush dX12_offer_13 rfl ?_
        refine aw_ialdq (q := 84) (v := (N : Int)) dX12_offer_15 ⟨Nat.le_of_ble_eq_true rfl, Nat.le_of_ble_eq_true rfl⟩ rfl (by omega) (by omega) (by decide) rfl h84 ?_
        refine aw_icmp_ge (tgt := 278) dX12_offer_16 rfl (by first | assumption | (unfold ab_In at *; omega)) (by first | assumption | (unfold ab_In at *; omega)) (fun c_16 => ?_) (fun c_16 => ?_)
        · exact hd
        · exfalso; omega
      | succ d ih =>
        intro j o I1 hj hO ht hf hnx2 hnx3
        have h84 : I1 89 84 = (N : Int) := hO.1.1
        have hjN : j < N := by omega
        have ha := hord j hjN
        have hfr := hO.2.2.1
        have f95 : I1 95 = I 95 := (funext fun b => hfr 95 b (by decide) (by decide)).trans e95
        have hfr2 : ∀ i b, i ≠ 89 → i ≠ 91 → i ≠ 92 → I1 i b = I i b := fun i b h1 h2 h3 => (hfr i b h1 h3).trans (h5 i b h2)
        have h91j : I1 91 j = (ord j : Int) := (hfr 91 j (by decide) (by decide)).trans (h91 j hjN)
        have e85x : I1 89 85 = o.2.2.1 := hO.1.2.2.2
        have hpb : PB W (I1 89 85) (rt (I1 89) (ord j)) := RO_pbw hO hjN hbq (by rw [e85x]; exact hnx2)
        have hT1 : TBM I1 := hT.of hfr2
        have hR1 : RBM I1 := hR.of f95
        have hru1 : ruM I1 = ruM I := ruM_congr f95
        have htn1 : tnM I1 = tnM I := tnM_congr hfr2
        have hr1 := hR1.2.1
        have hr2 := hR1.2.2.1
        have ert : rt (I1 89) (ord j) = rt (I5 89) (ord j) := (hO.2.2.2.2.1 j (Nat.le_refl _) hjN).1
        rw [drop_map_range _ hjN, List.foldl_cons, ← ert] at hf
        have hpd := hpb
        unfold PB rt at hpd
        dsimp only at hpd
        have hx5 : I5 89 85 = nx := by rw [e89]; exact hx
        obtain ⟨s, hs⟩ : ∃ s : Nat, I1 89 (ord j) = (s : Int) := ⟨(I1 89 (ord j)).toNat, by omega⟩
        have hs4 : s < 4 := by omega
        have hwv : (tnM I).2 s k = I1 85 (4 * s + k) := by rw [← htn1]; show (if s < 4 ∧ k < 4 then _ else _) = _; rw [if_pos ⟨hs4, hk⟩]
        have hsn : ∀ tk9, (of_step (ruM I) (tnM I) k o (rt (I1 89) (ord j))).2.2.2 = tk9 → I5 89 85 ≤ (of_step (ruM I) (tnM I) k o (rt (I1 89) (ord j))).2.2.1 ∧ (of_step (ruM I) (tnM I) k o (rt (I1 89) (ord j))).2.2.1 ≤ nx + ((j + 1 : Nat) : Int) := fun _ _ => by unfold of_step; (repeat' split) <;> dsimp only <;> omega
        generalize hpe : ord j = p at *
        refine aw_iload_n dX12_offer_8 rfl ?_
        refine aw_aload_n dX12_offer_9 rfl (by decide) ?_
        refine aw_getrv (r := 89) dX12_offer_10 fX12_22 ⟨Nat.le_of_ble_eq_true rfl, Nat.le_of_ble_eq_true rfl⟩ rfl rfl (hF.at 84 6 89 rfl rfl rfl) ?_
        refine aw_bipush dX12_offer_13 rfl ?_
        refine aw_ialdq (q := 84) (v := (N : Int)) dX12_offer_15 ⟨Nat.le_of_ble_eq_true rfl, Nat.le_of_ble_eq_true rfl⟩ rfl (by omega) (by omega) (by decide) rfl h84 ?_
        refine aw_icmp_ge (tgt := 278) dX12_offer_16 rfl (by first | assumption | (unfold ab_In at *; omega)) (by first | assumption | (unfold ab_In at *; omega)) (fun c_16 => ?_) (fun c_16 => ?_)
        · exfalso; omega
        · refine aw_iload_n dX12_offer_19 rfl ?_
          refine aw_if_ne (tgt := 278) dX12_offer_20 rfl ⟨by decide, by decide⟩ (fun c9 => absurd rfl c9) (fun _ => ?_)
          refine aw_aload_n dX12_offer_23 rfl (by decide) ?_
          refine aw_getrv (r := 91) dX12_offer_24 fX12_28 ⟨Nat.le_of_ble_eq_true rfl, Nat.le_of_ble_eq_true rfl⟩ rfl rfl (hF.at 84 8 91 rfl rfl rfl) ?_
          refine aw_iload_n dX12_offer_27 rfl ?_
          refine aw_ialdq (q := j) (v := (p : Int)) dX12_offer_28 ⟨Nat.le_of_ble_eq_true rfl, Nat.le_of_ble_eq_true rfl⟩ rfl (by omega) (by omega) (by decide) rfl h91j ?_
          refine aw_istore (ls' := [some (ab_r 84), some (ab_i (k : Int)), some (ab_i 0), some (ab_i (j : Int)), some (ab_i (p : Int)), none]) dX12_offer_29 (by decide) rfl ?_
          refine aw_aload_n dX12_offer_31 rfl (by decide) ?_
          refine aw_getrv (r := 89) dX12_offer_32 fX12_22 ⟨Nat.le_of_ble_eq_true rfl, Nat.le_of_ble_eq_true rfl⟩ rfl rfl (hF.at 84 6 89 rfl rfl rfl) ?_
          refine aw_iconst dX12_offer_35 ?_
          refine aw_iload dX12_offer_36 rfl ?_
          refine aw_iadd dX12_offer_38 ?_
          refine aw_ialdq (q := p) (v := (s : Int)) dX12_offer_39 ⟨Nat.le_of_ble_eq_true rfl, Nat.le_of_ble_eq_true rfl⟩ rfl (by omega) (by omega) (by decide) (by omega) hs ?_
          refine aw_istore (ls' := [some (ab_r 84), some (ab_i (k : Int)), some (ab_i 0), some (ab_i (j : Int)), some (ab_i (p : Int)), some (ab_i (s : Int))]) dX12_offer_40 (by decide) rfl ?_
          refine aw_aload_n dX12_offer_42 rfl (by decide) ?_
          refine aw_iload dX12_offer_43 rfl ?_
          refine aw_iload_n dX12_offer_45 rfl ?_
          refine aw_callV (as := [ab_i (p : Int), ab_i (k : Int)]) (rest := []) dX12_offer_46 (ct_X12_doesTake G I1 F hF W (I1 89 85) hW hT1 hR1 p k hpb (by omega) hk) ⟨Nat.le_of_ble_eq_true rfl, Nat.le_of_ble_eq_true rfl⟩ rfl kc12 rfl kX12_doesTake iX12_doesTake eX12_doesTake lX12_101 rfl (Nat.le_of_ble_eq_true rfl) (by decide) (by decide) (by decide) (by decide) ?_
          rintro _ _ ⟨rfl, rfl⟩
          rw [hru1, htn1]
          rcases tk_01 (ruM I) (tnM I) k (rt (I1 89) p) with e_tk | e_tk
          · rw [e_tk]
            refine aw_if_eq (tgt := 126) dX12_offer_49 rfl ⟨by decide, by decide⟩ (fun c9 => absurd c9 (by decide)) (fun _ => ?_)
            refine aw_iconst dX12_offer_52 ?_
            refine aw_istore_n (ls' := [some (ab_r 84), some (ab_i (k : Int)), some (ab_i 1), some (ab_i (j : Int)), some (ab_i (p : Int)), some (ab_i (s : Int))]) dX12_offer_53 (by decide) rfl ?_
            refine aw_aload_n dX12_offer_54 rfl (by decide) ?_
            refine aw_getrv (r := 92) dX12_offer_55 fX12_31 ⟨Nat.le_of_ble_eq_true rfl, Nat.le_of_ble_eq_true rfl⟩ rfl rfl (hF.at 84 9 92 rfl rfl rfl) ?_
            refine aw_iload dX12_offer_58 rfl ?_
            refine aw_iconst dX12_offer_60 ?_
            refine aw_zastv (q := p) dX12_offer_61 ⟨Nat.le_of_ble_eq_true rfl, Nat.le_of_ble_eq_true rfl⟩ rfl (by omega) (by omega) (by decide) (Or.inr rfl) rfl ?_
            refine aw_aload_n dX12_offer_62 rfl (by decide) ?_
            refine aw_getrv (r := 89) dX12_offer_63 fX12_22 ⟨Nat.le_of_ble_eq_true rfl, Nat.le_of_ble_eq_true rfl⟩ rfl rfl (hF.at 84 6 89 rfl rfl rfl) ?_
            refine aw_bipush dX12_offer_66 rfl ?_
            refine aw_iload dX12_offer_68 rfl ?_
            refine aw_iadd dX12_offer_70 ?_
            refine aw_dup2 dX12_offer_71 rfl rfl ?_
            refine aw_ialdq (q := (60 + s)) (v := I1 89 (60 + s)) dX12_offer_72 ⟨Nat.le_of_ble_eq_true rfl, Nat.le_of_ble_eq_true rfl⟩ rfl (by omega) (by omega) (by decide) (by omega) (ab_u_i (by decide)) ?_
            refine aw_iconst dX12_offer_73 ?_
            refine aw_iadd dX12_offer_74 ?_
            refine aw_iastv (q := (60 + s)) dX12_offer_75 ⟨Nat.le_of_ble_eq_true rfl, Nat.le_of_ble_eq_true rfl⟩ rfl (by omega) (by omega) (by decide) (by omega) ?_
            refine aw_aload_n dX12_offer_76 rfl (by decide) ?_
            refine aw_getrv (r := 89) dX12_offer_77 fX12_22 ⟨Nat.le_of_ble_eq_true rfl, Nat.le_of_ble_eq_true rfl⟩ rfl rfl (hF.at 84 6 89 rfl rfl rfl) ?_
            refine aw_bipush dX12_offer_80 rfl ?_
            refine aw_iload dX12_offer_82 rfl ?_
            refine aw_iadd dX12_offer_84 ?_
            refine aw_dup2 dX12_offer_85 rfl rfl ?_
            refine aw_ialdq (q := (64 + s)) (v := I1 89 (64 + s)) dX12_offer_86 ⟨Nat.le_of_ble_eq_true rfl, Nat.le_of_ble_eq_true rfl⟩ rfl (by omega) (by omega) (by decide) (by omega) ((ab_u_j (by omega)).trans (ab_u_i (by decide))) ?_
            refine aw_aload_n dX12_offer_87 rfl (by decide) ?_
            refine aw_getrv (r := 89) dX12_offer_88 fX12_22 ⟨Nat.le_of_ble_eq_true rfl, Nat.le_of_ble_eq_true rfl⟩ rfl rfl (hF.at 84 6 89 rfl rfl rfl) ?_
            refine aw_bipush dX12_offer_91 rfl ?_
            refine aw_iload dX12_offer_93 rfl ?_
            refine aw_iadd dX12_offer_95 ?_
            refine aw_ialdq (q := (48 + p)) (v := I1 89 (48 + p)) dX12_offer_96 ⟨Nat.le_of_ble_eq_true rfl, Nat.le_of_ble_eq_true rfl⟩ rfl (by omega) (by omega) (by decide) (by omega) ((ab_u_j (by omega)).trans (ab_u_i (by decide))) ?_
            refine aw_iadd dX12_offer_97 ?_
            refine aw_iastv (q := (64 + s)) dX12_offer_98 ⟨Nat.le_of_ble_eq_true rfl, Nat.le_of_ble_eq_true rfl⟩ rfl (by omega) (by omega) (by decide) (by omega) ?_
            refine aw_aload_n dX12_offer_99 rfl (by decide) ?_
            refine aw_getrv (r := 89) dX12_offer_100 fX12_22 ⟨Nat.le_of_ble_eq_true rfl, Nat.le_of_ble_eq_true rfl⟩ rfl rfl (hF.at 84 6 89 rfl rfl rfl) ?_
            refine aw_bipush dX12_offer_103 rfl ?_
            refine aw_iload dX12_offer_105 rfl ?_
            refine aw_iadd dX12_offer_107 ?_
            refine aw_dup2 dX12_offer_108 rfl rfl ?_
            refine aw_ialdq (q := (68 + s)) (v := I1 89 (68 + s)) dX12_offer_109 ⟨Nat.le_of_ble_eq_true rfl, Nat.le_of_ble_eq_true rfl⟩ rfl (by omega) (by omega) (by decide) (by omega) (((ab_u_j (by omega)).trans (ab_u_j (by omega))).trans (ab_u_i (by decide))) ?_
            refine aw_aload_n dX12_offer_110 rfl (by decide) ?_
            refine aw_getrv (r := 85) dX12_offer_111 fX12_7 ⟨Nat.le_of_ble_eq_true rfl, Nat.le_of_ble_eq_true rfl⟩ rfl rfl (hF.at 84 0 85 rfl rfl rfl) ?_
            refine aw_iconst dX12_offer_114 ?_
            refine aw_iload dX12_offer_115 rfl ?_
            refine aw_imul dX12_offer_117 ?_
            refine aw_iload_n dX12_offer_118 rfl ?_
            refine aw_iadd dX12_offer_119 ?_
            refine aw_ialdq (q := (4 * s + k)) (v := I1 85 (4 * s + k)) dX12_offer_120 ⟨Nat.le_of_ble_eq_true rfl, Nat.le_of_ble_eq_true rfl⟩ rfl (by omega) (by omega) (by decide) (by omega) (((ab_u_i (by decide)).trans (ab_u_i (by decide))).trans (ab_u_i (by decide))) ?_
            refine aw_iadd dX12_offer_121 ?_
            refine aw_iastv (q := (68 + s)) dX12_offer_122 ⟨Nat.le_of_ble_eq_true rfl, Nat.le_of_ble_eq_true rfl⟩ rfl (by omega) (by omega) (by decide) (by omega) ?_
            refine aw_goto (tgt := 272) dX12_offer_123 rfl ?_
            refine aw_iinc (ls' := [some (ab_r 84), some (ab_i (k : Int)), some (ab_i 1), some (ab_i ((j : Int) + 1)), some (ab_i (p : Int)), some (ab_i (s : Int))]) dX12_offer_272 (by decide) rfl rfl ?_
            refine aw_goto (tgt := 8) dX12_offer_275 rfl ?_
            have h9 := RO_b (ru := ruM I) (tn := tnM I) (k := k) hO hjN hN12 hinj (fun a ha9 => hord a ha9) ht (by rw [hpe]; exact hs) hs4 (by rw [hpe]; exact e_tk) hwv
            rw [hpe] at h9
            refine aw_le (ls' := [some (ab_r 84), some (ab_i (k : Int)), some (ab_i 1), some (ab_i (((j + 1 : Nat)) : Int)), none, none]) (ab_le_c (ab_le_c (ab_le_c (ab_le_c (ab_le_n (ab_le_n ab_le_nil)))))) (fin1 (j + 1) _ _ h9 (by omega) ?_ hf (hsn _ rfl).1)
            unfold of_step; rw [if_neg (by rw [ht]; decide), if_pos e_tk]
          · rw [e_tk]
            have e_tk : ¬ tk1 (ruM I) (tnM I) k (rt (I1 89) p) = 1 := by omega
            refine aw_if_eq (tgt := 126) dX12_offer_49 rfl ⟨by decide, by decide⟩ (fun _ => ?_) (fun c9 => absurd (by decide) c9)
            refine aw_aload_n dX12_offer_126 rfl (by decide) ?_
            refine aw_getrv (r := 89) dX12_offer_127 fX12_22 ⟨Nat.le_of_ble_eq_true rfl, Nat.le_of_ble_eq_true rfl⟩ rfl rfl (hF.at 84 6 89 rfl rfl rfl) ?_
            refine aw_bipush dX12_offer_130 rfl ?_
            refine aw_iload dX12_offer_132 rfl ?_
            refine aw_iadd dX12_offer_134 ?_
            refine aw_dup2 dX12_offer_135 rfl rfl ?_
            refine aw_ialdq (q := (36 + p)) (v := I1 89 (36 + p)) dX12_offer_136 ⟨Nat.le_of_ble_eq_true rfl, Nat.le_of_ble_eq_true rfl⟩ rfl (by omega) (by omega) (by decide) (by omega) rfl ?_
            refine aw_iconst dX12_offer_137 ?_
            refine aw_iadd dX12_offer_138 ?_
            refine aw_iastv (q := (36 + p)) dX12_offer_139 ⟨Nat.le_of_ble_eq_true rfl, Nat.le_of_ble_eq_true rfl⟩ rfl (by omega) (by omega) (by decide) (by omega) ?_
            refine aw_aload_n dX12_offer_140 rfl (by decide) ?_
            refine aw_getrv (r := 89) dX12_offer_141 fX12_22 ⟨Nat.le_of_ble_eq_true rfl, Nat.le_of_ble_eq_true rfl⟩ rfl rfl (hF.at 84 6 89 rfl rfl rfl) ?_
            refine aw_bipush dX12_offer_144 rfl ?_
            refine aw_iload dX12_offer_146 rfl ?_
            refine aw_iadd dX12_offer_148 ?_
            refine aw_ialdq (q := (36 + p)) (v := ((I1 89 (36 + p)) + 1)) dX12_offer_149 ⟨Nat.le_of_ble_eq_true rfl, Nat.le_of_ble_eq_true rfl⟩ rfl (by omega) (by omega) (by decide) (by omega) ab_u_s ?_
            refine aw_aload_n dX12_offer_150 rfl (by decide) ?_
            refine aw_getrv (r := 95) dX12_offer_151 fX12_41 ⟨Nat.le_of_ble_eq_true rfl, Nat.le_of_ble_eq_true rfl⟩ rfl rfl (hF.at 84 20 95 rfl rfl rfl) ?_
            refine aw_iconst dX12_offer_154 ?_
            refine aw_ialdq (q := 1) (v := I1 95 1) dX12_offer_155 ⟨Nat.le_of_ble_eq_true rfl, Nat.le_of_ble_eq_true rfl⟩ rfl (by omega) (by omega) (by decide) rfl (ab_u_i (by decide)) ?_
            refine aw_icmp_le (tgt := 193) dX12_offer_156 rfl (by first | assumption | (unfold ab_In at *; omega)) (by first | assumption | (unfold ab_In at *; omega)) (fun c_156 => ?_) (fun c_156 => ?_)
            · refine aw_aload_n dX12_offer_193 rfl (by decide) ?_
              refine aw_getrv (r := 89) dX12_offer_194 fX12_22 ⟨Nat.le_of_ble_eq_true rfl, Nat.le_of_ble_eq_true rfl⟩ rfl rfl (hF.at 84 6 89 rfl rfl rfl) ?_
              refine aw_bipush dX12_offer_197 rfl ?_
              refine aw_iload dX12_offer_199 rfl ?_
              refine aw_iadd dX12_offer_201 ?_
              refine aw_ialdq (q := (36 + p)) (v := ((I1 89 (36 + p)) + 1)) dX12_offer_202 ⟨Nat.le_of_ble_eq_true rfl, Nat.le_of_ble_eq_true rfl⟩ rfl (by omega) (by omega) (by decide) (by omega) ab_u_s ?_
              refine aw_aload_n dX12_offer_203 rfl (by decide) ?_
              refine aw_getrv (r := 95) dX12_offer_204 fX12_41 ⟨Nat.le_of_ble_eq_true rfl, Nat.le_of_ble_eq_true rfl⟩ rfl rfl (hF.at 84 20 95 rfl rfl rfl) ?_
              refine aw_iconst dX12_offer_207 ?_
              refine aw_ialdq (q := 1) (v := I1 95 1) dX12_offer_208 ⟨Nat.le_of_ble_eq_true rfl, Nat.le_of_ble_eq_true rfl⟩ rfl (by omega) (by omega) (by decide) rfl (ab_u_i (by decide)) ?_
              refine aw_icmp_le (tgt := 272) dX12_offer_209 rfl (by first | assumption | (unfold ab_In at *; omega)) (by first | assumption | (unfold ab_In at *; omega)) (fun c_209 => ?_) (fun c_209 => ?_)
              · refine aw_iinc (ls' := [some (ab_r 84), some (ab_i (k : Int)), some (ab_i 0), some (ab_i ((j : Int) + 1)), some (ab_i (p : Int)), some (ab_i (s : Int))]) dX12_offer_272 (by decide) rfl rfl ?_
                refine aw_goto (tgt := 8) dX12_offer_275 rfl ?_
                have h9 := RO_d (ru := ruM I) (tn := tnM I) (k := k) hO hjN hN12 hinj (fun a ha9 => hord a ha9) ht (by rw [hpe]; exact hpb) (by rw [hpe]; exact e_tk) (by rw [hpe, ← hru1]; show _ ≤ I1 95 1 ∨ (¬ I1 95 2 = 0 ∧ ¬ I1 95 2 = 1); omega)
                rw [hpe] at h9
                refine aw_le (ls' := [some (ab_r 84), some (ab_i (k : Int)), some (ab_i 0), some (ab_i (((j + 1 : Nat)) : Int)), none, none]) (ab_le_c (ab_le_c (ab_le_c (ab_le_c (ab_le_n (ab_le_n ab_le_nil)))))) (ih (j + 1) _ _ (by omega) h9 ?_ hf (hsn _ rfl).1 (hsn _ rfl).2)
                unfold of_step; rw [if_neg (by rw [ht]; decide), if_neg e_tk]; (repeat' split) <;> rfl
              · refine aw_aload_n dX12_offer_212 rfl (by decide) ?_
                refine aw_getrv (r := 95) dX12_offer_213 fX12_41 ⟨Nat.le_of_ble_eq_true rfl, Nat.le_of_ble_eq_true rfl⟩ rfl rfl (hF.at 84 20 95 rfl rfl rfl) ?_
                refine aw_iconst dX12_offer_216 ?_
                refine aw_ialdq (q := 2) (v := I1 95 2) dX12_offer_217 ⟨Nat.le_of_ble_eq_true rfl, Nat.le_of_ble_eq_true rfl⟩ rfl (by omega) (by omega) (by decide) rfl (ab_u_i (by decide)) ?_
                refine aw_iconst dX12_offer_218 ?_
                refine aw_icmp_ne (tgt := 272) dX12_offer_219 rfl (by first | assumption | (unfold ab_In at *; omega)) (by first | assumption | (unfold ab_In at *; omega)) (fun c_219 => ?_) (fun c_219 => ?_)
                · refine aw_iinc (ls' := [some (ab_r 84), some (ab_i (k : Int)), some (ab_i 0), some (ab_i ((j : Int) + 1)), some (ab_i (p : Int)), some (ab_i (s : Int))]) dX12_offer_272 (by decide) rfl rfl ?_
                  refine aw_goto (tgt := 8) dX12_offer_275 rfl ?_
                  have h9 := RO_d (ru := ruM I) (tn := tnM I) (k := k) hO hjN hN12 hinj (fun a ha9 => hord a ha9) ht (by rw [hpe]; exact hpb) (by rw [hpe]; exact e_tk) (by rw [hpe, ← hru1]; show _ ≤ I1 95 1 ∨ (¬ I1 95 2 = 0 ∧ ¬ I1 95 2 = 1); omega)
                  rw [hpe] at h9
                  refine aw_le (ls' := [some (ab_r 84), some (ab_i (k : Int)), some (ab_i 0), some (ab_i (((j + 1 : Nat)) : Int)), none, none]) (ab_le_c (ab_le_c (ab_le_c (ab_le_c (ab_le_n (ab_le_n ab_le_nil)))))) (ih (j + 1) _ _ (by omega) h9 ?_ hf (hsn _ rfl).1 (hsn _ rfl).2)
                  unfold of_step; rw [if_neg (by rw [ht]; decide), if_neg e_tk]; (repeat' split) <;> rfl
                · refine aw_aload_n dX12_offer_222 rfl (by decide) ?_
                  refine aw_getrv (r := 89) dX12_offer_223 fX12_22 ⟨Nat.le_of_ble_eq_true rfl, Nat.le_of_ble_eq_true rfl⟩ rfl rfl (hF.at 84 6 89 rfl rfl rfl) ?_
                  refine aw_bipush dX12_offer_226 rfl ?_
                  refine aw_iload dX12_offer_228 rfl ?_
                  refine aw_iadd dX12_offer_230 ?_
                  refine aw_aload_n dX12_offer_231 rfl (by decide) ?_
                  refine aw_getrv (r := 89) dX12_offer_232 fX12_22 ⟨Nat.le_of_ble_eq_true rfl, Nat.le_of_ble_eq_true rfl⟩ rfl rfl (hF.at 84 6 89 rfl rfl rfl) ?_
                  refine aw_bipush dX12_offer_235 rfl ?_
                  refine aw_ialdq (q := 85) (v := I1 89 85) dX12_offer_237 ⟨Nat.le_of_ble_eq_true rfl, Nat.le_of_ble_eq_true rfl⟩ rfl (by omega) (by omega) (by decide) rfl (ab_u_j (by omega)) ?_
                  refine aw_iastv (q := (12 + p)) dX12_offer_238 ⟨Nat.le_of_ble_eq_true rfl, Nat.le_of_ble_eq_true rfl⟩ rfl (by omega) (by omega) (by decide) (by omega) ?_
                  refine aw_aload_n dX12_offer_239 rfl (by decide) ?_
                  refine aw_getrv (r := 89) dX12_offer_240 fX12_22 ⟨Nat.le_of_ble_eq_true rfl, Nat.le_of_ble_eq_true rfl⟩ rfl rfl (hF.at 84 6 89 rfl rfl rfl) ?_
                  refine aw_bipush dX12_offer_243 rfl ?_
                  refine aw_dup2 dX12_offer_245 rfl rfl ?_
                  refine aw_ialdq (q := 85) (v := I1 89 85) dX12_offer_246 ⟨Nat.le_of_ble_eq_true rfl, Nat.le_of_ble_eq_true rfl⟩ rfl (by omega) (by omega) (by decide) rfl ((ab_u_j (by omega)).trans (ab_u_j (by omega))) ?_
                  refine aw_iconst dX12_offer_247 ?_
                  refine aw_iadd dX12_offer_248 ?_
                  refine aw_iastv (q := 85) dX12_offer_249 ⟨Nat.le_of_ble_eq_true rfl, Nat.le_of_ble_eq_true rfl⟩ rfl (by omega) (by omega) (by decide) rfl ?_
                  refine aw_aload_n dX12_offer_250 rfl (by decide) ?_
                  refine aw_getrv (r := 89) dX12_offer_251 fX12_22 ⟨Nat.le_of_ble_eq_true rfl, Nat.le_of_ble_eq_true rfl⟩ rfl rfl (hF.at 84 6 89 rfl rfl rfl) ?_
                  refine aw_bipush dX12_offer_254 rfl ?_
                  refine aw_iload dX12_offer_256 rfl ?_
                  refine aw_iadd dX12_offer_258 ?_
                  refine aw_iconst dX12_offer_259 ?_
                  refine aw_iastv (q := (24 + p)) dX12_offer_260 ⟨Nat.le_of_ble_eq_true rfl, Nat.le_of_ble_eq_true rfl⟩ rfl (by omega) (by omega) (by decide) (by omega) ?_
                  refine aw_aload_n dX12_offer_261 rfl (by decide) ?_
                  refine aw_getrv (r := 89) dX12_offer_262 fX12_22 ⟨Nat.le_of_ble_eq_true rfl, Nat.le_of_ble_eq_true rfl⟩ rfl rfl (hF.at 84 6 89 rfl rfl rfl) ?_
                  refine aw_bipush dX12_offer_265 rfl ?_
                  refine aw_iload dX12_offer_267 rfl ?_
                  refine aw_iadd dX12_offer_269 ?_
                  refine aw_iconst dX12_offer_270 ?_
                  refine aw_iastv (q := (36 + p)) dX12_offer_271 ⟨Nat.le_of_ble_eq_true rfl, Nat.le_of_ble_eq_true rfl⟩ rfl (by omega) (by omega) (by decide) (by omega) ?_
                  refine aw_iinc (ls' := [some (ab_r 84), some (ab_i (k : Int)), some (ab_i 0), some (ab_i ((j : Int) + 1)), some (ab_i (p : Int)), some (ab_i (s : Int))]) dX12_offer_272 (by decide) rfl rfl ?_
                  refine aw_goto (tgt := 8) dX12_offer_275 rfl ?_
                  have h9 := RO_e (ru := ruM I) (tn := tnM I) (k := k) hO hjN hN12 hinj (fun a ha9 => hord a ha9) ht (by rw [hpe]; exact hpb) (by rw [hpe]; exact e_tk) (by rw [hpe, ← hru1]; show ¬ _ ≤ I1 95 1; omega) (by rw [← hru1]; show I1 95 2 = 1; omega) (by omega)
                  rw [hpe] at h9
                  refine aw_le (ls' := [some (ab_r 84), some (ab_i (k : Int)), some (ab_i 0), some (ab_i (((j + 1 : Nat)) : Int)), none, none]) (ab_le_c (ab_le_c (ab_le_c (ab_le_c (ab_le_n (ab_le_n ab_le_nil)))))) (ih (j + 1) _ _ (by omega) h9 ?_ hf (hsn _ rfl).1 (hsn _ rfl).2)
                  unfold of_step; rw [if_neg (by rw [ht]; decide), if_neg e_tk]; (repeat' split) <;> rfl
            · refine aw_aload_n dX12_offer_159 rfl (by decide) ?_
              refine aw_getrv (r := 95) dX12_offer_160 fX12_41 ⟨Nat.le_of_ble_eq_true rfl, Nat.le_of_ble_eq_true rfl⟩ rfl rfl (hF.at 84 20 95 rfl rfl rfl) ?_
              refine aw_iconst dX12_offer_163 ?_
              refine aw_ialdq (q := 2) (v := I1 95 2) dX12_offer_164 ⟨Nat.le_of_ble_eq_true rfl, Nat.le_of_ble_eq_true rfl⟩ rfl (by omega) (by omega) (by decide) rfl (ab_u_i (by decide)) ?_
              refine aw_if_ne (tgt := 193) dX12_offer_165 rfl (by first | assumption | (unfold ab_In at *; omega)) (fun c_165 => ?_) (fun c_165 => ?_)
              · refine aw_aload_n dX12_offer_193 rfl (by decide) ?_
                refine aw_getrv (r := 89) dX12_offer_194 fX12_22 ⟨Nat.le_of_ble_eq_true rfl, Nat.le_of_ble_eq_true rfl⟩ rfl rfl (hF.at 84 6 89 rfl rfl rfl) ?_
                refine aw_bipush dX12_offer_197 rfl ?_
                refine aw_iload dX12_offer_199 rfl ?_
                refine aw_iadd dX12_offer_201 ?_
                refine aw_ialdq (q := (36 + p)) (v := ((I1 89 (36 + p)) + 1)) dX12_offer_202 ⟨Nat.le_of_ble_eq_true rfl, Nat.le_of_ble_eq_true rfl⟩ rfl (by omega) (by omega) (by decide) (by omega) ab_u_s ?_
                refine aw_aload_n dX12_offer_203 rfl (by decide) ?_
                refine aw_getrv (r := 95) dX12_offer_204 fX12_41 ⟨Nat.le_of_ble_eq_true rfl, Nat.le_of_ble_eq_true rfl⟩ rfl rfl (hF.at 84 20 95 rfl rfl rfl) ?_
                refine aw_iconst dX12_offer_207 ?_
                refine aw_ialdq (q := 1) (v := I1 95 1) dX12_offer_208 ⟨Nat.le_of_ble_eq_true rfl, Nat.le_of_ble_eq_true rfl⟩ rfl (by omega) (by omega) (by decide) rfl (ab_u_i (by decide)) ?_
                refine aw_icmp_le (tgt := 272) dX12_offer_209 rfl (by first | assumption | (unfold ab_In at *; omega)) (by first | assumption | (unfold ab_In at *; omega)) (fun c_209 => ?_) (fun c_209 => ?_)
                · refine aw_iinc (ls' := [some (ab_r 84), some (ab_i (k : Int)), some (ab_i 0), some (ab_i ((j : Int) + 1)), some (ab_i (p : Int)), some (ab_i (s : Int))]) dX12_offer_272 (by decide) rfl rfl ?_
                  refine aw_goto (tgt := 8) dX12_offer_275 rfl ?_
                  have h9 := RO_d (ru := ruM I) (tn := tnM I) (k := k) hO hjN hN12 hinj (fun a ha9 => hord a ha9) ht (by rw [hpe]; exact hpb) (by rw [hpe]; exact e_tk) (by rw [hpe, ← hru1]; show _ ≤ I1 95 1 ∨ (¬ I1 95 2 = 0 ∧ ¬ I1 95 2 = 1); omega)
                  rw [hpe] at h9
                  refine aw_le (ls' := [some (ab_r 84), some (ab_i (k : Int)), some (ab_i 0), some (ab_i (((j + 1 : Nat)) : Int)), none, none]) (ab_le_c (ab_le_c (ab_le_c (ab_le_c (ab_le_n (ab_le_n ab_le_nil)))))) (ih (j + 1) _ _ (by omega) h9 ?_ hf (hsn _ rfl).1 (hsn _ rfl).2)
                  unfold of_step; rw [if_neg (by rw [ht]; decide), if_neg e_tk]; (repeat' split) <;> rfl
                · refine aw_aload_n dX12_offer_212 rfl (by decide) ?_
                  refine aw_getrv (r := 95) dX12_offer_213 fX12_41 ⟨Nat.le_of_ble_eq_true rfl, Nat.le_of_ble_eq_true rfl⟩ rfl rfl (hF.at 84 20 95 rfl rfl rfl) ?_
                  refine aw_iconst dX12_offer_216 ?_
                  refine aw_ialdq (q := 2) (v := I1 95 2) dX12_offer_217 ⟨Nat.le_of_ble_eq_true rfl, Nat.le_of_ble_eq_true rfl⟩ rfl (by omega) (by omega) (by decide) rfl (ab_u_i (by decide)) ?_
                  refine aw_iconst dX12_offer_218 ?_
                  refine aw_icmp_ne (tgt := 272) dX12_offer_219 rfl (by first | assumption | (unfold ab_In at *; omega)) (by first | assumption | (unfold ab_In at *; omega)) (fun c_219 => ?_) (fun c_219 => ?_)
                  · refine aw_iinc (ls' := [some (ab_r 84), some (ab_i (k : Int)), some (ab_i 0), some (ab_i ((j : Int) + 1)), some (ab_i (p : Int)), some (ab_i (s : Int))]) dX12_offer_272 (by decide) rfl rfl ?_
                    refine aw_goto (tgt := 8) dX12_offer_275 rfl ?_
                    have h9 := RO_d (ru := ruM I) (tn := tnM I) (k := k) hO hjN hN12 hinj (fun a ha9 => hord a ha9) ht (by rw [hpe]; exact hpb) (by rw [hpe]; exact e_tk) (by rw [hpe, ← hru1]; show _ ≤ I1 95 1 ∨ (¬ I1 95 2 = 0 ∧ ¬ I1 95 2 = 1); omega)
                    rw [hpe] at h9
                    refine aw_le (ls' := [some (ab_r 84), some (ab_i (k : Int)), some (ab_i 0), some (ab_i (((j + 1 : Nat)) : Int)), none, none]) (ab_le_c (ab_le_c (ab_le_c (ab_le_c (ab_le_n (ab_le_n ab_le_nil)))))) (ih (j + 1) _ _ (by omega) h9 ?_ hf (hsn _ rfl).1 (hsn _ rfl).2)
                    unfold of_step; rw [if_neg (by rw [ht]; decide), if_neg e_tk]; (repeat' split) <;> rfl
                  · refine aw_aload_n dX12_offer_222 rfl (by decide) ?_
                    refine aw_getrv (r := 89) dX12_offer_223 fX12_22 ⟨Nat.le_of_ble_eq_true rfl, Nat.le_of_ble_eq_true rfl⟩ rfl rfl (hF.at 84 6 89 rfl rfl rfl) ?_
                    refine aw_bipush dX12_offer_226 rfl ?_
                    refine aw_iload dX12_offer_228 rfl ?_
                    refine aw_iadd dX12_offer_230 ?_
                    refine aw_aload_n dX12_offer_231 rfl (by decide) ?_
                    refine aw_getrv (r := 89) dX12_offer_232 fX12_22 ⟨Nat.le_of_ble_eq_true rfl, Nat.le_of_ble_eq_true rfl⟩ rfl rfl (hF.at 84 6 89 rfl rfl rfl) ?_
                    refine aw_bipush dX12_offer_235 rfl ?_
                    refine aw_ialdq (q := 85) (v := I1 89 85) dX12_offer_237 ⟨Nat.le_of_ble_eq_true rfl, Nat.le_of_ble_eq_true rfl⟩ rfl (by omega) (by omega) (by decide) rfl (ab_u_j (by omega)) ?_
                    refine aw_iastv (q := (12 + p)) dX12_offer_238 ⟨Nat.le_of_ble_eq_true rfl, Nat.le_of_ble_eq_true rfl⟩ rfl (by omega) (by omega) (by decide) (by omega) ?_
                    refine aw_aload_n dX12_offer_239 rfl (by decide) ?_
                    refine aw_getrv (r := 89) dX12_offer_240 fX12_22 ⟨Nat.le_of_ble_eq_true rfl, Nat.le_of_ble_eq_true rfl⟩ rfl rfl (hF.at 84 6 89 rfl rfl rfl) ?_
                    refine aw_bipush dX12_offer_243 rfl ?_
                    refine aw_dup2 dX12_offer_245 rfl rfl ?_
                    refine aw_ialdq (q := 85) (v := I1 89 85) dX12_offer_246 ⟨Nat.le_of_ble_eq_true rfl, Nat.le_of_ble_eq_true rfl⟩ rfl (by omega) (by omega) (by decide) rfl ((ab_u_j (by omega)).trans (ab_u_j (by omega))) ?_
                    refine aw_iconst dX12_offer_247 ?_
                    refine aw_iadd dX12_offer_248 ?_
                    refine aw_iastv (q := 85) dX12_offer_249 ⟨Nat.le_of_ble_eq_true rfl, Nat.le_of_ble_eq_true rfl⟩ rfl (by omega) (by omega) (by decide) rfl ?_
                    refine aw_aload_n dX12_offer_250 rfl (by decide) ?_
                    refine aw_getrv (r := 89) dX12_offer_251 fX12_22 ⟨Nat.le_of_ble_eq_true rfl, Nat.le_of_ble_eq_true rfl⟩ rfl rfl (hF.at 84 6 89 rfl rfl rfl) ?_
                    refine aw_bipush dX12_offer_254 rfl ?_
                    refine aw_iload dX12_offer_256 rfl ?_
                    refine aw_iadd dX12_offer_258 ?_
                    refine aw_iconst dX12_offer_259 ?_
                    refine aw_iastv (q := (24 + p)) dX12_offer_260 ⟨Nat.le_of_ble_eq_true rfl, Nat.le_of_ble_eq_true rfl⟩ rfl (by omega) (by omega) (by decide) (by omega) ?_
                    refine aw_aload_n dX12_offer_261 rfl (by decide) ?_
                    refine aw_getrv (r := 89) dX12_offer_262 fX12_22 ⟨Nat.le_of_ble_eq_true rfl, Nat.le_of_ble_eq_true rfl⟩ rfl rfl (hF.at 84 6 89 rfl rfl rfl) ?_
                    refine aw_bipush dX12_offer_265 rfl ?_
                    refine aw_iload dX12_offer_267 rfl ?_
                    refine aw_iadd dX12_offer_269 ?_
                    refine aw_iconst dX12_offer_270 ?_
                    refine aw_iastv (q := (36 + p)) dX12_offer_271 ⟨Nat.le_of_ble_eq_true rfl, Nat.le_of_ble_eq_true rfl⟩ rfl (by omega) (by omega) (by decide) (by omega) ?_
                    refine aw_iinc (ls' := [some (ab_r 84), some (ab_i (k : Int)), some (ab_i 0), some (ab_i ((j : Int) + 1)), some (ab_i (p : Int)), some (ab_i (s : Int))]) dX12_offer_272 (by decide) rfl rfl ?_
                    refine aw_goto (tgt := 8) dX12_offer_275 rfl ?_
                    have h9 := RO_e (ru := ruM I) (tn := tnM I) (k := k) hO hjN hN12 hinj (fun a ha9 => hord a ha9) ht (by rw [hpe]; exact hpb) (by rw [hpe]; exact e_tk) (by rw [hpe, ← hru1]; show ¬ _ ≤ I1 95 1; omega) (by rw [← hru1]; show I1 95 2 = 1; omega) (by omega)
                    rw [hpe] at h9
                    refine aw_le (ls' := [some (ab_r 84), some (ab_i (k : Int)), some (ab_i 0), some (ab_i (((j + 1 : Nat)) : Int)), none, none]) (ab_le_c (ab_le_c (ab_le_c (ab_le_c (ab_le_n (ab_le_n ab_le_nil)))))) (ih (j + 1) _ _ (by omega) h9 ?_ hf (hsn _ rfl).1 (hsn _ rfl).2)
                    unfold of_step; rw [if_neg (by rw [ht]; decide), if_neg e_tk]; (repeat' split) <;> rfl
              · refine aw_aload_n dX12_offer_168 rfl (by decide) ?_
                refine aw_getrv (r := 92) dX12_offer_169 fX12_31 ⟨Nat.le_of_ble_eq_true rfl, Nat.le_of_ble_eq_true rfl⟩ rfl rfl (hF.at 84 9 92 rfl rfl rfl) ?_
                refine aw_iload dX12_offer_172 rfl ?_
                refine aw_iconst dX12_offer_174 ?_
                refine aw_zastv (q := p) dX12_offer_175 ⟨Nat.le_of_ble_eq_true rfl, Nat.le_of_ble_eq_true rfl⟩ rfl (by omega) (by omega) (by decide) (Or.inr rfl) rfl ?_
                refine aw_aload_n dX12_offer_176 rfl (by decide) ?_
                refine aw_getrv (r := 89) dX12_offer_177 fX12_22 ⟨Nat.le_of_ble_eq_true rfl, Nat.le_of_ble_eq_true rfl⟩ rfl rfl (hF.at 84 6 89 rfl rfl rfl) ?_
                refine aw_bipush dX12_offer_180 rfl ?_
                refine aw_iload dX12_offer_182 rfl ?_
                refine aw_iadd dX12_offer_184 ?_
                refine aw_dup2 dX12_offer_185 rfl rfl ?_
                refine aw_ialdq (q := (72 + s)) (v := I1 89 (72 + s)) dX12_offer_186 ⟨Nat.le_of_ble_eq_true rfl, Nat.le_of_ble_eq_true rfl⟩ rfl (by omega) (by omega) (by decide) (by omega) ((ab_u_i (by decide)).trans (ab_u_j (by omega))) ?_
                refine aw_iconst dX12_offer_187 ?_
                refine aw_iadd dX12_offer_188 ?_
                refine aw_iastv (q := (72 + s)) dX12_offer_189 ⟨Nat.le_of_ble_eq_true rfl, Nat.le_of_ble_eq_true rfl⟩ rfl (by omega) (by omega) (by decide) (by omega) ?_
                refine aw_goto (tgt := 272) dX12_offer_190 rfl ?_
                refine aw_iinc (ls' := [some (ab_r 84), some (ab_i (k : Int)), some (ab_i 0), some (ab_i ((j : Int) + 1)), some (ab_i (p : Int)), some (ab_i (s : Int))]) dX12_offer_272 (by decide) rfl rfl ?_
                refine aw_goto (tgt := 8) dX12_offer_275 rfl ?_
                have h9 := RO_c (ru := ruM I) (tn := tnM I) (k := k) hO hjN hN12 hinj (fun a ha9 => hord a ha9) ht (by rw [hpe]; exact hs) hs4 (by rw [hpe]; exact e_tk) (by rw [hpe, ← hru1]; show ¬ _ ≤ I1 95 1; omega) (by rw [← hru1]; exact c_165)
                rw [hpe] at h9
                refine aw_le (ls' := [some (ab_r 84), some (ab_i (k : Int)), some (ab_i 0), some (ab_i (((j + 1 : Nat)) : Int)), none, none]) (ab_le_c (ab_le_c (ab_le_c (ab_le_c (ab_le_n (ab_le_n ab_le_nil)))))) (ih (j + 1) _ _ (by omega) h9 ?_ hf (hsn _ rfl).1 (hsn _ rfl).2)
                unfold of_step; rw [if_neg (by rw [ht]; decide), if_neg e_tk]; (repeat' split) <;> rfl
    refine loop N 0 ([], fun _ _ => 0, I 89 85, false) I5 (by omega) ⟨⟨by rw [e89]; exact hN, rfl, rfl, by rw [e89]⟩, fun _ _ _ _ => by simp, fun _ _ _ _ => rfl, rfl, fun q _ hq2 => ⟨rfl, by rw [e92]; exact hz _ (by have := hord q hq2; omega)⟩, fun p hp => by rw [e92]; exact Or.inl (hz p hp), fun t ht => by simp at ht⟩ rfl ?_ (by rw [e89]; exact Int.le_refl _) (by dsimp only; omega)
    rw [List.drop_zero, e89]; exact hfe
  refine aw_aload_n dX12_offer_0 rfl (by decide) ?_
  refine aw_callV (as := []) (rest := []) dX12_offer_1 (ct_X12_findOrder G I F hF N W nx hb hW hnx hN12 hT.1 (by have := hR.1; unfold ab_In; omega) hN hlen) ⟨Nat.le_of_ble_eq_true rfl, Nat.le_of_ble_eq_true rfl⟩ rfl kc12 rfl kX12_findOrder iX12_findOrder eX12_findOrder lX12_98 rfl (Nat.le_of_ble_eq_true rfl) (by decide) (by decide) (by decide) (by decide) ?_
  rintro _ _ ⟨rfl, I5, rfl, h5, h91⟩
  refine aw_iconst dX12_offer_4 ?_
  refine aw_istore_n (ls' := [some (ab_r 84), some (ab_i (k : Int)), some (ab_i 0), none, none, none]) dX12_offer_5 (by decide) rfl ?_
  refine aw_iconst dX12_offer_6 ?_
  refine aw_istore_n (ls' := [some (ab_r 84), some (ab_i (k : Int)), some (ab_i 0), some (ab_i 0), none, none]) dX12_offer_7 (by decide) rfl ?_
  exact main _ I5 rfl h5 h91
