theorem RE_none {I I1 : Nat → Nat → Int} {L : List P5} {wk nx W : Int} (h : RS I L wk nx W) (hf : ∀ i b, i ≠ 92 → I1 i b = I i b) (hz : ∀ p, p < 12 → I1 92 p = 0) : RE I L.length W (L, fun _ _ => 0, nx, true) I1 := by
  obtain ⟨h1, ⟨h2, h3, h4⟩, h5, h6⟩ := id h
  have e89 : I1 89 = I 89 := funext fun b => hf 89 b (by decide)
  refine ⟨⟨by rw [e89]; exact h2, by rw [e89], by rw [e89]; simp, by rw [e89]; exact h4⟩, fun w s _ _ => by rw [e89]; simp, fun i b _ _ q3 => hf i b q3, ?_, fun p hp => Or.inl (hz p hp), fun t ht => (h6 t ht).mono (by omega) (Int.le_refl _)⟩
  have : (List.range L.length).filterMap (kp I1) = L := by
    have e : (List.range L.length).filterMap (kp I1) = (List.range L.length).filterMap (fun p => some (rt (I 89) p)) := by
      apply fm_congr
      intro p hp
      unfold kp
      rw [if_pos (hz p (by have := List.mem_range.mp hp; omega)), e89]
    rw [e, show (fun p => some (rt (I 89) p)) = some ∘ (rt (I 89)) from rfl, List.filterMap_eq_map]
    exact h.tup.symm
  show L.Perm _
  rw [this]
theorem RE.base {I I1 I3 : Nat → Nat → Int} {N : Nat} {W : Int} {o : OS} (h : RE I1 N W o I3) (hf : ∀ i b, i ≠ 92 → I1 i b = I i b) : RE I N W o I3 := by
  obtain ⟨⟨h1, h2, h3, h4⟩, h5, h6, h7, h8, h9⟩ := h
  refine ⟨⟨h1, h2.trans (hf _ _ (by decide)), ?_, h4⟩, fun w s hw hs => ?_, fun i b q1 q2 q3 => (h6 i b q1 q2 q3).trans (hf i b q3), h7, h8, h9⟩
  · rw [h3, hf _ _ (by decide)]
  · rw [h5 w s hw hs, hf _ _ (by decide)]
theorem z12 {I : Nat → Nat → Int} : ∀ p, p < 12 → ab_u (ab_u (ab_u (ab_u (ab_u (ab_u (ab_u (ab_u (ab_u (ab_u (ab_u (ab_u I 92 0 0) 92 1 0) 92 2 0) 92 3 0) 92 4 0) 92 5 0) 92 6 0) 92 7 0) 92 8 0) 92 9 0) 92 10 0) 92 11 0 92 p = 0 := by
  intro p hp
  unfold ab_u
  (repeat' split) <;> first | rfl | (exfalso; omega)
set_option maxHeartbeats 4000000 in
set_option maxRecDepth 100000 in
theorem ct_X12_add (G : ab_G) (I : Nat → Nat → Int) (F : Nat → Nat → Nat) (hF : ab_FB F) (L : List P5) (wk nx W : Int) (hC : RS I L wk nx W) (hL : L.length < 12) (s : Nat) (hs : s < 4) (hnx : 0 ≤ nx) (hW : 0 ≤ W) : Ct G 0 0 0 YX12_add [ab_r 84, ab_i (s : Int)] (104, I, F) (fun r h => r = none ∧ ∃ I2, h = (104, I2, F) ∧ RS I2 (L ++ [((s : Int), nx, 0, 0, 0)]) wk (nx + 1) W ∧ RD I I2 (fun _ _ => 0) 0) := by
  refine Ct.ofW kX12_add (ls := [some (ab_r 84), some (ab_i (s : Int)), none]) (Nat.le_of_ble_eq_true rfl) rfl ?_
  have h84 : I 89 84 = (L.length : Int) := hC.2.1.1
  refine aw_aload_n dX12_add_0 rfl (by decide) ?_
  refine aw_getrv (r := 89) dX12_add_1 fX12_22 ⟨Nat.le_of_ble_eq_true rfl, Nat.le_of_ble_eq_true rfl⟩ rfl rfl (hF.at 84 6 89 rfl rfl rfl) ?_
  refine aw_bipush dX12_add_4 rfl ?_
  refine aw_ialdq (q := 84) (v := (L.length : Int)) dX12_add_6 ⟨Nat.le_of_ble_eq_true rfl, Nat.le_of_ble_eq_true rfl⟩ rfl (by omega) (by omega) (by decide) rfl h84 ?_
  refine aw_istore_n (ls' := [some (ab_r 84), some (ab_i (s : Int)), some (ab_i (L.length : Int))]) dX12_add_7 (by decide) rfl ?_
  refine aw_aload_n dX12_add_8 rfl (by decide) ?_
  refine aw_getrv (r := 89) dX12_add_9 fX12_22 ⟨Nat.le_of_ble_eq_true rfl, Nat.le_of_ble_eq_true rfl⟩ rfl rfl (hF.at 84 6 89 rfl rfl rfl) ?_
  refine aw_iconst dX12_add_12 ?_
  refine aw_iload_n dX12_add_13 rfl ?_
  refine aw_iadd dX12_add_14 ?_
  refine aw_iload_n dX12_add_15 rfl ?_
  refine aw_iastv (q := L.length) dX12_add_16 ⟨Nat.le_of_ble_eq_true rfl, Nat.le_of_ble_eq_true rfl⟩ rfl (by omega) (by omega) (by decide) (by omega) ?_
  refine aw_aload_n dX12_add_17 rfl (by decide) ?_
  refine aw_getrv (r := 89) dX12_add_18 fX12_22 ⟨Nat.le_of_ble_eq_true rfl, Nat.le_of_ble_eq_true rfl⟩ rfl rfl (hF.at 84 6 89 rfl rfl rfl) ?_
  refine aw_bipush dX12_add_21 rfl ?_
  refine aw_iload_n dX12_add_23 rfl ?_
  refine aw_iadd dX12_add_24 ?_
  refine aw_aload_n dX12_add_25 rfl (by decide) ?_
  refine aw_getrv (r := 89) dX12_add_26 fX12_22 ⟨Nat.le_of_ble_eq_true rfl, Nat.le_of_ble_eq_true rfl⟩ rfl rfl (hF.at 84 6 89 rfl rfl rfl) ?_
  refine aw_bipush dX12_add_29 rfl ?_
  refine aw_ialdq (q := 85) (v := I 89 85) dX12_add_31 ⟨Nat.le_of_ble_eq_true rfl, Nat.le_of_ble_eq_true rfl⟩ rfl (by omega) (by omega) (by decide) rfl (ab_u_j (by omega)) ?_
  refine aw_iastv (q := (12 + L.length)) dX12_add_32 ⟨Nat.le_of_ble_eq_true rfl, Nat.le_of_ble_eq_true rfl⟩ rfl (by omega) (by omega) (by decide) (by omega) ?_
  refine aw_aload_n dX12_add_33 rfl (by decide) ?_
  refine aw_getrv (r := 89) dX12_add_34 fX12_22 ⟨Nat.le_of_ble_eq_true rfl, Nat.le_of_ble_eq_true rfl⟩ rfl rfl (hF.at 84 6 89 rfl rfl rfl) ?_
  refine aw_bipush dX12_add_37 rfl ?_
  refine aw_iload_n dX12_add_39 rfl ?_
  refine aw_iadd dX12_add_40 ?_
  refine aw_iconst dX12_add_41 ?_
  refine aw_iastv (q := (24 + L.length)) dX12_add_42 ⟨Nat.le_of_ble_eq_true rfl, Nat.le_of_ble_eq_true rfl⟩ rfl (by omega) (by omega) (by decide) (by omega) ?_
  refine aw_aload_n dX12_add_43 rfl (by decide) ?_
  refine aw_getrv (r := 89) dX12_add_44 fX12_22 ⟨Nat.le_of_ble_eq_true rfl, Nat.le_of_ble_eq_true rfl⟩ rfl rfl (hF.at 84 6 89 rfl rfl rfl) ?_
  refine aw_bipush dX12_add_47 rfl ?_
  refine aw_iload_n dX12_add_49 rfl ?_
  refine aw_iadd dX12_add_50 ?_
  refine aw_iconst dX12_add_51 ?_
  refine aw_iastv (q := (36 + L.length)) dX12_add_52 ⟨Nat.le_of_ble_eq_true rfl, Nat.le_of_ble_eq_true rfl⟩ rfl (by omega) (by omega) (by decide) (by omega) ?_
  refine aw_aload_n dX12_add_53 rfl (by decide) ?_
  refine aw_getrv (r := 89) dX12_add_54 fX12_22 ⟨Nat.le_of_ble_eq_true rfl, Nat.le_of_ble_eq_true rfl⟩ rfl rfl (hF.at 84 6 89 rfl rfl rfl) ?_
  refine aw_bipush dX12_add_57 rfl ?_
  refine aw_iload_n dX12_add_59 rfl ?_
  refine aw_iadd dX12_add_60 ?_
  refine aw_iconst dX12_add_61 ?_
  refine aw_iastv (q := (48 + L.length)) dX12_add_62 ⟨Nat.le_of_ble_eq_true rfl, Nat.le_of_ble_eq_true rfl⟩ rfl (by omega) (by omega) (by decide) (by omega) ?_
  refine aw_aload_n dX12_add_63 rfl (by decide) ?_
  refine aw_getrv (r := 89) dX12_add_64 fX12_22 ⟨Nat.le_of_ble_eq_true rfl, Nat.le_of_ble_eq_true rfl⟩ rfl rfl (hF.at 84 6 89 rfl rfl rfl) ?_
  refine aw_bipush dX12_add_67 rfl ?_
  refine aw_dup2 dX12_add_69 rfl rfl ?_
  refine aw_ialdq (q := 85) (v := I 89 85) dX12_add_70 ⟨Nat.le_of_ble_eq_true rfl, Nat.le_of_ble_eq_true rfl⟩ rfl (by omega) (by omega) (by decide) rfl (((((ab_u_j (by omega)).trans (ab_u_j (by omega))).trans (ab_u_j (by omega))).trans (ab_u_j (by omega))).trans (ab_u_j (by omega))) ?_
  refine aw_iconst dX12_add_71 ?_
  refine aw_iadd dX12_add_72 ?_
  refine aw_iastv (q := 85) dX12_add_73 ⟨Nat.le_of_ble_eq_true rfl, Nat.le_of_ble_eq_true rfl⟩ rfl (by omega) (by omega) (by decide) rfl ?_
  refine aw_aload_n dX12_add_74 rfl (by decide) ?_
  refine aw_getrv (r := 89) dX12_add_75 fX12_22 ⟨Nat.le_of_ble_eq_true rfl, Nat.le_of_ble_eq_true rfl⟩ rfl rfl (hF.at 84 6 89 rfl rfl rfl) ?_
  refine aw_bipush dX12_add_78 rfl ?_
  refine aw_dup2 dX12_add_80 rfl rfl ?_
  refine aw_ialdq (q := 84) (v := (L.length : Int)) dX12_add_81 ⟨Nat.le_of_ble_eq_true rfl, Nat.le_of_ble_eq_true rfl⟩ rfl (by omega) (by omega) (by decide) rfl (((((((ab_u_j (by decide)).trans (ab_u_j (by omega))).trans (ab_u_j (by omega))).trans (ab_u_j (by omega))).trans (ab_u_j (by omega))).trans (ab_u_j (by omega))).trans h84) ?_
  refine aw_iconst dX12_add_82 ?_
  refine aw_iadd dX12_add_83 ?_
  refine aw_iastv (q := 84) dX12_add_84 ⟨Nat.le_of_ble_eq_true rfl, Nat.le_of_ble_eq_true rfl⟩ rfl (by omega) (by omega) (by decide) rfl ?_
  refine aw_return dX12_add_85 rfl ?_
  refine ⟨rfl, _, rfl, ?_⟩
  exact RS_add hC hL hs hnx hW
set_option maxHeartbeats 4000000 in
set_option maxRecDepth 100000 in
theorem ct_X12_goWeek (G : ab_G) (I : Nat → Nat → Int) (F : Nat → Nat → Nat) (hF : ab_FB F) (L : List P5) (wk nx W : Int) (hC : RS I L wk nx W) (hq : Nq L nx) (hT : TBM I) (hR : RBM I) (hwk : 0 ≤ wk ∧ wk ≤ 100000) (hnx : 0 ≤ nx ∧ nx ≤ 99000) (hW : 0 ≤ W ∧ W + 2 ≤ 6000) : Ct G 3 0 0 YX12_goWeek [ab_r 84] (104, I, F) (fun r h => r = none ∧ ∃ I2 L2, h = (104, I2, F) ∧ RS I2 L2 (wk + 1) (wkS (ruM I) (tnM I) (kdM I 2 87 wk) (kdM I 4 88 wk) L nx).2.1 (W + 2) ∧ L2.Perm (wkS (ruM I) (tnM I) (kdM I 2 87 wk) (kdM I 4 88 wk) L nx).1 ∧ RD I I2 (wkS (ruM I) (tnM I) (kdM I 2 87 wk) (kdM I 4 88 wk) L nx).2.2.1 (wkS (ruM I) (tnM I) (kdM I 2 87 wk) (kdM I 4 88 wk) L nx).2.2.2) := by
  refine Ct.ofW kX12_goWeek (ls := [some (ab_r 84), none, none, none, none]) (Nat.le_of_ble_eq_true rfl) rfl ?_
  have hL12 := hC.1
  have hkd := kdM_bd hT (wk := wk)
  have hos := ofS_nq (ru := (ruM I)) (tn := (tnM I)) (kd := (kdM I 2 87 wk)) hq
  generalize hwe : (wkS (ruM I) (tnM I) (kdM I 2 87 wk) (kdM I 4 88 wk) L nx) = fin at *
  generalize hZ : ab_Z G (fun r h => r = none ∧ ∃ I2 L2, h = (104, I2, F) ∧ RS I2 L2 (wk + 1) fin.2.1 (W + 2) ∧ L2.Perm fin.1 ∧ RD I I2 fin.2.2.1 fin.2.2.2) 0 0 = Z
  have hw9 := hwe.symm
  unfold wkS at hw9
  dsimp only at hw9
  generalize hoe : ofS (ruM I) (tnM I) (kdM I 2 87 wk) L nx = oo at *
  generalize hje : (kdM I 4 88 wk) = js at *
  generalize hke : (kdM I 2 87 wk) = kd at *
  have s204 : ∀ (I3 : Nat → Nat → Int) (L3 : List P5) (n3 : Int) (T3 : Nat → Nat → Int) (e3 : Int), RS I3 L3 wk n3 (W + 1) → RD I I3 T3 e3 → (L3.map (gr (ruM I).2.2.2.1)).Perm fin.1 → n3 = fin.2.1 → (∀ w s, T3 w s + grT (tnM I).1 L3 w s = fin.2.2.1 w s) → e3 = fin.2.2.2 → aW G YX12_goWeek (ab_rm 3 0 0) Z 0 0 (104, I3, F) 204 [some (ab_r 84), none, none, none, some (ab_i ((0 : Nat) : Int))] [] := by
    intro I3 L3 n3 T3 e3 hC3 hD3 hp3 hn3 ht3 he3
    have hfr := hD3.2.2
    have e95 : I3 95 = I 95 := eqM hfr 95 (by decide)
    have e86 : I3 86 = I 86 := eqM hfr 86 (by decide)
    have hL3 := hC3.1
    have hg : 0 ≤ I3 95 3 ∧ I3 95 3 ≤ 9 := by rw [e95]; exact hR.2.2.2.1
    have hgr : I3 95 3 = (ruM I).2.2.2.1 := by rw [e95]; rfl
    have loop : ∀ (d j : Nat) (T : Nat → Nat → Int) (I4 : Nat → Nat → Int), j + d = L3.length → GR I3 (I3 95 3) j T I4 → (L3.drop j).foldl (fun T t => ta T 5 t.1.toNat ((tnM I).1 t.1.toNat)) T = grT (tnM I).1 L3 → aW G YX12_goWeek (ab_rm 3 0 0) Z 0 0 (104, I4, F) 204 [some (ab_r 84), none, none, none, some (ab_i (j : Int))] [] := by
      intro d
      induction d with
      | zero =>
        intro j T I4 hj hG hfo
        have hjL : j = L3.length := by omega
        subst hjL
        rw [List.drop_of_length_le (Nat.le_refl _)] at hfo
        have hfo : T = _ := hfo
        have h84 : I4 89 84 = (L3.length : Int) := (hG.1 84 (by decide)).trans hC3.2.1.1
        refine aw_iload dX12_goWeek_204 rfl ?_
        refine aw_aload_n dX12_goWeek_206 rfl (by decide) ?_
        refine aw_getrv (r := 89) dX12_goWeek_207 fX12_22 ⟨Nat.le_of_ble_eq_true rfl, Nat.le_of_ble_eq_true rfl⟩ rfl rfl (hF.at 84 6 89 rfl rfl rfl) ?_
        refine aw_bipush dX12_goWeek_210 rfl ?_
        refine aw_ialdq (q := 84) (v := (L3.length : Int)) dX12_goWeek_212 ⟨Nat.le_of_ble_eq_true rfl, Nat.le_of_ble_eq_true rfl⟩ rfl (by omega) (by omega) (by decide) rfl h84 ?_
        refine aw_icmp_ge (tgt := 324) dX12_goWeek_213 rfl (by first | assumption | (unfold ab_In at *; omega)) (by first | assumption | (unfold ab_In at *; omega)) (fun c_213 => ?_) (fun c_213 => ?_)
        · refine aw_aload_n dX12_goWeek_324 rfl (by decide) ?_
          refine aw_getrv (r := 89) dX12_goWeek_325 fX12_22 ⟨Nat.le_of_ble_eq_true rfl, Nat.le_of_ble_eq_true rfl⟩ rfl rfl (hF.at 84 6 89 rfl rfl rfl) ?_
          refine aw_bipush dX12_goWeek_328 rfl ?_
          refine aw_dup2 dX12_goWeek_330 rfl rfl ?_
          refine aw_ialdq (q := 86) (v := I4 89 86) dX12_goWeek_331 ⟨Nat.le_of_ble_eq_true rfl, Nat.le_of_ble_eq_true rfl⟩ rfl (by omega) (by omega) (by decide) rfl rfl ?_
          refine aw_iconst dX12_goWeek_332 ?_
          refine aw_iadd dX12_goWeek_333 ?_
          refine aw_iastv (q := 86) dX12_goWeek_334 ⟨Nat.le_of_ble_eq_true rfl, Nat.le_of_ble_eq_true rfl⟩ rfl (by omega) (by omega) (by decide) rfl ?_
          rw [← hZ]
          refine aw_return dX12_goWeek_335 rfl ?_
          have h9 := GR_end hG hC3 hg.1
          rw [hgr, hn3, show W + 1 + 1 = W + 2 by omega] at h9
          have hD9 := hD3.trans h9.2
          refine ⟨rfl, _, _, rfl, h9.1, hp3, ?_⟩
          rw [he3, Int.add_zero, hfo, show (fun w s => T3 w s + grT (tnM I).1 L3 w s) = fin.2.2.1 from funext fun w => funext fun s => ht3 w s] at hD9
          exact hD9
        · exfalso; omega
      | succ d ih =>
        intro j T I4 hj hG hfo
        have h84 : I4 89 84 = (L3.length : Int) := (hG.1 84 (by decide)).trans hC3.2.1.1
        have hjL : j < L3.length := by omega
        have e5 : rt (I4 89) j = rt (I3 89) j := hG.2.2.2.2 j (Nat.le_refl _) (by omega)
        have hpb : PB (W + 1) n3 (rt (I4 89) j) := by rw [e5]; exact hC3.2.2.2 _ (List.mem_of_getElem? (hC3.2.2.1 j hjL))
        have hLj : L3.drop j = rt (I4 89) j :: L3.drop (j + 1) := by rw [List.drop_eq_getElem_cons hjL]; have := hC3.2.2.1 j hjL; rw [List.getElem?_eq_getElem hjL] at this; rw [Option.some.inj this, e5]
        rw [hLj, List.foldl_cons] at hfo
        have f95 : I4 95 3 = I3 95 3 := hG.2.2.1 95 3 (by decide)
        have f86 : ∀ s, I4 86 s = I 86 s := fun s => (hG.2.2.1 86 s (by decide)).trans (congrFun e86 s)
        unfold PB rt at hpb
        dsimp only at hpb
        obtain ⟨s, hs⟩ : ∃ s : Nat, I4 89 j = (s : Int) := ⟨(I4 89 j).toNat, by omega⟩
        have hs4 : s < 4 := by omega
        have e9 : (rt (I4 89) j).1.toNat = s := by unfold rt; dsimp only; omega
        have e8 : (tnM I).1 s = I4 86 s := by rw [f86]; exact n4_lt hs4
        rw [e9, e8] at hfo
        refine aw_iload dX12_goWeek_204 rfl ?_
        refine aw_aload_n dX12_goWeek_206 rfl (by decide) ?_
        refine aw_getrv (r := 89) dX12_goWeek_207 fX12_22 ⟨Nat.le_of_ble_eq_true rfl, Nat.le_of_ble_eq_true rfl⟩ rfl rfl (hF.at 84 6 89 rfl rfl rfl) ?_
        refine aw_bipush dX12_goWeek_210 rfl ?_
        refine aw_ialdq (q := 84) (v := (L3.length : Int)) dX12_goWeek_212 ⟨Nat.le_of_ble_eq_true rfl, Nat.le_of_ble_eq_true rfl⟩ rfl (by omega) (by omega) (by decide) rfl h84 ?_
        refine aw_icmp_ge (tgt := 324) dX12_goWeek_213 rfl (by first | assumption | (unfold ab_In at *; omega)) (by first | assumption | (unfold ab_In at *; omega)) (fun c_213 => ?_) (fun c_213 => ?_)
        · exfalso; omega
        · refine aw_aload_n dX12_goWeek_216 rfl (by decide) ?_
          refine aw_getrv (r := 89) dX12_goWeek_217 fX12_22 ⟨Nat.le_of_ble_eq_true rfl, Nat.le_of_ble_eq_true rfl⟩ rfl rfl (hF.at 84 6 89 rfl rfl rfl) ?_
          refine aw_bipush dX12_goWeek_220 rfl ?_
          refine aw_iload dX12_goWeek_222 rfl ?_
          refine aw_iadd dX12_goWeek_224 ?_
          refine aw_dup2 dX12_goWeek_225 rfl rfl ?_
          refine aw_ialdq (q := (48 + j)) (v := I4 89 (48 + j)) dX12_goWeek_226 ⟨Nat.le_of_ble_eq_true rfl, Nat.le_of_ble_eq_true rfl⟩ rfl (by omega) (by omega) (by decide) (by omega) rfl ?_
          refine aw_iconst dX12_goWeek_227 ?_
          refine aw_iadd dX12_goWeek_228 ?_
          refine aw_iastv (q := (48 + j)) dX12_goWeek_229 ⟨Nat.le_of_ble_eq_true rfl, Nat.le_of_ble_eq_true rfl⟩ rfl (by omega) (by omega) (by decide) (by omega) ?_
          refine aw_aload_n dX12_goWeek_230 rfl (by decide) ?_
          refine aw_getrv (r := 89) dX12_goWeek_231 fX12_22 ⟨Nat.le_of_ble_eq_true rfl, Nat.le_of_ble_eq_true rfl⟩ rfl rfl (hF.at 84 6 89 rfl rfl rfl) ?_
          refine aw_bipush dX12_goWeek_234 rfl ?_
          refine aw_iload dX12_goWeek_236 rfl ?_
          refine aw_iadd dX12_goWeek_238 ?_
          refine aw_aload_n dX12_goWeek_239 rfl (by decide) ?_
          refine aw_getrv (r := 89) dX12_goWeek_240 fX12_22 ⟨Nat.le_of_ble_eq_true rfl, Nat.le_of_ble_eq_true rfl⟩ rfl rfl (hF.at 84 6 89 rfl rfl rfl) ?_
          refine aw_bipush dX12_goWeek_243 rfl ?_
          refine aw_iload dX12_goWeek_245 rfl ?_
          refine aw_iadd dX12_goWeek_247 ?_
          refine aw_ialdq (q := (24 + j)) (v := I4 89 (24 + j)) dX12_goWeek_248 ⟨Nat.le_of_ble_eq_true rfl, Nat.le_of_ble_eq_true rfl⟩ rfl (by omega) (by omega) (by decide) (by omega) (ab_u_j (by omega)) ?_
          refine aw_aload_n dX12_goWeek_249 rfl (by decide) ?_
          refine aw_getrv (r := 95) dX12_goWeek_250 fX12_41 ⟨Nat.le_of_ble_eq_true rfl, Nat.le_of_ble_eq_true rfl⟩ rfl rfl (hF.at 84 20 95 rfl rfl rfl) ?_
          refine aw_iconst dX12_goWeek_253 ?_
          refine aw_ialdq (q := 3) (v := (I3 95 3)) dX12_goWeek_254 ⟨Nat.le_of_ble_eq_true rfl, Nat.le_of_ble_eq_true rfl⟩ rfl (by omega) (by omega) (by decide) rfl ((ab_u_i (by decide)).trans f95) ?_
          refine aw_iadd dX12_goWeek_255 ?_
          refine aw_bipush dX12_goWeek_256 rfl ?_
          refine aw_icmp_le (tgt := 266) dX12_goWeek_258 rfl (by first | assumption | (unfold ab_In at *; omega)) (by first | assumption | (unfold ab_In at *; omega)) (fun c_258 => ?_) (fun c_258 => ?_)
          · refine aw_aload_n dX12_goWeek_266 rfl (by decide) ?_
            refine aw_getrv (r := 89) dX12_goWeek_267 fX12_22 ⟨Nat.le_of_ble_eq_true rfl, Nat.le_of_ble_eq_true rfl⟩ rfl rfl (hF.at 84 6 89 rfl rfl rfl) ?_
            refine aw_bipush dX12_goWeek_270 rfl ?_
            refine aw_iload dX12_goWeek_272 rfl ?_
            refine aw_iadd dX12_goWeek_274 ?_
            refine aw_ialdq (q := (24 + j)) (v := I4 89 (24 + j)) dX12_goWeek_275 ⟨Nat.le_of_ble_eq_true rfl, Nat.le_of_ble_eq_true rfl⟩ rfl (by omega) (by omega) (by decide) (by omega) (ab_u_j (by omega)) ?_
            refine aw_aload_n dX12_goWeek_276 rfl (by decide) ?_
            refine aw_getrv (r := 95) dX12_goWeek_277 fX12_41 ⟨Nat.le_of_ble_eq_true rfl, Nat.le_of_ble_eq_true rfl⟩ rfl rfl (hF.at 84 20 95 rfl rfl rfl) ?_
            refine aw_iconst dX12_goWeek_280 ?_
            refine aw_ialdq (q := 3) (v := (I3 95 3)) dX12_goWeek_281 ⟨Nat.le_of_ble_eq_true rfl, Nat.le_of_ble_eq_true rfl⟩ rfl (by omega) (by omega) (by decide) rfl ((ab_u_i (by decide)).trans f95) ?_
            refine aw_iadd dX12_goWeek_282 ?_
            refine aw_iastv (q := (24 + j)) dX12_goWeek_283 ⟨Nat.le_of_ble_eq_true rfl, Nat.le_of_ble_eq_true rfl⟩ rfl (by omega) (by omega) (by decide) (by omega) ?_
            refine aw_aload_n dX12_goWeek_284 rfl (by decide) ?_
            refine aw_getrv (r := 89) dX12_goWeek_285 fX12_22 ⟨Nat.le_of_ble_eq_true rfl, Nat.le_of_ble_eq_true rfl⟩ rfl rfl (hF.at 84 6 89 rfl rfl rfl) ?_
            refine aw_bipush dX12_goWeek_288 rfl ?_
            refine aw_aload_n dX12_goWeek_290 rfl (by decide) ?_
            refine aw_getrv (r := 89) dX12_goWeek_291 fX12_22 ⟨Nat.le_of_ble_eq_true rfl, Nat.le_of_ble_eq_true rfl⟩ rfl rfl (hF.at 84 6 89 rfl rfl rfl) ?_
            refine aw_iconst dX12_goWeek_294 ?_
            refine aw_iload dX12_goWeek_295 rfl ?_
            refine aw_iadd dX12_goWeek_297 ?_
            refine aw_ialdq (q := j) (v := (s : Int)) dX12_goWeek_298 ⟨Nat.le_of_ble_eq_true rfl, Nat.le_of_ble_eq_true rfl⟩ rfl (by omega) (by omega) (by decide) (by omega) (((ab_u_j (by omega)).trans (ab_u_j (by omega))).trans hs) ?_
            refine aw_iadd dX12_goWeek_299 ?_
            refine aw_dup2 dX12_goWeek_300 rfl rfl ?_
            refine aw_ialdq (q := (80 + s)) (v := I4 89 (80 + s)) dX12_goWeek_301 ⟨Nat.le_of_ble_eq_true rfl, Nat.le_of_ble_eq_true rfl⟩ rfl (by omega) (by omega) (by decide) (by omega) ((ab_u_j (by omega)).trans (ab_u_j (by omega))) ?_
            refine aw_aload_n dX12_goWeek_302 rfl (by decide) ?_
            refine aw_getrv (r := 86) dX12_goWeek_303 fX12_13 ⟨Nat.le_of_ble_eq_true rfl, Nat.le_of_ble_eq_true rfl⟩ rfl rfl (hF.at 84 1 86 rfl rfl rfl) ?_
            refine aw_aload_n dX12_goWeek_306 rfl (by decide) ?_
            refine aw_getrv (r := 89) dX12_goWeek_307 fX12_22 ⟨Nat.le_of_ble_eq_true rfl, Nat.le_of_ble_eq_true rfl⟩ rfl rfl (hF.at 84 6 89 rfl rfl rfl) ?_
            refine aw_iconst dX12_goWeek_310 ?_
            refine aw_iload dX12_goWeek_311 rfl ?_
            refine aw_iadd dX12_goWeek_313 ?_
            refine aw_ialdq (q := j) (v := (s : Int)) dX12_goWeek_314 ⟨Nat.le_of_ble_eq_true rfl, Nat.le_of_ble_eq_true rfl⟩ rfl (by omega) (by omega) (by decide) (by omega) (((ab_u_j (by omega)).trans (ab_u_j (by omega))).trans hs) ?_
            refine aw_ialdq (q := s) (v := I4 86 s) dX12_goWeek_315 ⟨Nat.le_of_ble_eq_true rfl, Nat.le_of_ble_eq_true rfl⟩ rfl (by omega) (by omega) (by decide) rfl ((ab_u_i (by decide)).trans (ab_u_i (by decide))) ?_
            refine aw_iadd dX12_goWeek_316 ?_
            refine aw_iastv (q := (80 + s)) dX12_goWeek_317 ⟨Nat.le_of_ble_eq_true rfl, Nat.le_of_ble_eq_true rfl⟩ rfl (by omega) (by omega) (by decide) (by omega) ?_
            refine aw_iinc (ls' := [some (ab_r 84), none, none, none, some (ab_i ((j : Int) + 1))]) dX12_goWeek_318 (by decide) rfl rfl ?_
            refine aw_goto (tgt := 204) dX12_goWeek_321 rfl ?_
            have h9 := GR_step (v := I4 86 s) (x := (I4 89 (24 + j) + I3 95 3)) hG (by omega) hs hs4 (by first | rw [if_pos (by omega)] | rw [if_neg (by omega)])
            have ih9 := ih (j + 1) _ _ (by omega) h9 hfo
            exact ih9
          · refine aw_bipush dX12_goWeek_261 rfl ?_
            refine aw_goto (tgt := 283) dX12_goWeek_263 rfl ?_
            refine aw_iastv (q := (24 + j)) dX12_goWeek_283 ⟨Nat.le_of_ble_eq_true rfl, Nat.le_of_ble_eq_true rfl⟩ rfl (by omega) (by omega) (by decide) (by omega) ?_
            refine aw_aload_n dX12_goWeek_284 rfl (by decide) ?_
            refine aw_getrv (r := 89) dX12_goWeek_285 fX12_22 ⟨Nat.le_of_ble_eq_true rfl, Nat.le_of_ble_eq_true rfl⟩ rfl rfl (hF.at 84 6 89 rfl rfl rfl) ?_
            refine aw_bipush dX12_goWeek_288 rfl ?_
            refine aw_aload_n dX12_goWeek_290 rfl (by decide) ?_
            refine aw_getrv (r := 89) dX12_goWeek_291 fX12_22 ⟨Nat.le_of_ble_eq_true rfl, Nat.le_of_ble_eq_true rfl⟩ rfl rfl (hF.at 84 6 89 rfl rfl rfl) ?_
            refine aw_iconst dX12_goWeek_294 ?_
            refine aw_iload dX12_goWeek_295 rfl ?_
            refine aw_iadd dX12_goWeek_297 ?_
            refine aw_ialdq (q := j) (v := (s : Int)) dX12_goWeek_298 ⟨Nat.le_of_ble_eq_true rfl, Nat.le_of_ble_eq_true rfl⟩ rfl (by omega) (by omega) (by decide) (by omega) (((ab_u_j (by omega)).trans (ab_u_j (by omega))).trans hs) ?_
            refine aw_iadd dX12_goWeek_299 ?_
            refine aw_dup2 dX12_goWeek_300 rfl rfl ?_
            refine aw_ialdq (q := (80 + s)) (v := I4 89 (80 + s)) dX12_goWeek_301 ⟨Nat.le_of_ble_eq_true rfl, Nat.le_of_ble_eq_true rfl⟩ rfl (by omega) (by omega) (by decide) (by omega) ((ab_u_j (by omega)).trans (ab_u_j (by omega))) ?_
            refine aw_aload_n dX12_goWeek_302 rfl (by decide) ?_
            refine aw_getrv (r := 86) dX12_goWeek_303 fX12_13 ⟨Nat.le_of_ble_eq_true rfl, Nat.le_of_ble_eq_true rfl⟩ rfl rfl (hF.at 84 1 86 rfl rfl rfl) ?_
            refine aw_aload_n dX12_goWeek_306 rfl (by decide) ?_
            refine aw_getrv (r := 89) dX12_goWeek_307 fX12_22 ⟨Nat.le_of_ble_eq_true rfl, Nat.le_of_ble_eq_true rfl⟩ rfl rfl (hF.at 84 6 89 rfl rfl rfl) ?_
            refine aw_iconst dX12_goWeek_310 ?_
            refine aw_iload dX12_goWeek_311 rfl ?_
            refine aw_iadd dX12_goWeek_313 ?_
            refine aw_ialdq (q := j) (v := (s : Int)) dX12_goWeek_314 ⟨Nat.le_of_ble_eq_true rfl, Nat.le_of_ble_eq_true rfl⟩ rfl (by omega) (by omega) (by decide) (by omega) (((ab_u_j (by omega)).trans (ab_u_j (by omega))).trans hs) ?_
            refine aw_ialdq (q := s) (v := I4 86 s) dX12_goWeek_315 ⟨Nat.le_of_ble_eq_true rfl, Nat.le_of_ble_eq_true rfl⟩ rfl (by omega) (by omega) (by decide) rfl ((ab_u_i (by decide)).trans (ab_u_i (by decide))) ?_
            refine aw_iadd dX12_goWeek_316 ?_
            refine aw_iastv (q := (80 + s)) dX12_goWeek_317 ⟨Nat.le_of_ble_eq_true rfl, Nat.le_of_ble_eq_true rfl⟩ rfl (by omega) (by omega) (by decide) (by omega) ?_
            refine aw_iinc (ls' := [some (ab_r 84), none, none, none, some (ab_i ((j : Int) + 1))]) dX12_goWeek_318 (by decide) rfl rfl ?_
            refine aw_goto (tgt := 204) dX12_goWeek_321 rfl ?_
            have h9 := GR_step (v := I4 86 s) (x := 99) hG (by omega) hs hs4 (by first | rw [if_pos (by omega)] | rw [if_neg (by omega)])
            have ih9 := ih (j + 1) _ _ (by omega) h9 hfo
            exact ih9
    exact loop L3.length 0 _ I3 (by omega) ⟨fun _ _ => rfl, fun _ _ _ _ => by simp, fun _ _ _ => rfl, fun i hi => by omega, fun _ _ _ => rfl⟩ rfl
  have s163 : ∀ (I3 : Nat → Nat → Int) (K : List P5), RS I3 K wk oo.2.2.1 (W + 1) → RD I I3 oo.2.1 (if oo.2.2.2 = true then 0 else 1) → K.Perm oo.1 → aW G YX12_goWeek (ab_rm 3 0 0) Z 0 0 (104, I3, F) 163 [some (ab_r 84), none, some (ab_i (K.length : Int)), none, none] [ab_i js] := by
    intro I3 K hC3 hD3 hp3
    have hK := hC3.1
    obtain ⟨t1, t2, t3, t4⟩ := wk_tail (tn := tnM I) (js := js) (g := (ruM I).2.2.2.1) hp3 oo.2.2.1
    by_cases hj1 : js = -1
    · rw [hj1]
      simp only [hj1, if_true] at t1 t2 t3 t4 hw9
      refine aw_istore_n (ls' := [some (ab_r 84), none, some (ab_i (K.length : Int)), some (ab_i (-1)), none]) dX12_goWeek_163 (by decide) rfl ?_
      refine aw_iload_n dX12_goWeek_164 rfl ?_
      refine aw_iconst dX12_goWeek_165 ?_
      refine aw_icmp_eq (tgt := 191) dX12_goWeek_166 rfl ⟨by decide, by decide⟩ ⟨by decide, by decide⟩ (fun _ => ?_) (fun c9 => absurd (by decide) c9)
      refine aw_iload_n dX12_goWeek_191 rfl ?_
      refine aw_iconst dX12_goWeek_192 ?_
      refine aw_icmp_eq (tgt := 201) dX12_goWeek_193 rfl ⟨by decide, by decide⟩ ⟨by decide, by decide⟩ (fun _ => ?_) (fun c9 => absurd (by decide) c9)
      refine aw_iconst dX12_goWeek_201 ?_
      refine aw_istore (ls' := [some (ab_r 84), none, some (ab_i (K.length : Int)), some (ab_i (-1)), some (ab_i 0)]) dX12_goWeek_202 (by decide) rfl ?_
      refine aw_le (ls' := [some (ab_r 84), none, none, none, some (ab_i ((0 : Nat) : Int))]) (ab_le_c (ab_le_n (ab_le_n (ab_le_n (ab_le_c ab_le_nil))))) (s204 I3 K oo.2.2.1 _ _ hC3 hD3 ?_ ?_ ?_ ?_)
      · rw [hw9]; exact t1
      · rw [hw9]
      · intro w s; rw [hw9, t4]; simp
      · rw [hw9]
    · obtain ⟨sv, hsv⟩ : ∃ sv : Nat, js = (sv : Int) := ⟨js.toNat, by omega⟩
      have hs4 : sv < 4 := by omega
      have hsv2 : js.toNat = sv := by omega
      rw [hsv2] at t1 t3 t4 hw9
      simp only [hj1, if_false] at t1 t2 t3 t4 hw9
      rw [hsv]
      refine aw_istore_n (ls' := [some (ab_r 84), none, some (ab_i (K.length : Int)), some (ab_i (sv : Int)), none]) dX12_goWeek_163 (by decide) rfl ?_
      refine aw_iload_n dX12_goWeek_164 rfl ?_
      refine aw_iconst dX12_goWeek_165 ?_
      refine aw_icmp_eq (tgt := 191) dX12_goWeek_166 rfl (by first | assumption | (unfold ab_In at *; omega)) (by first | assumption | (unfold ab_In at *; omega)) (fun c_166 => ?_) (fun c_166 => ?_)
      · exfalso; omega
      · refine aw_iload_n dX12_goWeek_169 rfl ?_
        refine aw_bipush dX12_goWeek_170 rfl ?_
        refine aw_icmp_ne (tgt := 191) dX12_goWeek_172 rfl (by first | assumption | (unfold ab_In at *; omega)) (by first | assumption | (unfold ab_In at *; omega)) (fun c_172 => ?_) (fun c_172 => ?_)
        · refine aw_iload_n dX12_goWeek_191 rfl ?_
          refine aw_iconst dX12_goWeek_192 ?_
          refine aw_icmp_eq (tgt := 201) dX12_goWeek_193 rfl (by first | assumption | (unfold ab_In at *; omega)) (by first | assumption | (unfold ab_In at *; omega)) (fun c_193 => ?_) (fun c_193 => ?_)
          · exfalso; omega
          · refine aw_aload_n dX12_goWeek_196 rfl (by decide) ?_
            refine aw_iload_n dX12_goWeek_197 rfl ?_
            refine aw_callV (as := [ab_i (sv : Int)]) (rest := []) dX12_goWeek_198 (ct_X12_add G I3 F hF K wk oo.2.2.1 (W + 1) hC3 (by omega) sv hs4 (by omega) (by omega)) ⟨Nat.le_of_ble_eq_true rfl, Nat.le_of_ble_eq_true rfl⟩ rfl kc12 rfl kX12_add iX12_add eX12_add lX12_90 rfl (Nat.le_of_ble_eq_true rfl) (by decide) (by decide) (by decide) (by decide) ?_
            rintro _ _ ⟨rfl, I5, rfl, hC5, hD5⟩
            refine aw_iconst dX12_goWeek_201 ?_
            refine aw_istore (ls' := [some (ab_r 84), none, some (ab_i (K.length : Int)), some (ab_i (sv : Int)), some (ab_i 0)]) dX12_goWeek_202 (by decide) rfl ?_
            have ha : arL K oo.2.2.1 sv = K ++ [((sv : Int), oo.2.2.1, 0, 0, 0)] := by unfold arL; rw [if_neg (by omega)]
            have hb : arN K oo.2.2.1 = oo.2.2.1 + 1 := by unfold arN; rw [if_neg (by omega)]
            have hc : arT K sv = fun _ _ => 0 := by unfold arT; rw [if_neg (by omega)]
            rw [ha] at t1 t4
            rw [hb] at t2
            refine aw_le (ls' := [some (ab_r 84), none, none, none, some (ab_i ((0 : Nat) : Int))]) (ab_le_c (ab_le_n (ab_le_n (ab_le_n (ab_le_c ab_le_nil))))) (s204 I5 _ _ _ _ hC5 (hD3.trans hD5) ?_ ?_ ?_ ?_)
            · rw [hw9]; exact t1
            · rw [hw9]; exact t2
            · intro w s; rw [hw9, t4]; have := t3 w s; rw [hc] at this; dsimp only at this ⊢; omega
            · rw [hw9]; simp
        · refine aw_aload_n dX12_goWeek_175 rfl (by decide) ?_
          refine aw_getrv (r := 89) dX12_goWeek_176 fX12_22 ⟨Nat.le_of_ble_eq_true rfl, Nat.le_of_ble_eq_true rfl⟩ rfl rfl (hF.at 84 6 89 rfl rfl rfl) ?_
          refine aw_bipush dX12_goWeek_179 rfl ?_
          refine aw_iload_n dX12_goWeek_181 rfl ?_
          refine aw_iadd dX12_goWeek_182 ?_
          refine aw_dup2 dX12_goWeek_183 rfl rfl ?_
          refine aw_ialdq (q := (76 + sv)) (v := I3 89 (76 + sv)) dX12_goWeek_184 ⟨Nat.le_of_ble_eq_true rfl, Nat.le_of_ble_eq_true rfl⟩ rfl (by omega) (by omega) (by decide) (by omega) rfl ?_
          refine aw_iconst dX12_goWeek_185 ?_
          refine aw_iadd dX12_goWeek_186 ?_
          refine aw_iastv (q := (76 + sv)) dX12_goWeek_187 ⟨Nat.le_of_ble_eq_true rfl, Nat.le_of_ble_eq_true rfl⟩ rfl (by omega) (by omega) (by decide) (by omega) ?_
          refine aw_goto (tgt := 201) dX12_goWeek_188 rfl ?_
          refine aw_iconst dX12_goWeek_201 ?_
          refine aw_istore (ls' := [some (ab_r 84), none, some (ab_i (K.length : Int)), some (ab_i (sv : Int)), some (ab_i 0)]) dX12_goWeek_202 (by decide) rfl ?_
          have h9 := RS_away hC3 hs4
          have hk : K.length = 12 := by omega
          have ha : arL K oo.2.2.1 sv = K := by unfold arL; rw [if_pos hk]
          have hb : arN K oo.2.2.1 = oo.2.2.1 := by unfold arN; rw [if_pos hk]
          have hc : arT K sv = ta (fun _ _ => 0) 4 sv 1 := by unfold arT; rw [if_pos hk]
          rw [ha] at t1 t4
          rw [hb] at t2
          refine aw_le (ls' := [some (ab_r 84), none, none, none, some (ab_i ((0 : Nat) : Int))]) (ab_le_c (ab_le_n (ab_le_n (ab_le_n (ab_le_c ab_le_nil))))) (s204 _ _ _ _ _ h9.1 (hD3.trans h9.2) ?_ ?_ ?_ ?_)
          · rw [hw9]; exact t1
          · rw [hw9]; exact t2
          · intro w s; rw [hw9, t4]; have := t3 w s; rw [hc] at this; dsimp only at this ⊢; omega
          · rw [hw9]; simp
  have s135 : ∀ (I3 : Nat → Nat → Int) (K : List P5), RS I3 K wk oo.2.2.1 (W + 1) → RD I I3 oo.2.1 (if oo.2.2.2 = true then 0 else 1) → K.Perm oo.1 → aW G YX12_goWeek (ab_rm 3 0 0) Z 0 0 (104, I3, F) 135 [some (ab_r 84), none, some (ab_i (K.length : Int)), none, none] [] := by
    intro I3 K hC3 hD3 hp3
    have h9 := s163 I3 K hC3 hD3 hp3
    have hfr := hD3.2.2
    have e84 : I3 84 4 = I 84 4 := hfr 84 4 (by decide) (by decide) (by decide)
    have e88 : I3 88 = I 88 := eqM hfr 88 (by decide)
    have e86 : I3 89 86 = wk := hC3.2.1.2.1
    have hrj := hT.2.2.2.2.1
    rw [← hje] at h9
    unfold kdM at h9
    refine aw_aload_n dX12_goWeek_135 rfl (by decide) ?_
    refine aw_getiv (v := (I 84 4)) dX12_goWeek_136 fX12_87 ⟨Nat.le_of_ble_eq_true rfl, Nat.le_of_ble_eq_true rfl⟩ rfl rfl e84 ?_
    refine aw_if_ne (tgt := 146) dX12_goWeek_139 rfl (by first | assumption | (unfold ab_In at *; omega)) (fun c_139 => ?_) (fun c_139 => ?_)
    · refine aw_aload_n dX12_goWeek_146 rfl (by decide) ?_
      refine aw_getrv (r := 88) dX12_goWeek_147 fX12_19 ⟨Nat.le_of_ble_eq_true rfl, Nat.le_of_ble_eq_true rfl⟩ rfl rfl (hF.at 84 5 88 rfl rfl rfl) ?_
      refine aw_aload_n dX12_goWeek_150 rfl (by decide) ?_
      refine aw_getrv (r := 89) dX12_goWeek_151 fX12_22 ⟨Nat.le_of_ble_eq_true rfl, Nat.le_of_ble_eq_true rfl⟩ rfl rfl (hF.at 84 6 89 rfl rfl rfl) ?_
      refine aw_bipush dX12_goWeek_154 rfl ?_
      refine aw_ialdq (q := 86) (v := wk) dX12_goWeek_156 ⟨Nat.le_of_ble_eq_true rfl, Nat.le_of_ble_eq_true rfl⟩ rfl (by omega) (by omega) (by decide) rfl e86 ?_
      refine aw_aload_n dX12_goWeek_157 rfl (by decide) ?_
      refine aw_getiv (v := (I 84 4)) dX12_goWeek_158 fX12_87 ⟨Nat.le_of_ble_eq_true rfl, Nat.le_of_ble_eq_true rfl⟩ rfl rfl e84 ?_
      refine aw_irem dX12_goWeek_161 (by first | assumption | (unfold ab_In at *; omega)) (by omega) ?_
      refine aw_ialdq (q := (ab_rem wk (I 84 4)).toNat) (v := I3 88 (ab_rem wk (I 84 4)).toNat) dX12_goWeek_162 ⟨Nat.le_of_ble_eq_true rfl, Nat.le_of_ble_eq_true rfl⟩ rfl (by rw [ab_rem_n (by omega) (by omega) (by omega) (by omega)]; exact Int.emod_nonneg _ (by omega)) (by rw [ab_rem_n (by omega) (by omega) (by omega) (by omega)]; have := Int.emod_lt_of_pos wk (show 0 < I 84 4 by omega); omega) (by decide) rfl rfl ?_
      rw [if_neg c_139] at h9
      rw [e88, ab_rem_n (by omega) (by omega) (by omega) (by omega)]
      exact h9
    · refine aw_iconst dX12_goWeek_142 ?_
      refine aw_goto (tgt := 163) dX12_goWeek_143 rfl ?_
      rw [if_pos c_139] at h9
      exact h9
  have s60 : ∀ (I3 : Nat → Nat → Int), RE I L.length W oo I3 → aW G YX12_goWeek (ab_rm 3 0 0) Z 0 0 (104, I3, F) 60 [some (ab_r 84), none, none, none, none] [] := by
    intro I3 hE
    have loop : ∀ (d p : Nat) (K : List P5) (I4 : Nat → Nat → Int), p + d = L.length → RC I3 p K I4 → aW G YX12_goWeek (ab_rm 3 0 0) Z 0 0 (104, I4, F) 64 [some (ab_r 84), none, some (ab_i (K.length : Int)), some (ab_i (p : Int)), none] [] := by
      intro d
      induction d with
      | zero =>
        intro p K I4 hp hC4
        have hpL : p = L.length := by omega
        subst hpL
        have h84 : I4 89 84 = (L.length : Int) := (hC4.2.2.2.2.1 84 (by decide)).trans hE.1.1
        have h9 := hC4.end hE hL12
        refine aw_iload_n dX12_goWeek_64 rfl ?_
        refine aw_aload_n dX12_goWeek_65 rfl (by decide) ?_
        refine aw_getrv (r := 89) dX12_goWeek_66 fX12_22 ⟨Nat.le_of_ble_eq_true rfl, Nat.le_of_ble_eq_true rfl⟩ rfl rfl (hF.at 84 6 89 rfl rfl rfl) ?_
        refine aw_bipush dX12_goWeek_69 rfl ?_
        refine aw_ialdq (q := 84) (v := (L.length : Int)) dX12_goWeek_71 ⟨Nat.le_of_ble_eq_true rfl, Nat.le_of_ble_eq_true rfl⟩ rfl (by omega) (by omega) (by decide) rfl h84 ?_
        refine aw_icmp_ge (tgt := 127) dX12_goWeek_72 rfl (by first | assumption | (unfold ab_In at *; omega)) (by first | assumption | (unfold ab_In at *; omega)) (fun c_72 => ?_) (fun c_72 => ?_)
        · refine aw_aload_n dX12_goWeek_127 rfl (by decide) ?_
          refine aw_getrv (r := 89) dX12_goWeek_128 fX12_22 ⟨Nat.le_of_ble_eq_true rfl, Nat.le_of_ble_eq_true rfl⟩ rfl rfl (hF.at 84 6 89 rfl rfl rfl) ?_
          refine aw_bipush dX12_goWeek_131 rfl ?_
          refine aw_iload_n dX12_goWeek_133 rfl ?_
          refine aw_iastv (q := 84) dX12_goWeek_134 ⟨Nat.le_of_ble_eq_true rfl, Nat.le_of_ble_eq_true rfl⟩ rfl (by omega) (by omega) (by decide) rfl ?_
          rw [hC.2.1.2.1] at h9
          exact aw_le (ls' := [some (ab_r 84), none, some (ab_i (K.length : Int)), none, none]) (ab_le_c (ab_le_n (ab_le_c (ab_le_n (ab_le_n ab_le_nil))))) (s135 _ K h9.1 h9.2.1 h9.2.2)
        · exfalso; omega
      | succ d ih =>
        intro p K I4 hp hC4
        have h84 : I4 89 84 = (L.length : Int) := (hC4.2.2.2.2.1 84 (by decide)).trans hE.1.1
        have hpL : p < L.length := by omega
        have hKp := hC4.2.1
        have e92 : I4 92 p = I3 92 p := hC4.2.2.2.2.2 92 p (by decide)
        have hbit := hE.2.2.2.2.1 p (by omega)
        refine aw_iload_n dX12_goWeek_64 rfl ?_
        refine aw_aload_n dX12_goWeek_65 rfl (by decide) ?_
        refine aw_getrv (r := 89) dX12_goWeek_66 fX12_22 ⟨Nat.le_of_ble_eq_true rfl, Nat.le_of_ble_eq_true rfl⟩ rfl rfl (hF.at 84 6 89 rfl rfl rfl) ?_
        refine aw_bipush dX12_goWeek_69 rfl ?_
        refine aw_ialdq (q := 84) (v := (L.length : Int)) dX12_goWeek_71 ⟨Nat.le_of_ble_eq_true rfl, Nat.le_of_ble_eq_true rfl⟩ rfl (by omega) (by omega) (by decide) rfl h84 ?_
        refine aw_icmp_ge (tgt := 127) dX12_goWeek_72 rfl (by first | assumption | (unfold ab_In at *; omega)) (by first | assumption | (unfold ab_In at *; omega)) (fun c_72 => ?_) (fun c_72 => ?_)
        · exfalso; omega
        · refine aw_aload_n dX12_goWeek_75 rfl (by decide) ?_
          refine aw_getrv (r := 92) dX12_goWeek_76 fX12_31 ⟨Nat.le_of_ble_eq_true rfl, Nat.le_of_ble_eq_true rfl⟩ rfl rfl (hF.at 84 9 92 rfl rfl rfl) ?_
          refine aw_iload_n dX12_goWeek_79 rfl ?_
          refine aw_zaldq (q := p) (v := (I3 92 p)) dX12_goWeek_80 ⟨Nat.le_of_ble_eq_true rfl, Nat.le_of_ble_eq_true rfl⟩ rfl (by omega) (by omega) (by decide) rfl e92 ?_
          refine aw_if_ne (tgt := 121) dX12_goWeek_81 rfl (by first | assumption | (unfold ab_In at *; omega)) (fun c_81 => ?_) (fun c_81 => ?_)
          · refine aw_iinc (ls' := [some (ab_r 84), none, some (ab_i (K.length : Int)), some (ab_i ((p : Int) + 1)), none]) dX12_goWeek_121 (by decide) rfl rfl ?_
            refine aw_goto (tgt := 64) dX12_goWeek_124 rfl ?_
            have h9 := RC_off hC4 c_81
            have ih9 := ih (p + 1) K _ (by omega) h9
            exact ih9
          · refine aw_iconst dX12_goWeek_84 ?_
            refine aw_istore (ls' := [some (ab_r 84), none, some (ab_i (K.length : Int)), some (ab_i (p : Int)), some (ab_i 0)]) dX12_goWeek_85 (by decide) rfl ?_
            refine aw_iload dX12_goWeek_87 rfl ?_
            refine aw_bipush dX12_goWeek_89 rfl ?_
            refine aw_icmp_ge (tgt := 118) dX12_goWeek_91 rfl ⟨by decide, by decide⟩ ⟨by decide, by decide⟩ (fun c9 => absurd c9 (by decide)) (fun _ => ?_)
            refine aw_aload_n dX12_goWeek_94 rfl (by decide) ?_
            refine aw_getrv (r := 89) dX12_goWeek_95 fX12_22 ⟨Nat.le_of_ble_eq_true rfl, Nat.le_of_ble_eq_true rfl⟩ rfl rfl (hF.at 84 6 89 rfl rfl rfl) ?_
            refine aw_iload dX12_goWeek_98 rfl ?_
            refine aw_iload_n dX12_goWeek_100 rfl ?_
            refine aw_iadd dX12_goWeek_101 ?_
            refine aw_aload_n dX12_goWeek_102 rfl (by decide) ?_
            refine aw_getrv (r := 89) dX12_goWeek_103 fX12_22 ⟨Nat.le_of_ble_eq_true rfl, Nat.le_of_ble_eq_true rfl⟩ rfl rfl (hF.at 84 6 89 rfl rfl rfl) ?_
            refine aw_iload dX12_goWeek_106 rfl ?_
            refine aw_iload_n dX12_goWeek_108 rfl ?_
            refine aw_iadd dX12_goWeek_109 ?_
            refine aw_ialdq (q := p) (v := I4 89 p) dX12_goWeek_110 ⟨Nat.le_of_ble_eq_true rfl, Nat.le_of_ble_eq_true rfl⟩ rfl (by omega) (by omega) (by decide) (by omega) rfl ?_
            refine aw_iastv (q := K.length) dX12_goWeek_111 ⟨Nat.le_of_ble_eq_true rfl, Nat.le_of_ble_eq_true rfl⟩ rfl (by omega) (by omega) (by decide) (by omega) ?_
            refine aw_iinc (ls' := [some (ab_r 84), none, some (ab_i (K.length : Int)), some (ab_i (p : Int)), some (ab_i 12)]) dX12_goWeek_112 (by decide) rfl rfl ?_
            refine aw_goto (tgt := 87) dX12_goWeek_115 rfl ?_
            refine aw_iload dX12_goWeek_87 rfl ?_
            refine aw_bipush dX12_goWeek_89 rfl ?_
            refine aw_icmp_ge (tgt := 118) dX12_goWeek_91 rfl ⟨by decide, by decide⟩ ⟨by decide, by decide⟩ (fun c9 => absurd c9 (by decide)) (fun _ => ?_)
            refine aw_aload_n dX12_goWeek_94 rfl (by decide) ?_
            refine aw_getrv (r := 89) dX12_goWeek_95 fX12_22 ⟨Nat.le_of_ble_eq_true rfl, Nat.le_of_ble_eq_true rfl⟩ rfl rfl (hF.at 84 6 89 rfl rfl rfl) ?_
            refine aw_iload dX12_goWeek_98 rfl ?_
            refine aw_iload_n dX12_goWeek_100 rfl ?_
            refine aw_iadd dX12_goWeek_101 ?_
            refine aw_aload_n dX12_goWeek_102 rfl (by decide) ?_
            refine aw_getrv (r := 89) dX12_goWeek_103 fX12_22 ⟨Nat.le_of_ble_eq_true rfl, Nat.le_of_ble_eq_true rfl⟩ rfl rfl (hF.at 84 6 89 rfl rfl rfl) ?_
            refine aw_iload dX12_goWeek_106 rfl ?_
            refine aw_iload_n dX12_goWeek_108 rfl ?_
            refine aw_iadd dX12_goWeek_109 ?_
            refine aw_ialdq (q := (12 + p)) (v := I4 89 (12 + p)) dX12_goWeek_110 ⟨Nat.le_of_ble_eq_true rfl, Nat.le_of_ble_eq_true rfl⟩ rfl (by omega) (by omega) (by decide) (by omega) (ab_u_j (by omega)) ?_
            refine aw_iastv (q := (12 + K.length)) dX12_goWeek_111 ⟨Nat.le_of_ble_eq_true rfl, Nat.le_of_ble_eq_true rfl⟩ rfl (by omega) (by omega) (by decide) (by omega) ?_
            refine aw_iinc (ls' := [some (ab_r 84), none, some (ab_i (K.length : Int)), some (ab_i (p : Int)), some (ab_i 24)]) dX12_goWeek_112 (by decide) rfl rfl ?_
            refine aw_goto (tgt := 87) dX12_goWeek_115 rfl ?_
            refine aw_iload dX12_goWeek_87 rfl ?_
            refine aw_bipush dX12_goWeek_89 rfl ?_
            refine aw_icmp_ge (tgt := 118) dX12_goWeek_91 rfl ⟨by decide, by decide⟩ ⟨by decide, by decide⟩ (fun c9 => absurd c9 (by decide)) (fun _ => ?_)
            refine aw_aload_n dX12_goWeek_94 rfl (by decide) ?_
            refine aw_getrv (r := 89) dX12_goWeek_95 fX12_22 ⟨Nat.le_of_ble_eq_true rfl, Nat.le_of_ble_eq_true rfl⟩ rfl rfl (hF.at 84 6 89 rfl rfl rfl) ?_
            refine aw_iload dX12_goWeek_98 rfl ?_
            refine aw_iload_n dX12_goWeek_100 rfl ?_
            refine aw_iadd dX12_goWeek_101 ?_
            refine aw_aload_n dX12_goWeek_102 rfl (by decide) ?_
            refine aw_getrv (r := 89) dX12_goWeek_103 fX12_22 ⟨Nat.le_of_ble_eq_true rfl, Nat.le_of_ble_eq_true rfl⟩ rfl rfl (hF.at 84 6 89 rfl rfl rfl) ?_
            refine aw_iload dX12_goWeek_106 rfl ?_
            refine aw_iload_n dX12_goWeek_108 rfl ?_
            refine aw_iadd dX12_goWeek_109 ?_
            refine aw_ialdq (q := (24 + p)) (v := I4 89 (24 + p)) dX12_goWeek_110 ⟨Nat.le_of_ble_eq_true rfl, Nat.le_of_ble_eq_true rfl⟩ rfl (by omega) (by omega) (by decide) (by omega) ((ab_u_j (by omega)).trans (ab_u_j (by omega))) ?_
            refine aw_iastv (q := (24 + K.length)) dX12_goWeek_111 ⟨Nat.le_of_ble_eq_true rfl, Nat.le_of_ble_eq_true rfl⟩ rfl (by omega) (by omega) (by decide) (by omega) ?_
            refine aw_iinc (ls' := [some (ab_r 84), none, some (ab_i (K.length : Int)), some (ab_i (p : Int)), some (ab_i 36)]) dX12_goWeek_112 (by decide) rfl rfl ?_
            refine aw_goto (tgt := 87) dX12_goWeek_115 rfl ?_
            refine aw_iload dX12_goWeek_87 rfl ?_
            refine aw_bipush dX12_goWeek_89 rfl ?_
            refine aw_icmp_ge (tgt := 118) dX12_goWeek_91 rfl ⟨by decide, by decide⟩ ⟨by decide, by decide⟩ (fun c9 => absurd c9 (by decide)) (fun _ => ?_)
            refine aw_aload_n dX12_goWeek_94 rfl (by decide) ?_
            refine aw_getrv (r := 89) dX12_goWeek_95 fX12_22 ⟨Nat.le_of_ble_eq_true rfl, Nat.le_of_ble_eq_true rfl⟩ rfl rfl (hF.at 84 6 89 rfl rfl rfl) ?_
            refine aw_iload dX12_goWeek_98 rfl ?_
            refine aw_iload_n dX12_goWeek_100 rfl ?_
            refine aw_iadd dX12_goWeek_101 ?_
            refine aw_aload_n dX12_goWeek_102 rfl (by decide) ?_
            refine aw_getrv (r := 89) dX12_goWeek_103 fX12_22 ⟨Nat.le_of_ble_eq_true rfl, Nat.le_of_ble_eq_true rfl⟩ rfl rfl (hF.at 84 6 89 rfl rfl rfl) ?_
            refine aw_iload dX12_goWeek_106 rfl ?_
            refine aw_iload_n dX12_goWeek_108 rfl ?_
            refine aw_iadd dX12_goWeek_109 ?_
            refine aw_ialdq (q := (36 + p)) (v := I4 89 (36 + p)) dX12_goWeek_110 ⟨Nat.le_of_ble_eq_true rfl, Nat.le_of_ble_eq_true rfl⟩ rfl (by omega) (by omega) (by decide) (by omega) (((ab_u_j (by omega)).trans (ab_u_j (by omega))).trans (ab_u_j (by omega))) ?_
            refine aw_iastv (q := (36 + K.length)) dX12_goWeek_111 ⟨Nat.le_of_ble_eq_true rfl, Nat.le_of_ble_eq_true rfl⟩ rfl (by omega) (by omega) (by decide) (by omega) ?_
            refine aw_iinc (ls' := [some (ab_r 84), none, some (ab_i (K.length : Int)), some (ab_i (p : Int)), some (ab_i 48)]) dX12_goWeek_112 (by decide) rfl rfl ?_
            refine aw_goto (tgt := 87) dX12_goWeek_115 rfl ?_
            refine aw_iload dX12_goWeek_87 rfl ?_
            refine aw_bipush dX12_goWeek_89 rfl ?_
            refine aw_icmp_ge (tgt := 118) dX12_goWeek_91 rfl ⟨by decide, by decide⟩ ⟨by decide, by decide⟩ (fun c9 => absurd c9 (by decide)) (fun _ => ?_)
            refine aw_aload_n dX12_goWeek_94 rfl (by decide) ?_
            refine aw_getrv (r := 89) dX12_goWeek_95 fX12_22 ⟨Nat.le_of_ble_eq_true rfl, Nat.le_of_ble_eq_true rfl⟩ rfl rfl (hF.at 84 6 89 rfl rfl rfl) ?_
            refine aw_iload dX12_goWeek_98 rfl ?_
            refine aw_iload_n dX12_goWeek_100 rfl ?_
            refine aw_iadd dX12_goWeek_101 ?_
            refine aw_aload_n dX12_goWeek_102 rfl (by decide) ?_
            refine aw_getrv (r := 89) dX12_goWeek_103 fX12_22 ⟨Nat.le_of_ble_eq_true rfl, Nat.le_of_ble_eq_true rfl⟩ rfl rfl (hF.at 84 6 89 rfl rfl rfl) ?_
            refine aw_iload dX12_goWeek_106 rfl ?_
            refine aw_iload_n dX12_goWeek_108 rfl ?_
            refine aw_iadd dX12_goWeek_109 ?_
            refine aw_ialdq (q := (48 + p)) (v := I4 89 (48 + p)) dX12_goWeek_110 ⟨Nat.le_of_ble_eq_true rfl, Nat.le_of_ble_eq_true rfl⟩ rfl (by omega) (by omega) (by decide) (by omega) ((((ab_u_j (by omega)).trans (ab_u_j (by omega))).trans (ab_u_j (by omega))).trans (ab_u_j (by omega))) ?_
            refine aw_iastv (q := (48 + K.length)) dX12_goWeek_111 ⟨Nat.le_of_ble_eq_true rfl, Nat.le_of_ble_eq_true rfl⟩ rfl (by omega) (by omega) (by decide) (by omega) ?_
            refine aw_iinc (ls' := [some (ab_r 84), none, some (ab_i (K.length : Int)), some (ab_i (p : Int)), some (ab_i 60)]) dX12_goWeek_112 (by decide) rfl rfl ?_
            refine aw_goto (tgt := 87) dX12_goWeek_115 rfl ?_
            refine aw_iload dX12_goWeek_87 rfl ?_
            refine aw_bipush dX12_goWeek_89 rfl ?_
            refine aw_icmp_ge (tgt := 118) dX12_goWeek_91 rfl ⟨by decide, by decide⟩ ⟨by decide, by decide⟩ (fun _ => ?_) (fun c9 => absurd (by decide) c9)
            refine aw_iinc (ls' := [some (ab_r 84), none, some (ab_i ((K.length : Int) + 1)), some (ab_i (p : Int)), some (ab_i 60)]) dX12_goWeek_118 (by decide) rfl rfl ?_
            refine aw_iinc (ls' := [some (ab_r 84), none, some (ab_i ((K.length : Int) + 1)), some (ab_i ((p : Int) + 1)), some (ab_i 60)]) dX12_goWeek_121 (by decide) rfl rfl ?_
            refine aw_goto (tgt := 64) dX12_goWeek_124 rfl ?_
            have h9 := RC_on hC4 (by omega) (by omega)
            have ih9 := ih (p + 1) _ _ (by omega) h9
            rw [List.length_append, List.length_singleton] at ih9
            refine aw_le (ls' := [some (ab_r 84), none, some (ab_i ((K.length : Int) + 1)), some (ab_i ((p : Int) + 1)), none]) (ab_le_c (ab_le_c (ab_le_c (ab_le_c (ab_le_n ab_le_nil))))) ih9
    refine aw_iconst dX12_goWeek_60 ?_
    refine aw_istore_n (ls' := [some (ab_r 84), none, some (ab_i 0), none, none]) dX12_goWeek_61 (by decide) rfl ?_
    refine aw_iconst dX12_goWeek_62 ?_
    refine aw_istore_n (ls' := [some (ab_r 84), none, some (ab_i 0), some (ab_i 0), none]) dX12_goWeek_63 (by decide) rfl ?_
    exact loop L.length 0 [] I3 (by omega) ⟨rfl, Nat.le_refl _, fun i hi => by simp at hi, fun _ _ _ => rfl, fun _ _ => rfl, fun _ _ _ => rfl⟩
  have s49 : ∀ (I1 : Nat → Nat → Int), (∀ p, p < 12 → I1 92 p = 0) → (∀ i b, i ≠ 92 → I1 i b = I i b) → aW G YX12_goWeek (ab_rm 3 0 0) Z 0 0 (104, I1, F) 49 [some (ab_r 84), none, none, none, none] [ab_i kd] := by
    intro I1 hz hfr
    have e89 : I1 89 = I 89 := funext fun b => hfr 89 b (by decide)
    have hfr2 : ∀ i b, i ≠ 89 → i ≠ 91 → i ≠ 92 → I1 i b = I i b := fun i b _ _ h3 => hfr i b h3
    by_cases hk1 : kd = -1
    · rw [hk1]
      have hoo : oo = (L, fun _ _ => 0, nx, true) := by rw [← hoe]; unfold ofS; rw [if_pos hk1]
      refine aw_istore_n (ls' := [some (ab_r 84), some (ab_i (-1)), none, none, none]) dX12_goWeek_49 (by decide) rfl ?_
      refine aw_iload_n dX12_goWeek_50 rfl ?_
      refine aw_iconst dX12_goWeek_51 ?_
      refine aw_icmp_eq (tgt := 60) dX12_goWeek_52 rfl ⟨by decide, by decide⟩ ⟨by decide, by decide⟩ (fun _ => ?_) (fun c9 => absurd (by decide) c9)
      refine aw_le (ls' := [some (ab_r 84), none, none, none, none]) (ab_le_c (ab_le_n (ab_le_n (ab_le_n (ab_le_n ab_le_nil))))) (s60 I1 ?_)
      rw [hoo]
      exact RE_none hC hfr hz
    · obtain ⟨kv, hkv⟩ : ∃ kv : Nat, kd = (kv : Int) := ⟨kd.toNat, by omega⟩
      have hk4 : kv < 4 := by omega
      have hLe := hC.tup
      have hLe1 : (List.range L.length).map (rt (I1 89)) = L := by rw [e89]; exact hLe.symm
      have hoo : (srt (ruM I).1 (tnM I).1 L).foldl (of_step (ruM I) (tnM I) kv) ([], fun _ _ => 0, nx, false) = oo := by rw [← hoe]; unfold ofS; rw [if_neg hk1, hkv]; rfl
      have e95 : I1 95 = I 95 := funext fun b => hfr 95 b (by decide)
      rw [hkv]
      refine aw_istore_n (ls' := [some (ab_r 84), some (ab_i (kv : Int)), none, none, none]) dX12_goWeek_49 (by decide) rfl ?_
      refine aw_iload_n dX12_goWeek_50 rfl ?_
      refine aw_iconst dX12_goWeek_51 ?_
      refine aw_icmp_eq (tgt := 60) dX12_goWeek_52 rfl (by first | assumption | (unfold ab_In at *; omega)) (by first | assumption | (unfold ab_In at *; omega)) (fun c_52 => ?_) (fun c_52 => ?_)
      · exfalso; omega
      · refine aw_aload_n dX12_goWeek_55 rfl (by decide) ?_
        refine aw_iload_n dX12_goWeek_56 rfl ?_
        refine aw_callV (as := [ab_i (kv : Int)]) (rest := []) dX12_goWeek_57 (ct_X12_offer G I1 F hF L.length W nx (fun p hp => by rw [e89]; exact hC.2.2.2 _ (List.mem_of_getElem? (hC.2.2.1 p hp))) (by omega) (by omega) hL12 (hT.of hfr2) (hR.of e95) (by rw [e89]; exact hC.2.1.1) (by rw [e89]; exact hC.2.1.2.2) (by omega) (by omega) (by rw [hLe1]; exact hq) hz kv hk4) ⟨Nat.le_of_ble_eq_true rfl, Nat.le_of_ble_eq_true rfl⟩ rfl kc12 rfl kX12_offer iX12_offer eX12_offer lX12_104 rfl (Nat.le_of_ble_eq_true rfl) (by decide) (by decide) (by decide) (by decide) ?_
        rintro _ _ ⟨rfl, I3, rfl, hE⟩
        rw [hLe1, ruM_congr e95, tnM_congr hfr2, congrFun e89 85, hC.2.1.2.2, hoo] at hE
        refine aw_le (ls' := [some (ab_r 84), none, none, none, none]) (ab_le_c (ab_le_n (ab_le_n (ab_le_n (ab_le_n ab_le_nil))))) (s60 I3 ?_)
        exact hE.base hfr
  have s21 : ∀ (I1 : Nat → Nat → Int), (∀ p, p < 12 → I1 92 p = 0) → (∀ i b, i ≠ 92 → I1 i b = I i b) → aW G YX12_goWeek (ab_rm 3 0 0) Z 0 0 (104, I1, F) 21 [some (ab_r 84), none, none, none, none] [] := by
    intro I1 hz hfr
    have h9 := s49 I1 hz hfr
    have e84 : I1 84 2 = I 84 2 := hfr 84 2 (by decide)
    have e87 : I1 87 = I 87 := funext fun b => hfr 87 b (by decide)
    have e86 : I1 89 86 = wk := (hfr 89 86 (by decide)).trans hC.2.1.2.1
    have hrj := hT.2.2.1
    rw [← hke] at h9
    unfold kdM at h9
    refine aw_aload_n dX12_goWeek_21 rfl (by decide) ?_
    refine aw_getiv (v := (I 84 2)) dX12_goWeek_22 fX12_83 ⟨Nat.le_of_ble_eq_true rfl, Nat.le_of_ble_eq_true rfl⟩ rfl rfl e84 ?_
    refine aw_if_ne (tgt := 32) dX12_goWeek_25 rfl (by first | assumption | (unfold ab_In at *; omega)) (fun c_25 => ?_) (fun c_25 => ?_)
    · refine aw_aload_n dX12_goWeek_32 rfl (by decide) ?_
      refine aw_getrv (r := 87) dX12_goWeek_33 fX12_16 ⟨Nat.le_of_ble_eq_true rfl, Nat.le_of_ble_eq_true rfl⟩ rfl rfl (hF.at 84 3 87 rfl rfl rfl) ?_
      refine aw_aload_n dX12_goWeek_36 rfl (by decide) ?_
      refine aw_getrv (r := 89) dX12_goWeek_37 fX12_22 ⟨Nat.le_of_ble_eq_true rfl, Nat.le_of_ble_eq_true rfl⟩ rfl rfl (hF.at 84 6 89 rfl rfl rfl) ?_
      refine aw_bipush dX12_goWeek_40 rfl ?_
      refine aw_ialdq (q := 86) (v := wk) dX12_goWeek_42 ⟨Nat.le_of_ble_eq_true rfl, Nat.le_of_ble_eq_true rfl⟩ rfl (by omega) (by omega) (by decide) rfl e86 ?_
      refine aw_aload_n dX12_goWeek_43 rfl (by decide) ?_
      refine aw_getiv (v := (I 84 2)) dX12_goWeek_44 fX12_83 ⟨Nat.le_of_ble_eq_true rfl, Nat.le_of_ble_eq_true rfl⟩ rfl rfl e84 ?_
      refine aw_irem dX12_goWeek_47 (by first | assumption | (unfold ab_In at *; omega)) (by omega) ?_
      refine aw_ialdq (q := (ab_rem wk (I 84 2)).toNat) (v := I1 87 (ab_rem wk (I 84 2)).toNat) dX12_goWeek_48 ⟨Nat.le_of_ble_eq_true rfl, Nat.le_of_ble_eq_true rfl⟩ rfl (by rw [ab_rem_n (by omega) (by omega) (by omega) (by omega)]; exact Int.emod_nonneg _ (by omega)) (by rw [ab_rem_n (by omega) (by omega) (by omega) (by omega)]; have := Int.emod_lt_of_pos wk (show 0 < I 84 2 by omega); omega) (by decide) rfl rfl ?_
      rw [if_neg c_25] at h9
      rw [e87, ab_rem_n (by omega) (by omega) (by omega) (by omega)]
      exact h9
    · refine aw_iconst dX12_goWeek_28 ?_
      refine aw_goto (tgt := 49) dX12_goWeek_29 rfl ?_
      rw [if_pos c_25] at h9
      exact h9
  refine aw_iconst dX12_goWeek_0 ?_
  refine aw_istore_n (ls' := [some (ab_r 84), some (ab_i 0), none, none, none]) dX12_goWeek_1 (by decide) rfl ?_
  refine aw_iload_n dX12_goWeek_2 rfl ?_
  refine aw_bipush dX12_goWeek_3 rfl ?_
  refine aw_icmp_ge (tgt := 21) dX12_goWeek_5 rfl ⟨by decide, by decide⟩ ⟨by decide, by decide⟩ (fun c9 => absurd c9 (by decide)) (fun _ => ?_)
  refine aw_aload_n dX12_goWeek_8 rfl (by decide) ?_
  refine aw_getrv (r := 92) dX12_goWeek_9 fX12_31 ⟨Nat.le_of_ble_eq_true rfl, Nat.le_of_ble_eq_true rfl⟩ rfl rfl (hF.at 84 9 92 rfl rfl rfl) ?_
  refine aw_iload_n dX12_goWeek_12 rfl ?_
  refine aw_iconst dX12_goWeek_13 ?_
  refine aw_zastv (q := 0) dX12_goWeek_14 ⟨Nat.le_of_ble_eq_true rfl, Nat.le_of_ble_eq_true rfl⟩ rfl (by omega) (by omega) (by decide) (Or.inl rfl) rfl ?_
  refine aw_iinc (ls' := [some (ab_r 84), some (ab_i 1), none, none, none]) dX12_goWeek_15 (by decide) rfl rfl ?_
  refine aw_goto (tgt := 2) dX12_goWeek_18 rfl ?_
  refine aw_iload_n dX12_goWeek_2 rfl ?_
  refine aw_bipush dX12_goWeek_3 rfl ?_
  refine aw_icmp_ge (tgt := 21) dX12_goWeek_5 rfl ⟨by decide, by decide⟩ ⟨by decide, by decide⟩ (fun c9 => absurd c9 (by decide)) (fun _ => ?_)
  refine aw_aload_n dX12_goWeek_8 rfl (by decide) ?_
  refine aw_getrv (r := 92) dX12_goWeek_9 fX12_31 ⟨Nat.le_of_ble_eq_true rfl, Nat.le_of_ble_eq_true rfl⟩ rfl rfl (hF.at 84 9 92 rfl rfl rfl) ?_
  refine aw_iload_n dX12_goWeek_12 rfl ?_
  refine aw_iconst dX12_goWeek_13 ?_
  refine aw_zastv (q := 1) dX12_goWeek_14 ⟨Nat.le_of_ble_eq_true rfl, Nat.le_of_ble_eq_true rfl⟩ rfl (by omega) (by omega) (by decide) (Or.inl rfl) rfl ?_
  refine aw_iinc (ls' := [some (ab_r 84), some (ab_i 2), none, none, none]) dX12_goWeek_15 (by decide) rfl rfl ?_
  refine aw_goto (tgt := 2) dX12_goWeek_18 rfl ?_
  refine aw_iload_n dX12_goWeek_2 rfl ?_
  refine aw_bipush dX12_goWeek_3 rfl ?_
  refine aw_icmp_ge (tgt := 21) dX12_goWeek_5 rfl ⟨by decide, by decide⟩ ⟨by decide, by decide⟩ (fun c9 => absurd c9 (by decide)) (fun _ => ?_)
  refine aw_aload_n dX12_goWeek_8 rfl (by decide) ?_
  refine aw_getrv (r := 92) dX12_goWeek_9 fX12_31 ⟨Nat.le_of_ble_eq_true rfl, Nat.le_of_ble_eq_true rfl⟩ rfl rfl (hF.at 84 9 92 rfl rfl rfl) ?_
  refine aw_iload_n dX12_goWeek_12 rfl ?_
  refine aw_iconst dX12_goWeek_13 ?_
  refine aw_zastv (q := 2) dX12_goWeek_14 ⟨Nat.le_of_ble_eq_true rfl, Nat.le_of_ble_eq_true rfl⟩ rfl (by omega) (by omega) (by decide) (Or.inl rfl) rfl ?_
  refine aw_iinc (ls' := [some (ab_r 84), some (ab_i 3), none, none, none]) dX12_goWeek_15 (by decide) rfl rfl ?_
  refine aw_goto (tgt := 2) dX12_goWeek_18 rfl ?_
  refine aw_iload_n dX12_goWeek_2 rfl ?_
  refine aw_bipush dX12_goWeek_3 rfl ?_
  refine aw_icmp_ge (tgt := 21) dX12_goWeek_5 rfl ⟨by decide, by decide⟩ ⟨by decide, by decide⟩ (fun c9 => absurd c9 (by decide)) (fun _ => ?_)
  refine aw_aload_n dX12_goWeek_8 rfl (by decide) ?_
  refine aw_getrv (r := 92) dX12_goWeek_9 fX12_31 ⟨Nat.le_of_ble_eq_true rfl, Nat.le_of_ble_eq_true rfl⟩ rfl rfl (hF.at 84 9 92 rfl rfl rfl) ?_
  refine aw_iload_n dX12_goWeek_12 rfl ?_
  refine aw_iconst dX12_goWeek_13 ?_
  refine aw_zastv (q := 3) dX12_goWeek_14 ⟨Nat.le_of_ble_eq_true rfl, Nat.le_of_ble_eq_true rfl⟩ rfl (by omega) (by omega) (by decide) (Or.inl rfl) rfl ?_
  refine aw_iinc (ls' := [some (ab_r 84), some (ab_i 4), none, none, none]) dX12_goWeek_15 (by decide) rfl rfl ?_
  refine aw_goto (tgt := 2) dX12_goWeek_18 rfl ?_
  refine aw_iload_n dX12_goWeek_2 rfl ?_
  refine aw_bipush dX12_goWeek_3 rfl ?_
  refine aw_icmp_ge (tgt := 21) dX12_goWeek_5 rfl ⟨by decide, by decide⟩ ⟨by decide, by decide⟩ (fun c9 => absurd c9 (by decide)) (fun _ => ?_)
  refine aw_aload_n dX12_goWeek_8 rfl (by decide) ?_
  refine aw_getrv (r := 92) dX12_goWeek_9 fX12_31 ⟨Nat.le_of_ble_eq_true rfl, Nat.le_of_ble_eq_true rfl⟩ rfl rfl (hF.at 84 9 92 rfl rfl rfl) ?_
  refine aw_iload_n dX12_goWeek_12 rfl ?_
  refine aw_iconst dX12_goWeek_13 ?_
  refine aw_zastv (q := 4) dX12_goWeek_14 ⟨Nat.le_of_ble_eq_true rfl, Nat.le_of_ble_eq_true rfl⟩ rfl (by omega) (by omega) (by decide) (Or.inl rfl) rfl ?_
  refine aw_iinc (ls' := [some (ab_r 84), some (ab_i 5), none, none, none]) dX12_goWeek_15 (by decide) rfl rfl ?_
  refine aw_goto (tgt := 2) dX12_goWeek_18 rfl ?_
  refine aw_iload_n dX12_goWeek_2 rfl ?_
  refine aw_bipush dX12_goWeek_3 rfl ?_
  refine aw_icmp_ge (tgt := 21) dX12_goWeek_5 rfl ⟨by decide, by decide⟩ ⟨by decide, by decide⟩ (fun c9 => absurd c9 (by decide)) (fun _ => ?_)
  refine aw_aload_n dX12_goWeek_8 rfl (by decide) ?_
  refine aw_getrv (r := 92) dX12_goWeek_9 fX12_31 ⟨Nat.le_of_ble_eq_true rfl, Nat.le_of_ble_eq_true rfl⟩ rfl rfl (hF.at 84 9 92 rfl rfl rfl) ?_
  refine aw_iload_n dX12_goWeek_12 rfl ?_
  refine aw_iconst dX12_goWeek_13 ?_
  refine aw_zastv (q := 5) dX12_goWeek_14 ⟨Nat.le_of_ble_eq_true rfl, Nat.le_of_ble_eq_true rfl⟩ rfl (by omega) (by omega) (by decide) (Or.inl rfl) rfl ?_
  refine aw_iinc (ls' := [some (ab_r 84), some (ab_i 6), none, none, none]) dX12_goWeek_15 (by decide) rfl rfl ?_
  refine aw_goto (tgt := 2) dX12_goWeek_18 rfl ?_
  refine aw_iload_n dX12_goWeek_2 rfl ?_
  refine aw_bipush dX12_goWeek_3 rfl ?_
  refine aw_icmp_ge (tgt := 21) dX12_goWeek_5 rfl ⟨by decide, by decide⟩ ⟨by decide, by decide⟩ (fun c9 => absurd c9 (by decide)) (fun _ => ?_)
  refine aw_aload_n dX12_goWeek_8 rfl (by decide) ?_
  refine aw_getrv (r := 92) dX12_goWeek_9 fX12_31 ⟨Nat.le_of_ble_eq_true rfl, Nat.le_of_ble_eq_true rfl⟩ rfl rfl (hF.at 84 9 92 rfl rfl rfl) ?_
  refine aw_iload_n dX12_goWeek_12 rfl ?_
  refine aw_iconst dX12_goWeek_13 ?_
  refine aw_zastv (q := 6) dX12_goWeek_14 ⟨Nat.le_of_ble_eq_true rfl, Nat.le_of_ble_eq_true rfl⟩ rfl (by omega) (by omega) (by decide) (Or.inl rfl) rfl ?_
  refine aw_iinc (ls' := [some (ab_r 84), some (ab_i 7), none, none, none]) dX12_goWeek_15 (by decide) rfl rfl ?_
  refine aw_goto (tgt := 2) dX12_goWeek_18 rfl ?_
  refine aw_iload_n dX12_goWeek_2 rfl ?_
  refine aw_bipush dX12_goWeek_3 rfl ?_
  refine aw_icmp_ge (tgt := 21) dX12_goWeek_5 rfl ⟨by decide, by decide⟩ ⟨by decide, by decide⟩ (fun c9 => absurd c9 (by decide)) (fun _ => ?_)
  refine aw_aload_n dX12_goWeek_8 rfl (by decide) ?_
  refine aw_getrv (r := 92) dX12_goWeek_9 fX12_31 ⟨Nat.le_of_ble_eq_true rfl, Nat.le_of_ble_eq_true rfl⟩ rfl rfl (hF.at 84 9 92 rfl rfl rfl) ?_
  refine aw_iload_n dX12_goWeek_12 rfl ?_
  refine aw_iconst dX12_goWeek_13 ?_
  refine aw_zastv (q := 7) dX12_goWeek_14 ⟨Nat.le_of_ble_eq_true rfl, Nat.le_of_ble_eq_true rfl⟩ rfl (by omega) (by omega) (by decide) (Or.inl rfl) rfl ?_
  refine aw_iinc (ls' := [some (ab_r 84), some (ab_i 8), none, none, none]) dX12_goWeek_15 (by decide) rfl rfl ?_
  refine aw_goto (tgt := 2) dX12_goWeek_18 rfl ?_
  refine aw_iload_n dX12_goWeek_2 rfl ?_
  refine aw_bipush dX12_goWeek_3 rfl ?_
  refine aw_icmp_ge (tgt := 21) dX12_goWeek_5 rfl ⟨by decide, by decide⟩ ⟨by decide, by decide⟩ (fun c9 => absurd c9 (by decide)) (fun _ => ?_)
  refine aw_aload_n dX12_goWeek_8 rfl (by decide) ?_
  refine aw_getrv (r := 92) dX12_goWeek_9 fX12_31 ⟨Nat.le_of_ble_eq_true rfl, Nat.le_of_ble_eq_true rfl⟩ rfl rfl (hF.at 84 9 92 rfl rfl rfl) ?_
  refine aw_iload_n dX12_goWeek_12 rfl ?_
  refine aw_iconst dX12_goWeek_13 ?_
  refine aw_zastv (q := 8) dX12_goWeek_14 ⟨Nat.le_of_ble_eq_true rfl, Nat.le_of_ble_eq_true rfl⟩ rfl (by omega) (by omega) (by decide) (Or.inl rfl) rfl ?_
  refine aw_iinc (ls' := [some (ab_r 84), some (ab_i 9), none, none, none]) dX12_goWeek_15 (by decide) rfl rfl ?_
  refine aw_goto (tgt := 2) dX12_goWeek_18 rfl ?_
  refine aw_iload_n dX12_goWeek_2 rfl ?_
  refine aw_bipush dX12_goWeek_3 rfl ?_
  refine aw_icmp_ge (tgt := 21) dX12_goWeek_5 rfl ⟨by decide, by decide⟩ ⟨by decide, by decide⟩ (fun c9 => absurd c9 (by decide)) (fun _ => ?_)
  refine aw_aload_n dX12_goWeek_8 rfl (by decide) ?_
  refine aw_getrv (r := 92) dX12_goWeek_9 fX12_31 ⟨Nat.le_of_ble_eq_true rfl, Nat.le_of_ble_eq_true rfl⟩ rfl rfl (hF.at 84 9 92 rfl rfl rfl) ?_
  refine aw_iload_n dX12_goWeek_12 rfl ?_
  refine aw_iconst dX12_goWeek_13 ?_
  refine aw_zastv (q := 9) dX12_goWeek_14 ⟨Nat.le_of_ble_eq_true rfl, Nat.le_of_ble_eq_true rfl⟩ rfl (by omega) (by omega) (by decide) (Or.inl rfl) rfl ?_
  refine aw_iinc (ls' := [some (ab_r 84), some (ab_i 10), none, none, none]) dX12_goWeek_15 (by decide) rfl rfl ?_
  refine aw_goto (tgt := 2) dX12_goWeek_18 rfl ?_
  refine aw_iload_n dX12_goWeek_2 rfl ?_
  refine aw_bipush dX12_goWeek_3 rfl ?_
  refine aw_icmp_ge (tgt := 21) dX12_goWeek_5 rfl ⟨by decide, by decide⟩ ⟨by decide, by decide⟩ (fun c9 => absurd c9 (by decide)) (fun _ => ?_)
  refine aw_aload_n dX12_goWeek_8 rfl (by decide) ?_
  refine aw_getrv (r := 92) dX12_goWeek_9 fX12_31 ⟨Nat.le_of_ble_eq_true rfl, Nat.le_of_ble_eq_true rfl⟩ rfl rfl (hF.at 84 9 92 rfl rfl rfl) ?_
  refine aw_iload_n dX12_goWeek_12 rfl ?_
  refine aw_iconst dX12_goWeek_13 ?_
  refine aw_zastv (q := 10) dX12_goWeek_14 ⟨Nat.le_of_ble_eq_true rfl, Nat.le_of_ble_eq_true rfl⟩ rfl (by omega) (by omega) (by decide) (Or.inl rfl) rfl ?_
  refine aw_iinc (ls' := [some (ab_r 84), some (ab_i 11), none, none, none]) dX12_goWeek_15 (by decide) rfl rfl ?_
  refine aw_goto (tgt := 2) dX12_goWeek_18 rfl ?_
  refine aw_iload_n dX12_goWeek_2 rfl ?_
  refine aw_bipush dX12_goWeek_3 rfl ?_
  refine aw_icmp_ge (tgt := 21) dX12_goWeek_5 rfl ⟨by decide, by decide⟩ ⟨by decide, by decide⟩ (fun c9 => absurd c9 (by decide)) (fun _ => ?_)
  refine aw_aload_n dX12_goWeek_8 rfl (by decide) ?_
  refine aw_getrv (r := 92) dX12_goWeek_9 fX12_31 ⟨Nat.le_of_ble_eq_true rfl, Nat.le_of_ble_eq_true rfl⟩ rfl rfl (hF.at 84 9 92 rfl rfl rfl) ?_
  refine aw_iload_n dX12_goWeek_12 rfl ?_
  refine aw_iconst dX12_goWeek_13 ?_
  refine aw_zastv (q := 11) dX12_goWeek_14 ⟨Nat.le_of_ble_eq_true rfl, Nat.le_of_ble_eq_true rfl⟩ rfl (by omega) (by omega) (by decide) (Or.inl rfl) rfl ?_
  refine aw_iinc (ls' := [some (ab_r 84), some (ab_i 12), none, none, none]) dX12_goWeek_15 (by decide) rfl rfl ?_
  refine aw_goto (tgt := 2) dX12_goWeek_18 rfl ?_
  refine aw_iload_n dX12_goWeek_2 rfl ?_
  refine aw_bipush dX12_goWeek_3 rfl ?_
  refine aw_icmp_ge (tgt := 21) dX12_goWeek_5 rfl ⟨by decide, by decide⟩ ⟨by decide, by decide⟩ (fun _ => ?_) (fun c9 => absurd (by decide) c9)
  refine aw_le (ls' := [some (ab_r 84), none, none, none, none]) (ab_le_c (ab_le_n (ab_le_n (ab_le_n (ab_le_n ab_le_nil))))) (s21 _ ?_ ?_)
  · exact z12
  · intro i b hi; rw [ab_u_i hi, ab_u_i hi, ab_u_i hi, ab_u_i hi, ab_u_i hi, ab_u_i hi, ab_u_i hi, ab_u_i hi, ab_u_i hi, ab_u_i hi, ab_u_i hi, ab_u_i hi]
