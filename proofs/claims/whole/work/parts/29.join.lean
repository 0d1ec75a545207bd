theorem of_len {ru : Ru} {tn : Tn} {k : Nat} : ∀ (M : List P5) (o : OS), (M.foldl (of_step ru tn k) o).1.length ≤ o.1.length + M.length
  | [], o => by simp
  | t :: M, o => by
    rw [List.foldl_cons]
    have h1 := of_len (ru := ru) (tn := tn) (k := k) M (of_step ru tn k o t)
    have h2 : (of_step ru tn k o t).1.length ≤ o.1.length + 1 := by
      unfold of_step
      (repeat' split) <;> simp
    rw [List.length_cons]; omega
theorem ofS_len {ru : Ru} {tn : Tn} {kd : Int} {L : List P5} {nx : Int} : (ofS ru tn kd L nx).1.length ≤ L.length := by
  unfold ofS
  split
  · exact Nat.le_refl _
  · have := of_len (ru := ru) (tn := tn) (k := kd.toNat) (srt ru.1 tn.1 L) ([], fun _ _ => 0, nx, false)
    rw [(srt_perm ru.1 tn.1 L).length_eq] at this
    simpa using this
theorem arL_len {L : List P5} {nx : Int} {s : Nat} (h : L.length ≤ 12) : (arL L nx s).length ≤ 12 := by
  unfold arL; split
  · exact h
  · simp; omega
theorem wkS_len {ru : Ru} {tn : Tn} {kd js : Int} {L : List P5} {nx : Int} (h : L.length ≤ 12) : (wkS ru tn kd js L nx).1.length ≤ 12 := by
  have h1 := ofS_len (ru := ru) (tn := tn) (kd := kd) (L := L) (nx := nx)
  unfold wkS
  dsimp only
  rw [List.length_map]
  split
  · omega
  · exact arL_len (by omega)
theorem wkN_nx {ru : Ru} {tn : Tn} {kd js : Int → Int} : ∀ (n : Nat) {wk : Int} {L : List P5} {nx : Int}, L.length ≤ 12 → Nq L nx → nx ≤ (wkN ru tn kd js n wk L nx).2.1 ∧ (wkN ru tn kd js n wk L nx).2.1 ≤ nx + 13 * n
  | 0, _, L, nx, _, _ => by simp [wkN]
  | n + 1, wk, L, nx, h, hq => by
    have h1 := wkS_nq (ru := ru) (tn := tn) (kd := kd wk) (js := js wk) hq
    have h2 := wkN_nx (ru := ru) (tn := tn) (kd := kd) (js := js) n (wk := wk + 1) (wkS_len (ru := ru) (tn := tn) (kd := kd wk) (js := js wk) (nx := nx) h) h1.1
    simp only [wkN]
    omega
theorem CS_sd {I : Nat → Nat → Int} {F : Nat → Nat → Nat} {L : List P5} {wk nx W : Int} (h : CS 23 I F L wk nx W) (hq : Nq L nx) (ord : Int) (nd : Nat → Int) :
    CS 23 I (rw_ F 24 (sd (fun a b => ah ord nd (tup I a) (tup I b)) (F 24) L.length)) (srt ord nd L) wk nx W := by
  obtain ⟨h1, ⟨h2, h3, h4⟩, h5, h6, h7, h8, h9⟩ := id h
  have hl : (srt ord nd L).length = L.length := (srt_perm ord nd L).length_eq
  have hLe := h.tup
  have hsr := sd_srt (ord := ord) (nd := nd) (t := tup I) (f := F 24) (N := L.length) (by rw [← hLe]; exact hq.nm)
  rw [← hLe] at hsr
  refine ⟨by omega, ⟨by rw [hl]; exact h2, h3, h4⟩, fun i hi => ?_, fun a b ha hb e => ?_, fun i hi => ?_, fun t ht => h8 t ((srt_perm ord nd L).mem_iff.mp ht), h9⟩
  · rw [rw_s]; exact sd_all _ (fun x => 23 + 9 ≤ x ∧ x ≤ 23 + 20) h5 L.length h1 i hi
  · rw [rw_s, rw_s] at e; exact sd_inj _ h6 L.length h1 a b ha hb e
  · rw [rw_s, ← hsr, List.getElem?_map, List.getElem?_range (by omega)]; rfl
/-- the same person stands at a place on both sides -/
theorem place_eq {I : Nat → Nat → Int} {F : Nat → Nat → Nat} {L M : List P5} {wk nx W : Int} (h : CS 23 I F L wk nx W) (hR : RS I M wk nx W) (hp : L.Perm M) (hq : Nq L nx) (ord : Int) (nd : Nat → Int) {q : Nat} (hql : q < L.length) :
    tup I (sd (fun a b => ah ord nd (tup I a) (tup I b)) (F 24) L.length q) = rt (I 89) (sd (fun a b => ah ord nd (rt (I 89) a) (rt (I 89) b)) id L.length q) := by
  have hLe := h.tup
  have hMe := hR.tup
  have hl := hp.length_eq
  have e1 := sd_srt (ord := ord) (nd := nd) (t := tup I) (f := F 24) (N := L.length) (by rw [← hLe]; exact hq.nm)
  rw [← hLe] at e1
  rw [← hl] at hMe
  have e2 := sd_srt (ord := ord) (nd := nd) (t := rt (I 89)) (f := id) (N := L.length) (by rw [show (fun i => rt (I 89) (id i)) = rt (I 89) from rfl, ← hMe]; exact (hq.perm hp).nm)
  rw [show (fun i => rt (I 89) (id i)) = rt (I 89) from rfl, ← hMe] at e2
  have e3 := e1.trans ((srt_congr (ord := ord) (nd := nd) hp hq.nm).trans e2.symm)
  have e4 := congrArg (fun l => l[q]?) e3
  simp only [List.getElem?_map, List.getElem?_range hql, Option.map_some] at e4
  exact Option.some.inj e4
theorem Nq_add {L : List P5} {nx : Int} {s : Nat} (h : Nq L nx) (hL : L.length < 12) : Nq (L ++ [((s : Int), nx, 0, 0, 0)]) (nx + 1) := by
  have := ar_nq (s := s) h
  unfold arL arN at this
  rw [if_neg (by omega), if_neg (by omega)] at this
  exact this.1
set_option maxHeartbeats 4000000 in
set_option maxRecDepth 100000 in
theorem ct_X11_join_bad (G : ab_G) (I : Nat → Nat → Int) (F : Nat → Nat → Nat) (hF : ab_FB F) (a : Int) (ha : ab_In a) (hr : 0 ≤ I 23 2 ∧ I 23 2 ≤ 12) (hbad : ¬ ((0 ≤ a ∧ a ≤ 3) ∧ I 23 2 < 12)) : Ct G 2 0 0 YX11_join [ab_r 1, ab_i a] (104, I, F) (fun r h => r = some (ab_i (if 0 ≤ a ∧ a ≤ 3 then -5 else -2)) ∧ h = (104, I, F)) := by
  refine Ct.ofW kX11_join (ls := [some (ab_r 1), some (ab_i a)]) (Nat.le_of_ble_eq_true rfl) rfl ?_
  refine aw_iload_n dX11_join_0 rfl ?_
  refine aw_callS (as := [ab_i a]) (rest := []) dX11_join_1 (ct_X11_isSort G (104, I, F) a (by first | assumption | (unfold ab_In at *; omega))) kX11_isSort sX11_isSort lX11_82 rfl (Nat.le_of_ble_eq_true rfl) (by decide) (by decide) (by decide) (by decide) ?_
  rintro r9 _ ⟨e9, rfl⟩
  by_cases q1 : 0 ≤ a ∧ a ≤ 3
  · rw [if_pos q1] at e9
    subst e9
    refine aw_if_ne (tgt := 10) dX11_join_4 rfl ⟨by decide, by decide⟩ (fun _ => ?_) (fun c9 => absurd c9 (by decide))
    refine aw_aload_n dX11_join_10 rfl (by decide) ?_
    refine aw_getrv (r := 23) dX11_join_11 fX11_38 ⟨Nat.le_of_ble_eq_true rfl, Nat.le_of_ble_eq_true rfl⟩ rfl rfl (hF.at 1 4 23 rfl rfl rfl) ?_
    refine aw_callV (as := []) (rest := []) dX11_join_14 (ct_X1_isFull_23 G I F (by unfold ab_In; omega)) ⟨Nat.le_of_ble_eq_true rfl, Nat.le_of_ble_eq_true rfl⟩ rfl kc1 rfl kX1_isFull iX1_isFull eX1_isFull lX11_121 rfl (Nat.le_of_ble_eq_true rfl) (by decide) (by decide) (by decide) (by decide) ?_
    rintro r9 _ ⟨e9, rfl⟩
    by_cases q5 : 12 ≤ I 23 2
    · rw [if_pos q5] at e9
      subst e9
      refine aw_if_eq (tgt := 23) dX11_join_17 rfl ⟨by decide, by decide⟩ (fun c9 => absurd c9 (by decide)) (fun _ => ?_)
      refine aw_bipush dX11_join_20 rfl ?_
      refine aw_ireturn dX11_join_22 rfl ?_
      exact ⟨by first | rw [if_pos (by omega)] | rw [if_neg (by omega)] | rfl, rfl⟩
    · rw [if_neg q5] at e9
      subst e9
      refine aw_if_eq (tgt := 23) dX11_join_17 rfl ⟨by decide, by decide⟩ (fun _ => ?_) (fun c9 => absurd (by decide) c9)
      exfalso; omega
  · rw [if_neg q1] at e9
    subst e9
    refine aw_if_ne (tgt := 10) dX11_join_4 rfl ⟨by decide, by decide⟩ (fun c9 => absurd rfl c9) (fun _ => ?_)
    refine aw_bipush dX11_join_7 rfl ?_
    refine aw_ireturn dX11_join_9 rfl ?_
    exact ⟨by first | rw [if_pos (by omega)] | rw [if_neg (by omega)] | rfl, rfl⟩
set_option maxHeartbeats 4000000 in
set_option maxRecDepth 100000 in
theorem ct_X12_join_bad (G : ab_G) (I : Nat → Nat → Int) (F : Nat → Nat → Nat) (hF : ab_FB F) (a : Int) (ha : ab_In a) (hr : 0 ≤ I 89 84 ∧ I 89 84 ≤ 12) (hbad : ¬ ((0 ≤ a ∧ a ≤ 3) ∧ I 89 84 < 12)) : Ct G 2 0 0 YX12_join [ab_r 84, ab_i a] (104, I, F) (fun r h => r = some (ab_i (if 0 ≤ a ∧ a ≤ 3 then -5 else -2)) ∧ h = (104, I, F)) := by
  refine Ct.ofW kX12_join (ls := [some (ab_r 84), some (ab_i a)]) (Nat.le_of_ble_eq_true rfl) rfl ?_
  refine aw_iload_n dX12_join_0 rfl ?_
  refine aw_callS (as := [ab_i a]) (rest := []) dX12_join_1 (ct_X12_isFour G (104, I, F) a (by first | assumption | (unfold ab_In at *; omega))) kX12_isFour sX12_isFour lX12_79 rfl (Nat.le_of_ble_eq_true rfl) (by decide) (by decide) (by decide) (by decide) ?_
  rintro r9 _ ⟨e9, rfl⟩
  by_cases q1 : 0 ≤ a ∧ a ≤ 3
  · rw [if_pos q1] at e9
    subst e9
    refine aw_if_ne (tgt := 10) dX12_join_4 rfl ⟨by decide, by decide⟩ (fun _ => ?_) (fun c9 => absurd c9 (by decide))
    refine aw_aload_n dX12_join_10 rfl (by decide) ?_
    refine aw_getrv (r := 89) dX12_join_11 fX12_22 ⟨Nat.le_of_ble_eq_true rfl, Nat.le_of_ble_eq_true rfl⟩ rfl rfl (hF.at 84 6 89 rfl rfl rfl) ?_
    refine aw_bipush dX12_join_14 rfl ?_
    refine aw_ialdq (q := 84) (v := I 89 84) dX12_join_16 ⟨Nat.le_of_ble_eq_true rfl, Nat.le_of_ble_eq_true rfl⟩ rfl (by omega) (by omega) (by decide) rfl rfl ?_
    refine aw_bipush dX12_join_17 rfl ?_
    refine aw_icmp_ne (tgt := 25) dX12_join_19 rfl (by first | assumption | (unfold ab_In at *; omega)) (by first | assumption | (unfold ab_In at *; omega)) (fun c_19 => ?_) (fun c_19 => ?_)
    · exfalso; omega
    · refine aw_bipush dX12_join_22 rfl ?_
      refine aw_ireturn dX12_join_24 rfl ?_
      exact ⟨by first | rw [if_pos (by omega)] | rw [if_neg (by omega)] | rfl, rfl⟩
  · rw [if_neg q1] at e9
    subst e9
    refine aw_if_ne (tgt := 10) dX12_join_4 rfl ⟨by decide, by decide⟩ (fun c9 => absurd rfl c9) (fun _ => ?_)
    refine aw_bipush dX12_join_7 rfl ?_
    refine aw_ireturn dX12_join_9 rfl ?_
    exact ⟨by first | rw [if_pos (by omega)] | rw [if_neg (by omega)] | rfl, rfl⟩
set_option maxHeartbeats 4000000 in
set_option maxRecDepth 100000 in
theorem ct_X11_join (G : ab_G) (I : Nat → Nat → Int) (F : Nat → Nat → Nat) (hF : ab_FB F) (s : Nat) (hs : s < 4) (N p : Nat) (hN : I 23 2 = N) (hN12 : N < 12) (hpF : F 24 N = p) (hp : 32 ≤ p ∧ p ≤ 43) : Ct G 2 0 0 YX11_join [ab_r 1, ab_i (s : Int)] (104, I, F) (fun r h => r = some (ab_i ((N : Int) + 1)) ∧ h = (104, ab_u (ab_u (pt (ab_u I 65 5 0) p ((s : Int), (ab_u I 65 5 0) 23 4, 0, 0, 0)) 23 4 ((ab_u I 65 5 0) 23 4 + 1)) 23 2 ((N : Int) + 1), F)) := by
  refine Ct.ofW kX11_join (ls := [some (ab_r 1), some (ab_i (s : Int))]) (Nat.le_of_ble_eq_true rfl) rfl ?_
  refine aw_iload_n dX11_join_0 rfl ?_
  refine aw_callS (as := [ab_i (s : Int)]) (rest := []) dX11_join_1 (ct_X11_isSort G (104, I, F) (s : Int) (by first | assumption | (unfold ab_In at *; omega))) kX11_isSort sX11_isSort lX11_82 rfl (Nat.le_of_ble_eq_true rfl) (by decide) (by decide) (by decide) (by decide) ?_
  rintro r9 _ ⟨e9, rfl⟩
  rw [if_pos (by omega)] at e9
  subst e9
  refine aw_if_ne (tgt := 10) dX11_join_4 rfl ⟨by decide, by decide⟩ (fun _ => ?_) (fun c9 => absurd c9 (by decide))
  refine aw_aload_n dX11_join_10 rfl (by decide) ?_
  refine aw_getrv (r := 23) dX11_join_11 fX11_38 ⟨Nat.le_of_ble_eq_true rfl, Nat.le_of_ble_eq_true rfl⟩ rfl rfl (hF.at 1 4 23 rfl rfl rfl) ?_
  refine aw_callV (as := []) (rest := []) dX11_join_14 (ct_X1_isFull_23 G I F (by unfold ab_In; omega)) ⟨Nat.le_of_ble_eq_true rfl, Nat.le_of_ble_eq_true rfl⟩ rfl kc1 rfl kX1_isFull iX1_isFull eX1_isFull lX11_121 rfl (Nat.le_of_ble_eq_true rfl) (by decide) (by decide) (by decide) (by decide) ?_
  rintro r9 _ ⟨e9, rfl⟩
  rw [if_neg (by omega)] at e9
  subst e9
  refine aw_if_eq (tgt := 23) dX11_join_17 rfl ⟨by decide, by decide⟩ (fun _ => ?_) (fun c9 => absurd (by decide) c9)
  refine aw_aload_n dX11_join_23 rfl (by decide) ?_
  refine aw_getrv (r := 65) dX11_join_24 fX11_48 ⟨Nat.le_of_ble_eq_true rfl, Nat.le_of_ble_eq_true rfl⟩ rfl rfl (hF.at 1 6 65 rfl rfl rfl) ?_
  refine aw_callV (as := []) (rest := []) dX11_join_27 (ct_X5_forget G I F) ⟨Nat.le_of_ble_eq_true rfl, Nat.le_of_ble_eq_true rfl⟩ rfl kc5 rfl kX5_forget iX5_forget eX5_forget lX11_97 rfl (Nat.le_of_ble_eq_true rfl) (by decide) (by decide) (by decide) (by decide) ?_
  rintro _ _ ⟨rfl, rfl⟩
  refine aw_aload_n dX11_join_30 rfl (by decide) ?_
  refine aw_getrv (r := 23) dX11_join_31 fX11_38 ⟨Nat.le_of_ble_eq_true rfl, Nat.le_of_ble_eq_true rfl⟩ rfl rfl (hF.at 1 4 23 rfl rfl rfl) ?_
  refine aw_iload_n dX11_join_34 rfl ?_
  refine aw_callV (as := [ab_i (s : Int)]) (rest := []) dX11_join_35 (ct_X1_add_23 G (ab_u I 65 5 0) F hF (s : Int) N p (by rw [ab_u_i (by decide)]; exact hN) hN12 hpF hp) ⟨Nat.le_of_ble_eq_true rfl, Nat.le_of_ble_eq_true rfl⟩ rfl kc1 rfl kX1_add iX1_add eX1_add lX11_122 rfl (Nat.le_of_ble_eq_true rfl) (by decide) (by decide) (by decide) (by decide) ?_
  rintro _ _ ⟨rfl, rfl⟩
  refine aw_aload_n dX11_join_38 rfl (by decide) ?_
  refine aw_getrv (r := 23) dX11_join_39 fX11_38 ⟨Nat.le_of_ble_eq_true rfl, Nat.le_of_ble_eq_true rfl⟩ rfl rfl (hF.at 1 4 23 rfl rfl rfl) ?_
  refine aw_getiv (v := ((N : Int) + 1)) dX11_join_42 fX11_125 ⟨Nat.le_of_ble_eq_true rfl, Nat.le_of_ble_eq_true rfl⟩ rfl rfl ab_u_s ?_
  refine aw_ireturn dX11_join_45 rfl ?_
  exact ⟨rfl, rfl⟩
set_option maxHeartbeats 4000000 in
set_option maxRecDepth 100000 in
theorem ct_X12_join (G : ab_G) (I : Nat → Nat → Int) (F : Nat → Nat → Nat) (hF : ab_FB F) (L : List P5) (wk nx W : Int) (hC : RS I L wk nx W) (hL : L.length < 12) (s : Nat) (hs : s < 4) (hnx : 0 ≤ nx) (hW : 0 ≤ W) : Ct G 2 0 0 YX12_join [ab_r 84, ab_i (s : Int)] (104, I, F) (fun r h => r = some (ab_i ((L.length : Int) + 1)) ∧ ∃ I2, h = (104, I2, F) ∧ RS I2 (L ++ [((s : Int), nx, 0, 0, 0)]) wk (nx + 1) W ∧ RD I I2 (fun _ _ => 0) 0) := by
  refine Ct.ofW kX12_join (ls := [some (ab_r 84), some (ab_i (s : Int))]) (Nat.le_of_ble_eq_true rfl) rfl ?_
  refine aw_iload_n dX12_join_0 rfl ?_
  refine aw_callS (as := [ab_i (s : Int)]) (rest := []) dX12_join_1 (ct_X12_isFour G (104, I, F) (s : Int) (by first | assumption | (unfold ab_In at *; omega))) kX12_isFour sX12_isFour lX12_79 rfl (Nat.le_of_ble_eq_true rfl) (by decide) (by decide) (by decide) (by decide) ?_
  rintro r9 _ ⟨e9, rfl⟩
  rw [if_pos (by omega)] at e9
  subst e9
  refine aw_if_ne (tgt := 10) dX12_join_4 rfl ⟨by decide, by decide⟩ (fun _ => ?_) (fun c9 => absurd c9 (by decide))
  refine aw_aload_n dX12_join_10 rfl (by decide) ?_
  refine aw_getrv (r := 89) dX12_join_11 fX12_22 ⟨Nat.le_of_ble_eq_true rfl, Nat.le_of_ble_eq_true rfl⟩ rfl rfl (hF.at 84 6 89 rfl rfl rfl) ?_
  refine aw_bipush dX12_join_14 rfl ?_
  refine aw_ialdq (q := 84) (v := (L.length : Int)) dX12_join_16 ⟨Nat.le_of_ble_eq_true rfl, Nat.le_of_ble_eq_true rfl⟩ rfl (by omega) (by omega) (by decide) rfl hC.2.1.1 ?_
  refine aw_bipush dX12_join_17 rfl ?_
  refine aw_icmp_ne (tgt := 25) dX12_join_19 rfl (by first | assumption | (unfold ab_In at *; omega)) (by first | assumption | (unfold ab_In at *; omega)) (fun c_19 => ?_) (fun c_19 => ?_)
  · refine aw_aload_n dX12_join_25 rfl (by decide) ?_
    refine aw_iload_n dX12_join_26 rfl ?_
    refine aw_callV (as := [ab_i (s : Int)]) (rest := []) dX12_join_27 (ct_X12_add G I F hF L wk nx W hC hL s hs hnx hW) ⟨Nat.le_of_ble_eq_true rfl, Nat.le_of_ble_eq_true rfl⟩ rfl kc12 rfl kX12_add iX12_add eX12_add lX12_90 rfl (Nat.le_of_ble_eq_true rfl) (by decide) (by decide) (by decide) (by decide) ?_
    rintro _ _ ⟨rfl, I2, rfl, hC2, hD2⟩
    have e2 : I2 89 84 = (L.length : Int) + 1 := by rw [hC2.2.1.1]; simp
    refine aw_aload_n dX12_join_30 rfl (by decide) ?_
    refine aw_getrv (r := 89) dX12_join_31 fX12_22 ⟨Nat.le_of_ble_eq_true rfl, Nat.le_of_ble_eq_true rfl⟩ rfl rfl (hF.at 84 6 89 rfl rfl rfl) ?_
    refine aw_bipush dX12_join_34 rfl ?_
    refine aw_ialdq (q := 84) (v := ((L.length : Int) + 1)) dX12_join_36 ⟨Nat.le_of_ble_eq_true rfl, Nat.le_of_ble_eq_true rfl⟩ rfl (by omega) (by omega) (by decide) rfl e2 ?_
    refine aw_ireturn dX12_join_37 rfl ?_
    exact ⟨rfl, I2, rfl, hC2, hD2⟩
  · exfalso; omega
set_option maxHeartbeats 4000000 in
set_option maxRecDepth 100000 in
theorem pr_join (G : ab_G) (I : Nat → Nat → Int) (F : Nat → Nat → Nat) (c : Nat) (h : INV c I F) (hc : c ≤ 600) (a : Int) (ha : ab_In a) : Pair G 2 2 YX11_join YX12_join [ab_i a] ab_i c I F := by
  obtain ⟨L, M, wk, nx, hC, hM⟩ := id h.2.2.2.2.2.2.2.2
  obtain ⟨c1, c2, c3, c4, c5, c6, c7, c8⟩ := id hC
  have hl := c3.length_eq
  have hL12 := c1.1
  have e2 : I 23 2 = (L.length : Int) := c1.2.1.1
  have e3 : I 89 84 = (L.length : Int) := by rw [c2.2.1.1, hl]
  by_cases hv9 : (0 ≤ a ∧ a ≤ 3) ∧ I 23 2 < 12
  · obtain ⟨s, rfl⟩ : ∃ s : Nat, a = s := ⟨a.toNat, by omega⟩
    have hs : s < 4 := by omega
    have hL : L.length < 12 := by omega
    refine (ct_X11_join G I F h.1 s hs L.length _ e2 hL rfl (c1.2.2.1 L.length hL)).mono ?_
    rintro _ _ ⟨rfl, rfl⟩
    refine ⟨_, _, _, rfl, rfl, ?_⟩
    have hC0 := hC.of (J := ab_u I 65 5 0) (Nat.le_refl c) (fun i b q => ab_u_o (by omega))
    have hA := CS_add hC0.1 hL hs (by omega) (by omega)
    have hp := c1.2.2.1 L.length hL
    generalize hJ : ab_u (ab_u (pt (ab_u I 65 5 0) (F 24 L.length) ((s : Int), (ab_u I 65 5 0) 23 4, 0, 0, 0)) 23 4 ((ab_u I 65 5 0) 23 4 + 1)) 23 2 ((L.length : Int) + 1) = J at *
    have hJ9 : CS 23 J F (L ++ [((s : Int), nx, 0, 0, 0)]) wk (nx + 1) (2 * wk) ∧ CD 23 (ab_u I 65 5 0) F J F (fun _ _ => 0) 0 := hA
    have hJf : ∀ i b, (i < 23 ∨ 43 < i) → ¬ (i = 65 ∧ b = 5) → J i b = I i b := fun i b q1 q2 => (hJ9.2.2.2.1 i b (by omega)).trans (ab_u_o (by omega))
    have hM0 : RS J M wk nx (2 * wk) := c2.ofc (fun b hb => hJf 89 b (by omega) (by omega))
    refine (ct_X12_join G J F h.1 M wk nx (2 * wk) hM0 (by omega) s hs (by omega) (by omega)).mono ?_
    rintro _ _ ⟨rfl, I2, rfl, hC2, hD2⟩
    rw [← hl]
    have hf2 := hD2.2.2
    refine ⟨rfl, _, _, rfl, h.course (F2 := F) (L := L ++ [((s : Int), nx, 0, 0, 0)]) (M := M ++ [((s : Int), nx, 0, 0, 0)]) (wk := wk) (nx := nx + 1) ⟨hJ9.1.ofc (fun i b q => hf2 i b (by omega) (by omega) (by omega)), hC2, c3.append_right _, Nq_add c4 hL, c5, ⟨by omega, by omega⟩, fun w s hw hs => ?_, ?_⟩ ?_ (fun _ _ _ => rfl) (fun i b q => ?_)⟩
    · rw [hf2 _ _ (by omega) (by omega) (by omega), hD2.1 w s hw hs, hJ9.2.1 w s hw hs, hJf 89 _ (by omega) (by omega), ab_u_o (by omega), c7 w s hw hs]
    · rw [hf2 _ _ (by omega) (by omega) (by omega), hD2.2.1, hJ9.2.2.1, hJf 89 _ (by omega) (by omega), ab_u_o (by omega), c8]
    · rw [hf2 _ _ (by omega) (by omega) (by omega), hJ9.2.2.2.1 65 5 (by omega), ab_u_s]
    · rw [hf2 i b (by omega) (by omega) (by omega)]; exact hJf i b (by omega) (by omega)
  · refine (ct_X11_join_bad G I F h.1 a ha (by omega) hv9).mono ?_
    rintro _ _ ⟨rfl, rfl⟩
    refine ⟨_, _, _, rfl, rfl, ?_⟩
    refine (ct_X12_join_bad G I F h.1 a ha (by omega) (by omega)).mono ?_
    rintro _ _ ⟨rfl, rfl⟩
    exact ⟨rfl, _, _, rfl, h.up (by omega)⟩
set_option maxHeartbeats 4000000 in
set_option maxRecDepth 100000 in
theorem ct_X11_run_bad (G : ab_G) (I : Nat → Nat → Int) (F : Nat → Nat → Nat) (hF : ab_FB F) (a : Int) (ha : ab_In a) (hr : 0 ≤ I 23 3 ∧ I 23 3 ≤ 2000) (hbad : ¬ ((1 ≤ a ∧ a ≤ 100) ∧ I 23 3 + a ≤ 2000)) : Ct G 4 0 0 YX11_run [ab_r 1, ab_i a] (104, I, F) (fun r h => r = some (ab_i (-3)) ∧ h = (104, I, F)) := by
  refine Ct.ofW kX11_run (ls := [some (ab_r 1), some (ab_i a)]) (Nat.le_of_ble_eq_true rfl) rfl ?_
  refine aw_iload_n dX11_run_0 rfl ?_
  refine aw_iconst dX11_run_1 ?_
  refine aw_bipush dX11_run_2 rfl ?_
  refine aw_callS (as := [ab_i a, ab_i 1, ab_i 100]) (rest := []) dX11_run_4 (ct_X11_within G (104, I, F) a 1 100 (by first | assumption | (unfold ab_In at *; omega)) (by first | assumption | (unfold ab_In at *; omega)) (by first | assumption | (unfold ab_In at *; omega))) kX11_within sX11_within lX11_89 rfl (Nat.le_of_ble_eq_true rfl) (by decide) (by decide) (by decide) (by decide) ?_
  rintro r9 _ ⟨e9, rfl⟩
  by_cases q1 : 1 ≤ a ∧ a ≤ 100
  · rw [if_pos q1] at e9
    subst e9
    refine aw_if_eq (tgt := 25) dX11_run_7 rfl ⟨by decide, by decide⟩ (fun c9 => absurd c9 (by decide)) (fun _ => ?_)
    refine aw_aload_n dX11_run_10 rfl (by decide) ?_
    refine aw_getrv (r := 23) dX11_run_11 fX11_38 ⟨Nat.le_of_ble_eq_true rfl, Nat.le_of_ble_eq_true rfl⟩ rfl rfl (hF.at 1 4 23 rfl rfl rfl) ?_
    refine aw_geti dX11_run_14 fX11_129 ⟨Nat.le_of_ble_eq_true rfl, Nat.le_of_ble_eq_true rfl⟩ rfl rfl ?_
    refine aw_iload_n dX11_run_17 rfl ?_
    refine aw_iadd dX11_run_18 ?_
    refine aw_sipush dX11_run_19 rfl ?_
    refine aw_icmp_le (tgt := 28) dX11_run_22 rfl (by first | assumption | (unfold ab_In at *; omega)) (by first | assumption | (unfold ab_In at *; omega)) (fun c_22 => ?_) (fun c_22 => ?_)
    · exfalso; omega
    · refine aw_bipush dX11_run_25 rfl ?_
      refine aw_ireturn dX11_run_27 rfl ?_
      exact ⟨by first | rw [if_pos (by omega)] | rw [if_neg (by omega)] | rfl, rfl⟩
  · rw [if_neg q1] at e9
    subst e9
    refine aw_if_eq (tgt := 25) dX11_run_7 rfl ⟨by decide, by decide⟩ (fun _ => ?_) (fun c9 => absurd (by decide) c9)
    refine aw_bipush dX11_run_25 rfl ?_
    refine aw_ireturn dX11_run_27 rfl ?_
    exact ⟨by first | rw [if_pos (by omega)] | rw [if_neg (by omega)] | rfl, rfl⟩
set_option maxHeartbeats 4000000 in
set_option maxRecDepth 100000 in
theorem ct_X12_run_bad (G : ab_G) (I : Nat → Nat → Int) (F : Nat → Nat → Nat) (hF : ab_FB F) (a : Int) (ha : ab_In a) (hr : 0 ≤ I 89 86 ∧ I 89 86 ≤ 2000) (hbad : ¬ ((1 ≤ a ∧ a ≤ 100) ∧ I 89 86 + a ≤ 2000)) : Ct G 4 0 0 YX12_run [ab_r 84, ab_i a] (104, I, F) (fun r h => r = some (ab_i (-3)) ∧ h = (104, I, F)) := by
  refine Ct.ofW kX12_run (ls := [some (ab_r 84), some (ab_i a), none]) (Nat.le_of_ble_eq_true rfl) rfl ?_
  refine aw_iload_n dX12_run_0 rfl ?_
  refine aw_iconst dX12_run_1 ?_
  refine aw_bipush dX12_run_2 rfl ?_
  refine aw_callS (as := [ab_i a, ab_i 1, ab_i 100]) (rest := []) dX12_run_4 (ct_X12_in G (104, I, F) a 1 100 (by first | assumption | (unfold ab_In at *; omega)) (by first | assumption | (unfold ab_In at *; omega)) (by first | assumption | (unfold ab_In at *; omega))) kX12_in sX12_in lX12_75 rfl (Nat.le_of_ble_eq_true rfl) (by decide) (by decide) (by decide) (by decide) ?_
  rintro r9 _ ⟨e9, rfl⟩
  by_cases q1 : 1 ≤ a ∧ a ≤ 100
  · rw [if_pos q1] at e9
    subst e9
    refine aw_if_eq (tgt := 25) dX12_run_7 rfl ⟨by decide, by decide⟩ (fun c9 => absurd c9 (by decide)) (fun _ => ?_)
    refine aw_aload_n dX12_run_10 rfl (by decide) ?_
    refine aw_getrv (r := 89) dX12_run_11 fX12_22 ⟨Nat.le_of_ble_eq_true rfl, Nat.le_of_ble_eq_true rfl⟩ rfl rfl (hF.at 84 6 89 rfl rfl rfl) ?_
    refine aw_bipush dX12_run_14 rfl ?_
    refine aw_ialdq (q := 86) (v := I 89 86) dX12_run_16 ⟨Nat.le_of_ble_eq_true rfl, Nat.le_of_ble_eq_true rfl⟩ rfl (by omega) (by omega) (by decide) rfl rfl ?_
    refine aw_iload_n dX12_run_17 rfl ?_
    refine aw_iadd dX12_run_18 ?_
    refine aw_sipush dX12_run_19 rfl ?_
    refine aw_icmp_le (tgt := 28) dX12_run_22 rfl (by first | assumption | (unfold ab_In at *; omega)) (by first | assumption | (unfold ab_In at *; omega)) (fun c_22 => ?_) (fun c_22 => ?_)
    · exfalso; omega
    · refine aw_bipush dX12_run_25 rfl ?_
      refine aw_ireturn dX12_run_27 rfl ?_
      exact ⟨by first | rw [if_pos (by omega)] | rw [if_neg (by omega)] | rfl, rfl⟩
  · rw [if_neg q1] at e9
    subst e9
    refine aw_if_eq (tgt := 25) dX12_run_7 rfl ⟨by decide, by decide⟩ (fun _ => ?_) (fun c9 => absurd (by decide) c9)
    refine aw_bipush dX12_run_25 rfl ?_
    refine aw_ireturn dX12_run_27 rfl ?_
    exact ⟨by first | rw [if_pos (by omega)] | rw [if_neg (by omega)] | rfl, rfl⟩
set_option maxHeartbeats 4000000 in
set_option maxRecDepth 100000 in
theorem ct_X11_run (G : ab_G) (I : Nat → Nat → Int) (F : Nat → Nat → Nat) (hF : ab_FB F) (L : List P5) (wk nx : Int) (n : Nat) (hw3 : I 23 3 = wk) (hC : CS 23 (ab_u I 65 5 0) F L wk nx (2 * wk)) (hq : Nq L nx) (hwk : 0 ≤ wk ∧ wk + n ≤ 2900) (hnx : 0 ≤ nx ∧ nx + 13 * n ≤ 90000) (hT : TB (ab_u I 65 5 0)) (hR : RB 13 (ab_u I 65 5 0)) (hn : 1 ≤ n ∧ n ≤ 100) (hw2 : wk + n ≤ 2000) : Ct G 4 0 0 YX11_run [ab_r 1, ab_i (n : Int)] (104, I, F) (fun r h => r = some (ab_i (wk + n)) ∧ ∃ I2 F2, h = (104, I2, F2) ∧ CS 23 I2 F2 (wkN (ruX (ab_u I 65 5 0) 13) (tnX (ab_u I 65 5 0)) (kdX (ab_u I 65 5 0) 9 10) (kdX (ab_u I 65 5 0) 11 12) n wk L nx).1 (wk + n) (wkN (ruX (ab_u I 65 5 0) 13) (tnX (ab_u I 65 5 0)) (kdX (ab_u I 65 5 0) 9 10) (kdX (ab_u I 65 5 0) 11 12) n wk L nx).2.1 (2 * (wk + n)) ∧ CD 23 (ab_u I 65 5 0) F I2 F2 (wkN (ruX (ab_u I 65 5 0) 13) (tnX (ab_u I 65 5 0)) (kdX (ab_u I 65 5 0) 9 10) (kdX (ab_u I 65 5 0) 11 12) n wk L nx).2.2.1 (wkN (ruX (ab_u I 65 5 0) 13) (tnX (ab_u I 65 5 0)) (kdX (ab_u I 65 5 0) 9 10) (kdX (ab_u I 65 5 0) 11 12) n wk L nx).2.2.2 ∧ Nq (wkN (ruX (ab_u I 65 5 0) 13) (tnX (ab_u I 65 5 0)) (kdX (ab_u I 65 5 0) 9 10) (kdX (ab_u I 65 5 0) 11 12) n wk L nx).1 (wkN (ruX (ab_u I 65 5 0) 13) (tnX (ab_u I 65 5 0)) (kdX (ab_u I 65 5 0) 9 10) (kdX (ab_u I 65 5 0) 11 12) n wk L nx).2.1) := by
  refine Ct.ofW kX11_run (ls := [some (ab_r 1), some (ab_i (n : Int))]) (Nat.le_of_ble_eq_true rfl) rfl ?_
  refine aw_iload_n dX11_run_0 rfl ?_
  refine aw_iconst dX11_run_1 ?_
  refine aw_bipush dX11_run_2 rfl ?_
  refine aw_callS (as := [ab_i (n : Int), ab_i 1, ab_i 100]) (rest := []) dX11_run_4 (ct_X11_within G (104, I, F) (n : Int) 1 100 (by first | assumption | (unfold ab_In at *; omega)) (by first | assumption | (unfold ab_In at *; omega)) (by first | assumption | (unfold ab_In at *; omega))) kX11_within sX11_within lX11_89 rfl (Nat.le_of_ble_eq_true rfl) (by decide) (by decide) (by decide) (by decide) ?_
  rintro r9 _ ⟨e9, rfl⟩
  rw [if_pos (by omega)] at e9
  subst e9
  refine aw_if_eq (tgt := 25) dX11_run_7 rfl ⟨by decide, by decide⟩ (fun c9 => absurd c9 (by decide)) (fun _ => ?_)
  refine aw_aload_n dX11_run_10 rfl (by decide) ?_
  refine aw_getrv (r := 23) dX11_run_11 fX11_38 ⟨Nat.le_of_ble_eq_true rfl, Nat.le_of_ble_eq_true rfl⟩ rfl rfl (by first | exact hF.at 1 4 23 rfl rfl rfl | exact hF2.at 1 4 23 rfl rfl rfl) ?_
  refine aw_getiv (v := wk) dX11_run_14 fX11_129 ⟨Nat.le_of_ble_eq_true rfl, Nat.le_of_ble_eq_true rfl⟩ rfl rfl hw3 ?_
  refine aw_iload_n dX11_run_17 rfl ?_
  refine aw_iadd dX11_run_18 ?_
  refine aw_sipush dX11_run_19 rfl ?_
  refine aw_icmp_le (tgt := 28) dX11_run_22 rfl (by first | assumption | (unfold ab_In at *; omega)) (by first | assumption | (unfold ab_In at *; omega)) (fun c_22 => ?_) (fun c_22 => ?_)
  · refine aw_aload_n dX11_run_28 rfl (by decide) ?_
    refine aw_getrv (r := 65) dX11_run_29 fX11_48 ⟨Nat.le_of_ble_eq_true rfl, Nat.le_of_ble_eq_true rfl⟩ rfl rfl (hF.at 1 6 65 rfl rfl rfl) ?_
    refine aw_callV (as := []) (rest := []) dX11_run_32 (ct_X5_forget G I F) ⟨Nat.le_of_ble_eq_true rfl, Nat.le_of_ble_eq_true rfl⟩ rfl kc5 rfl kX5_forget iX5_forget eX5_forget lX11_97 rfl (Nat.le_of_ble_eq_true rfl) (by decide) (by decide) (by decide) (by decide) ?_
    rintro _ _ ⟨rfl, rfl⟩
    refine aw_aload_n dX11_run_35 rfl (by decide) ?_
    refine aw_getrv (r := 23) dX11_run_36 fX11_38 ⟨Nat.le_of_ble_eq_true rfl, Nat.le_of_ble_eq_true rfl⟩ rfl rfl (by first | exact hF.at 1 4 23 rfl rfl rfl | exact hF2.at 1 4 23 rfl rfl rfl) ?_
    refine aw_iload_n dX11_run_39 rfl ?_
    refine aw_aload_n dX11_run_40 rfl (by decide) ?_
    refine aw_getrv (r := 13) dX11_run_41 fX11_19 ⟨Nat.le_of_ble_eq_true rfl, Nat.le_of_ble_eq_true rfl⟩ rfl rfl (hF.at 1 1 13 rfl rfl rfl) ?_
    refine aw_callV (as := [ab_i (n : Int), ab_r 13]) (rest := []) dX11_run_44 (ct_X1_pass_23_13 G (ab_u I 65 5 0) F hF L wk nx n hC hq hwk hnx hT hR) ⟨Nat.le_of_ble_eq_true rfl, Nat.le_of_ble_eq_true rfl⟩ rfl kc1 rfl kX1_pass iX1_pass eX1_pass lX11_132 rfl (Nat.le_of_ble_eq_true rfl) (by decide) (by decide) (by decide) (by decide) ?_
    rintro _ _ ⟨rfl, I2, F2, rfl, hC2, hD2, hq2⟩
    have hw4 : I2 23 3 = wk + n := hC2.2.1.2.1
    have hF2 : ab_FB F2 := fun a b e1 e2 => (hD2.2.2.2 a b (by omega)).trans (hF a b e1 e2)
    refine aw_aload_n dX11_run_47 rfl (by decide) ?_
    refine aw_getrv (r := 23) dX11_run_48 fX11_38 ⟨Nat.le_of_ble_eq_true rfl, Nat.le_of_ble_eq_true rfl⟩ rfl rfl (by first | exact hF.at 1 4 23 rfl rfl rfl | exact hF2.at 1 4 23 rfl rfl rfl) ?_
    refine aw_getiv (v := (wk + n)) dX11_run_51 fX11_129 ⟨Nat.le_of_ble_eq_true rfl, Nat.le_of_ble_eq_true rfl⟩ rfl rfl hw4 ?_
    refine aw_ireturn dX11_run_54 rfl ?_
    exact ⟨rfl, I2, F2, rfl, hC2, hD2, hq2⟩
  · exfalso; omega
set_option maxHeartbeats 4000000 in
set_option maxRecDepth 100000 in
theorem pr_run (G : ab_G) (I : Nat → Nat → Int) (F : Nat → Nat → Nat) (c : Nat) (h : INV c I F) (hc : c ≤ 600) (a : Int) (ha : ab_In a) : Pair G 4 4 YX11_run YX12_run [ab_i a] ab_i c I F := by
  obtain ⟨L, M, wk, nx, hC, hM⟩ := id h.2.2.2.2.2.2.2.2
  obtain ⟨c1, c2, c3, c4, c5, c6, c7, c8⟩ := id hC
  have hl := c3.length_eq
  have e3 : I 23 3 = wk := c1.2.1.2.1
  have e4 : I 89 86 = wk := c2.2.1.2.1
  by_cases hv9 : (1 ≤ a ∧ a ≤ 100) ∧ I 23 3 + a ≤ 2000
  · obtain ⟨n, rfl⟩ : ∃ n : Nat, a = n := ⟨a.toNat, by omega⟩
    have hC0 := hC.of (J := ab_u I 65 5 0) (Nat.le_refl c) (fun i b q => ab_u_o (by omega))
    have hT0 : TB (ab_u I 65 5 0) := h.2.1.ofc (fun i b q1 q2 => ab_u_o (by omega))
    have hR0 : RB 13 (ab_u I 65 5 0) := h.2.2.2.1.ofc (fun i b q1 q2 => ab_u_o (by omega))
    refine (ct_X11_run G I F h.1 L wk nx n e3 hC0.1 c4 (by omega) (by omega) hT0 hR0 (by omega) (by omega)).mono ?_
    rintro _ _ ⟨rfl, J, F2, rfl, hJ, hD, hq2⟩
    refine ⟨_, _, _, rfl, rfl, ?_⟩
    have hk := h.2.2.1.kd h.2.1
    have hW : (wkN (ruX (ab_u I 65 5 0) 13) (tnX (ab_u I 65 5 0)) (kdX (ab_u I 65 5 0) 9 10) (kdX (ab_u I 65 5 0) 11 12) n wk L nx) = wkM I n wk L nx := by
      rw [ruX_congr (I := I) (fun i b hi => ab_u_o (by omega)), tnX_congr (I := I) (fun i b hi => ab_u_o (by omega)), show kdX (ab_u I 65 5 0) 9 10 = kdX I 9 10 from funext fun w9 => kdX_congr (fun i b hi => ab_u_o (by omega)) (by omega) (by omega) w9, show kdX (ab_u I 65 5 0) 11 12 = kdX I 11 12 from funext fun w9 => kdX_congr (fun i b hi => ab_u_o (by omega)) (by omega) (by omega) w9, h.ru, h.2.2.1.tn, hk.1, hk.2]; rfl
    rw [hW] at hJ hD hq2
    have hJf : ∀ i b, (i < 23 ∨ 43 < i) → ¬ (i = 65 ∧ b = 5) → J i b = I i b := fun i b q1 q2 => (hD.2.2.1 i b (by omega)).trans (ab_u_o (by omega))
    have hJM : ∀ i, 43 < i → i ≠ 65 → J i = I i := fun i q1 q2 => funext fun b => hJf i b (by omega) (by omega)
    have hM0 : RS J M wk nx (2 * wk) := c2.ofc (fun b hb => hJf 89 b (by omega) (by omega))
    have hT1 : TBM J := by have := h.tbm; unfold TBM at *; rw [hJM 84 (by decide) (by decide), hJM 85 (by decide) (by decide), hJM 86 (by decide) (by decide), hJM 87 (by decide) (by decide), hJM 88 (by decide) (by decide)]; exact this
    have hR1 : RBM J := h.rbm.of (hJM 95 (by decide) (by decide))
    have hWJ : wkM J n wk M nx = wkM I n wk M nx := by unfold wkM ruM tnM kdM; rw [hJM 84 (by decide) (by decide), hJM 85 (by decide) (by decide), hJM 86 (by decide) (by decide), hJM 87 (by decide) (by decide), hJM 88 (by decide) (by decide), hJM 95 (by decide) (by decide)]
    have hF2 : ab_FB F2 := fun a b e1 e2 => (hD.2.2.2 a b (by omega)).trans (h.1 a b e1 e2)
    refine (ct_X12_run G J F2 hF2 M wk nx n hM0 (c4.perm c3) (by omega) (by omega) hT1 hR1 (by omega) (by omega)).mono ?_
    rintro _ _ ⟨rfl, I2, M2, rfl, hC2, hp2, hD2, hq3⟩
    rw [hWJ] at hC2 hp2 hD2 hq3
    have hpm := wkN_perm (ru := ruM I) (tn := tnM I) (kd := kdM I 2 87) (js := kdM I 4 88) n (wk := wk) c3 c4
    have hnx := wkN_nx (ru := ruM I) (tn := tnM I) (kd := kdM I 2 87) (js := kdM I 4 88) n (wk := wk) c1.1 c4
    have hp1 : (wkM I n wk L nx).1.Perm (wkM I n wk M nx).1 := hpm.1
    have hp3 : (wkM I n wk L nx).2 = (wkM I n wk M nx).2 := hpm.2
    have hnx : nx ≤ (wkM I n wk L nx).2.1 ∧ (wkM I n wk L nx).2.1 ≤ nx + 13 * n := hnx
    rw [← hp3] at hC2 hD2 hq3
    have hf2 := hD2.2.2
    refine ⟨rfl, _, _, rfl, h.course (F2 := F2) (L := (wkM I n wk L nx).1) (M := M2) (wk := wk + n) (nx := (wkM I n wk L nx).2.1) ⟨hJ.ofc (fun i b q => hf2 i b (by omega) (by omega) (by omega)), hC2, hp1.trans hp2.symm, hq2, ⟨by omega, by omega⟩, ⟨by omega, by omega⟩, fun w s hw hs => ?_, ?_⟩ ?_ hD.2.2.2 (fun i b q => ?_)⟩
    · rw [hf2 _ _ (by omega) (by omega) (by omega), hD2.1 w s hw hs, hD.1 w s hw hs, hJf 89 _ (by omega) (by omega), ab_u_o (by omega), c7 w s hw hs]
    · rw [hf2 _ _ (by omega) (by omega) (by omega), hD2.2.1, hD.2.1, hJf 89 _ (by omega) (by omega), ab_u_o (by omega), c8]
    · rw [hf2 _ _ (by omega) (by omega) (by omega), hD.2.2.1 65 5 (by omega), ab_u_s]
    · rw [hf2 i b (by omega) (by omega) (by omega)]; exact hJf i b (by omega) (by omega)
  · refine (ct_X11_run_bad G I F h.1 a ha (by omega) hv9).mono ?_
    rintro _ _ ⟨rfl, rfl⟩
    refine ⟨_, _, _, rfl, rfl, ?_⟩
    refine (ct_X12_run_bad G I F h.1 a ha (by omega) (by omega)).mono ?_
    rintro _ _ ⟨rfl, rfl⟩
    exact ⟨rfl, _, _, rfl, h.up (by omega)⟩
