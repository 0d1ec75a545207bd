/-- what weeks bring is bounded -/
def tnB (tn : Tn) : Prop := (∀ a, 0 ≤ tn.1 a ∧ tn.1 a ≤ 9) ∧ (∀ a b, 0 ≤ tn.2 a b ∧ tn.2 a b ≤ 99)
theorem of_T {ru : Ru} {tn : Tn} {k : Nat} (ht : tnB tn) : ∀ (M : List P5) (o : OS), (∀ s, o.2.1 5 s = 0) → (∀ s, 0 ≤ o.2.1 2 s ∧ o.2.1 2 s ≤ if o.2.2.2 = true then 99 else 0) → (∀ s, (M.foldl (of_step ru tn k) o).2.1 5 s = 0) ∧ (∀ s, 0 ≤ (M.foldl (of_step ru tn k) o).2.1 2 s ∧ (M.foldl (of_step ru tn k) o).2.1 2 s ≤ 99)
  | [], o, h1, h2 => ⟨h1, fun s => by
      have := h2 s
      simp only [List.foldl_nil]
      split at this <;> omega⟩
  | t :: M, o, h1, h2 => by
    rw [List.foldl_cons]
    apply of_T ht M
    · intro s
      unfold of_step
      (repeat' split) <;> simp [ta, h1]
    · intro s
      have hw := ht.2 t.1.toNat k
      have := h2 s
      unfold of_step
      by_cases q : o.2.2.2 = true
      · rw [if_pos q] at this
        rw [if_pos q]; simpa using this
      · rw [if_neg q] at this
        rw [if_neg q]
        by_cases q1 : tk1 ru tn k t = 1
        · rw [if_pos q1]
          dsimp only
          rw [ta_add, ta_add, ta_add, if_neg (show ¬ ((2 : Nat) = 1 ∧ s = t.1.toNat) by omega), if_neg (show ¬ ((2 : Nat) = 0 ∧ s = t.1.toNat) by omega), if_pos rfl]
          split <;> omega
        · rw [if_neg q1]
          by_cases q2 : t.2.2.2.1 + 1 ≤ ru.2.1
          · rw [if_pos q2]; dsimp only; rw [if_neg (by decide)]; exact this
          · rw [if_neg q2]
            by_cases q3 : ru.2.2.1 = 0
            · rw [if_pos q3]; dsimp only; rw [ta_add, if_neg (show ¬ ((2 : Nat) = 3 ∧ s = t.1.toNat) by omega), if_neg (by decide)]; omega
            · rw [if_neg q3]
              by_cases q4 : ru.2.2.1 = 1
              · rw [if_pos q4]; dsimp only; rw [if_neg (by decide)]; exact this
              · rw [if_neg q4]; dsimp only; rw [if_neg (by decide)]; exact this
theorem ofS_T {ru : Ru} {tn : Tn} {kd : Int} {L : List P5} {nx : Int} (ht : tnB tn) : (∀ s, (ofS ru tn kd L nx).2.1 5 s = 0) ∧ (∀ s, 0 ≤ (ofS ru tn kd L nx).2.1 2 s ∧ (ofS ru tn kd L nx).2.1 2 s ≤ 99) := by
  unfold ofS
  split
  · exact ⟨fun s => rfl, fun s => by simp⟩
  · exact of_T ht _ _ (fun s => rfl) (fun s => by simp)
theorem gr_fold {nd : Nat → Int} (hn : ∀ a, 0 ≤ nd a ∧ nd a ≤ 9) : ∀ (L : List P5) (T : Nat → Nat → Int) (s : Nat), (L.foldl (fun T t => ta T 5 t.1.toNat (nd t.1.toNat)) T) 2 s = T 2 s ∧ T 5 s ≤ (L.foldl (fun T t => ta T 5 t.1.toNat (nd t.1.toNat)) T) 5 s ∧ (L.foldl (fun T t => ta T 5 t.1.toNat (nd t.1.toNat)) T) 5 s ≤ T 5 s + 9 * L.length
  | [], T, s => by simp
  | t :: L, T, s => by
    rw [List.foldl_cons]
    have h := gr_fold hn L (ta T 5 t.1.toNat (nd t.1.toNat)) s
    have h2 := hn t.1.toNat
    have e1 : ta T 5 t.1.toNat (nd t.1.toNat) 2 s = T 2 s := by simp [ta]
    have e2 : T 5 s ≤ ta T 5 t.1.toNat (nd t.1.toNat) 5 s ∧ ta T 5 t.1.toNat (nd t.1.toNat) 5 s ≤ T 5 s + 9 := by
      rw [ta_add]; split <;> omega
    rw [List.length_cons]
    refine ⟨h.1.trans e1, by omega, by omega⟩
theorem wkS_T {ru : Ru} {tn : Tn} {kd js : Int} {L : List P5} {nx : Int} (ht : tnB tn) (hL : L.length ≤ 12) (s : Nat) : (0 ≤ (wkS ru tn kd js L nx).2.2.1 2 s ∧ (wkS ru tn kd js L nx).2.2.1 2 s ≤ 99) ∧ (0 ≤ (wkS ru tn kd js L nx).2.2.1 5 s ∧ (wkS ru tn kd js L nx).2.2.1 5 s ≤ 108) := by
  have h1 := ofS_T (ru := ru) (kd := kd) (L := L) (nx := nx) ht
  have h2 := ofS_len (ru := ru) (tn := tn) (kd := kd) (L := L) (nx := nx)
  unfold wkS
  dsimp only
  have h3 := h1.1 s
  have h4 := h1.2 s
  have ha : ∀ w, w ≠ 4 → (if js = -1 then 0 else arT (ofS ru tn kd L nx).1 js.toNat w s) = 0 := fun w hw => by
    by_cases hj : js = -1
    · rw [if_pos hj]
    · rw [if_neg hj]
      unfold arT; split
      · rw [ta_add, if_neg (by omega)]; rfl
      · rfl
  have hlen : (if js = -1 then (ofS ru tn kd L nx).1 else arL (ofS ru tn kd L nx).1 (ofS ru tn kd L nx).2.2.1 js.toNat).length ≤ 12 := by
    split
    · omega
    · exact arL_len (by omega)
  have h5 := gr_fold ht.1 (if js = -1 then (ofS ru tn kd L nx).1 else arL (ofS ru tn kd L nx).1 (ofS ru tn kd L nx).2.2.1 js.toNat) (fun _ _ => 0) s
  rw [ha 2 (by decide), ha 5 (by decide), h3]
  unfold grT
  try simp only [] at h5
  omega
theorem wkN_T {ru : Ru} {tn : Tn} {kd js : Int → Int} (ht : tnB tn) : ∀ (n : Nat) {wk : Int} {L : List P5} {nx : Int} (s : Nat), L.length ≤ 12 → (0 ≤ (wkN ru tn kd js n wk L nx).2.2.1 2 s ∧ (wkN ru tn kd js n wk L nx).2.2.1 2 s ≤ 99 * n) ∧ (0 ≤ (wkN ru tn kd js n wk L nx).2.2.1 5 s ∧ (wkN ru tn kd js n wk L nx).2.2.1 5 s ≤ 108 * n)
  | 0, _, _, _, s, _ => by simp [wkN]
  | n + 1, wk, L, nx, s, h => by
    have h1 := wkS_T (ru := ru) (kd := kd wk) (js := js wk) (nx := nx) ht h s
    have h2 := wkN_T (ru := ru) (kd := kd) (js := js) ht n (wk := wk + 1) (nx := (wkS ru tn (kd wk) (js wk) L nx).2.1) s (wkS_len (ru := ru) (tn := tn) (kd := kd wk) (js := js wk) (nx := nx) h)
    simp only [wkN]
    omega
theorem tnX_B {I : Nat → Nat → Int} (h : TB I) : tnB (tnX I) := by
  refine ⟨fun a => ?_, fun a b => ?_⟩
  · show 0 ≤ n4 (I 8) a ∧ n4 (I 8) a ≤ 9
    unfold n4; split
    · have := h.1 a (by assumption); omega
    · omega
  · show 0 ≤ (if a < 4 ∧ b < 4 then I (4 + a) b else 0) ∧ (if a < 4 ∧ b < 4 then I (4 + a) b else 0) ≤ 99
    split
    · rename_i q; exact h.2.1 a b q.1 q.2
    · omega
theorem tnM_B {I : Nat → Nat → Int} (h : TBM I) : tnB (tnM I) := by
  refine ⟨fun a => ?_, fun a b => ?_⟩
  · show 0 ≤ n4 (I 86) a ∧ n4 (I 86) a ≤ 9
    unfold n4; split
    · have := h.1 a (by assumption); omega
    · omega
  · show 0 ≤ (if a < 4 ∧ b < 4 then I 85 (4 * a + b) else 0) ∧ (if a < 4 ∧ b < 4 then I 85 (4 * a + b) else 0) ≤ 99
    split
    · rename_i q; exact h.2.1 a b q.1 q.2
    · omega
/-- the best so far: found, least -/
def bs (f : Nat → Int) : Nat → Int × Int
  | 0 => (-1, 0)
  | q + 1 => if (bs f q).1 = -1 ∨ f q < (bs f q).2 then ((q : Int), f q) else bs f q
theorem bs_bd {f : Nat → Int} {B : Int} (h0 : 0 ≤ B) (h : ∀ q, 0 ≤ f q ∧ f q ≤ B) : ∀ q, (-1 ≤ (bs f q).1 ∧ (bs f q).1 < q) ∧ (0 ≤ (bs f q).2 ∧ (bs f q).2 ≤ B)
  | 0 => by simp [bs]; omega
  | q + 1 => by
    have := bs_bd h0 h q
    have := h q
    unfold bs; split
    · dsimp only; omega
    · omega
def ruB (ru : Ru) (q : Nat) : Ru := (((q / 12 : Nat) : Int), ((q / 3 % 4 : Nat) : Int), ((q % 3 : Nat) : Int), ru.2.2.2)
def btX (ru : Ru) (tn : Tn) (kd js : Int → Int) (n : Nat) (wk : Int) (L : List P5) (nx : Int) (q : Nat) : Int := wsum (wkN (ruB ru q) tn kd js n wk L nx).2.2.1 5
theorem btX_bd {ru : Ru} {tn : Tn} {kd js : Int → Int} (ht : tnB tn) {n : Nat} {wk : Int} {L : List P5} {nx : Int} (h : L.length ≤ 12) (hn : n ≤ 60) (q : Nat) : 0 ≤ btX ru tn kd js n wk L nx q ∧ btX ru tn kd js n wk L nx q ≤ 100000 := by
  unfold btX wsum
  have h0 := wkN_T (ru := ruB ru q) (kd := kd) (js := js) ht n (wk := wk) (nx := nx) 0 h
  have h1 := wkN_T (ru := ruB ru q) (kd := kd) (js := js) ht n (wk := wk) (nx := nx) 1 h
  have h2 := wkN_T (ru := ruB ru q) (kd := kd) (js := js) ht n (wk := wk) (nx := nx) 2 h
  have h3 := wkN_T (ru := ruB ru q) (kd := kd) (js := js) ht n (wk := wk) (nx := nx) 3 h
  omega
theorem btX_perm {ru : Ru} {tn : Tn} {kd js : Int → Int} {n : Nat} {wk : Int} {L M : List P5} {nx : Int} (hp : L.Perm M) (hq : Nq L nx) : btX ru tn kd js n wk L nx = btX ru tn kd js n wk M nx := by
  funext q; unfold btX; rw [(wkN_perm n hp hq).2]
theorem TY.trans {I J K : Nat → Nat → Int} {F F1 F2 : Nat → Nat → Nat} {I' : Nat → Nat → Int} (h : ∀ i b, (i < 17 ∨ (20 < i ∧ i < 44) ∨ 64 < i) → I' i b = I i b) (h' : TY I' F J F2) : ∀ i b, (i < 17 ∨ (20 < i ∧ i < 44) ∨ 64 < i) → J i b = I i b := fun i b hi => (h'.1 i b (by omega)).trans (h i b hi)
theorem RB_best {I I1 : Nat → Nat → Int} {q : Nat} (h : RB 13 I) (h3 : I1 17 3 = I 13 3) (hw : ∀ s, s < 4 → I1 18 s = I 14 s ∧ I1 19 s = I 15 s ∧ I1 20 s = I 16 s) (hq : q < 36) : RB 17 (ab_u (ab_u (ab_u I1 17 0 ((q / 12 : Nat) : Int)) 17 1 ((q / 3 % 4 : Nat) : Int)) 17 2 ((q % 3 : Nat) : Int)) := by
  unfold RB at *
  refine ⟨?_, ?_, ?_, ?_, fun s hs => ?_⟩
  · rw [ab_u_j (by decide), ab_u_j (by decide), ab_u_s]; omega
  · rw [ab_u_j (by decide), ab_u_s]; omega
  · rw [ab_u_s]; omega
  · rw [ab_u_j (by decide), ab_u_j (by decide), ab_u_j (by decide), h3]; exact h.2.2.2.1
  · rw [show ∀ x, ab_u (ab_u (ab_u I1 17 0 ((q / 12 : Nat) : Int)) 17 1 ((q / 3 % 4 : Nat) : Int)) 17 2 ((q % 3 : Nat) : Int) (17 + 1) x = I1 18 x from fun x => by rw [ab_u_i (by decide), ab_u_i (by decide), ab_u_i (by decide)], show ∀ x, ab_u (ab_u (ab_u I1 17 0 ((q / 12 : Nat) : Int)) 17 1 ((q / 3 % 4 : Nat) : Int)) 17 2 ((q % 3 : Nat) : Int) (17 + 2) x = I1 19 x from fun x => by rw [ab_u_i (by decide), ab_u_i (by decide), ab_u_i (by decide)], show ∀ x, ab_u (ab_u (ab_u I1 17 0 ((q / 12 : Nat) : Int)) 17 1 ((q / 3 % 4 : Nat) : Int)) 17 2 ((q % 3 : Nat) : Int) (17 + 3) x = I1 20 x from fun x => by rw [ab_u_i (by decide), ab_u_i (by decide), ab_u_i (by decide)], (hw s hs).1, (hw s hs).2.1, (hw s hs).2.2]
    exact h.2.2.2.2 s hs
theorem ruX_best {I I1 : Nat → Nat → Int} {q : Nat} (h3 : I1 17 3 = I 13 3) (hw : ∀ s, s < 4 → I1 18 s = I 14 s ∧ I1 19 s = I 15 s ∧ I1 20 s = I 16 s) : ruX (ab_u (ab_u (ab_u I1 17 0 ((q / 12 : Nat) : Int)) 17 1 ((q / 3 % 4 : Nat) : Int)) 17 2 ((q % 3 : Nat) : Int)) 17 = ruB (ruX I 13) q := by
  have e : ∀ i b, i ≠ 17 → ab_u (ab_u (ab_u I1 17 0 ((q / 12 : Nat) : Int)) 17 1 ((q / 3 % 4 : Nat) : Int)) 17 2 ((q % 3 : Nat) : Int) i b = I1 i b := fun i b hi => by rw [ab_u_i hi, ab_u_i hi, ab_u_i hi]
  unfold ruX ruB
  dsimp only
  rw [n4_congr (fun s hs => (e 18 s (by decide)).trans (hw s hs).1), n4_congr (fun s hs => (e 19 s (by decide)).trans (hw s hs).2.1), n4_congr (fun s hs => (e 20 s (by decide)).trans (hw s hs).2.2), ab_u_s, ab_u_j (by decide), ab_u_j (by decide), ab_u_s, ab_u_j (by decide), ab_u_s, ab_u_j (by decide), ab_u_j (by decide), ab_u_j (by decide), h3]
theorem RBM_best {I I1 : Nat → Nat → Int} {q : Nat} (h : RBM I) (h95 : ∀ b, 3 ≤ b → I1 95 b = I 95 b) (hq : q < 36) : RBM (ab_u (ab_u (ab_u I1 95 0 ((q / 12 : Nat) : Int)) 95 1 ((q / 3 % 4 : Nat) : Int)) 95 2 ((q % 3 : Nat) : Int)) := by
  have e : ∀ b, 3 ≤ b → ab_u (ab_u (ab_u I1 95 0 ((q / 12 : Nat) : Int)) 95 1 ((q / 3 % 4 : Nat) : Int)) 95 2 ((q % 3 : Nat) : Int) 95 b = I 95 b := fun b hb => by rw [ab_u_j (by omega), ab_u_j (by omega), ab_u_j (by omega)]; exact h95 b hb
  refine ⟨?_, ?_, ?_, ?_, fun s hs => ?_⟩
  · rw [ab_u_j (by decide), ab_u_j (by decide), ab_u_s]; omega
  · rw [ab_u_j (by decide), ab_u_s]; omega
  · rw [ab_u_s]; omega
  · rw [e 3 (by omega)]; exact h.2.2.2.1
  · rw [e _ (by omega), e _ (by omega), e _ (by omega)]; exact h.2.2.2.2 s hs
theorem ruM_best {I I1 : Nat → Nat → Int} {q : Nat} (h95 : ∀ b, 3 ≤ b → I1 95 b = I 95 b) : ruM (ab_u (ab_u (ab_u I1 95 0 ((q / 12 : Nat) : Int)) 95 1 ((q / 3 % 4 : Nat) : Int)) 95 2 ((q % 3 : Nat) : Int)) = ruB (ruM I) q := by
  have e : ∀ b, 3 ≤ b → ab_u (ab_u (ab_u I1 95 0 ((q / 12 : Nat) : Int)) 95 1 ((q / 3 % 4 : Nat) : Int)) 95 2 ((q % 3 : Nat) : Int) 95 b = I 95 b := fun b hb => by rw [ab_u_j (by omega), ab_u_j (by omega), ab_u_j (by omega)]; exact h95 b hb
  unfold ruM ruB
  dsimp only
  rw [n4_congr (fun s hs => e (4 + 3 * s) (by omega)), n4_congr (fun s hs => e (5 + 3 * s) (by omega)), n4_congr (fun s hs => e (6 + 3 * s) (by omega)), e 3 (by omega), ab_u_s, ab_u_j (by decide), ab_u_j (by decide), ab_u_s, ab_u_j (by decide), ab_u_s]
theorem best_lb {I I1 : Nat → Nat → Int} (h96 : ∀ b, b < 16 → I1 96 b = I 95 b) (h95 : ∀ b, 3 ≤ b → I1 95 b = I 95 b) (hfr : ∀ i b, i ≠ 90 → i ≠ 91 → i ≠ 92 → i ≠ 95 → i ≠ 96 → (i = 89 → b < 88) → I1 i b = I i b) : ∀ i b, i ≠ 90 → i ≠ 91 → i ≠ 92 → i ≠ 96 → (i = 89 → b < 88) → cp I1 95 96 16 i b = I i b := by
  intro i b q1 q2 q3 q4 q5
  by_cases e : i = 95
  · subst e
    by_cases hb : b < 16
    · rw [cp_in hb]; exact h96 b hb
    · rw [cp_out hb]; exact h95 b (by omega)
  · rw [cp_ne e]; exact hfr i b q1 q2 q3 e q4 q5
set_option maxHeartbeats 4000000 in
set_option maxRecDepth 100000 in
theorem ct_X7_copy_17_13 (G : ab_G) (I : Nat → Nat → Int) (F : Nat → Nat → Nat) (hF : ab_FB F) : Ct G 1 0 0 YX7_copy [ab_r 17, ab_r 13] (104, I, F) (fun r h => r = none ∧ ∃ I2, h = (104, I2, F) ∧ (I2 17 0 = I 13 0 ∧ I2 17 1 = I 13 1 ∧ I2 17 2 = I 13 2 ∧ I2 17 3 = I 13 3) ∧ (∀ s, s < 4 → I2 (17 + 1) s = I (13 + 1) s ∧ I2 (17 + 2) s = I (13 + 2) s ∧ I2 (17 + 3) s = I (13 + 3) s) ∧ (∀ i b, (i < 17 ∨ 17 + 3 < i) → I2 i b = I i b)) := by
  refine Ct.ofW kX7_copy (ls := [some (ab_r 17), some (ab_r 13), none]) (Nat.le_of_ble_eq_true rfl) rfl ?_
  refine aw_aload_n dX7_copy_0 rfl (by decide) ?_
  refine aw_aload_n dX7_copy_1 rfl (by decide) ?_
  refine aw_geti dX7_copy_2 fX7_24 ⟨Nat.le_of_ble_eq_true rfl, Nat.le_of_ble_eq_true rfl⟩ rfl rfl ?_
  refine aw_puti dX7_copy_5 fX7_24 ⟨Nat.le_of_ble_eq_true rfl, Nat.le_of_ble_eq_true rfl⟩ rfl rfl ?_
  refine aw_aload_n dX7_copy_8 rfl (by decide) ?_
  refine aw_aload_n dX7_copy_9 rfl (by decide) ?_
  refine aw_getiv (v := I 13 1) dX7_copy_10 fX7_28 ⟨Nat.le_of_ble_eq_true rfl, Nat.le_of_ble_eq_true rfl⟩ rfl rfl (ab_u_i (by decide)) ?_
  refine aw_puti dX7_copy_13 fX7_28 ⟨Nat.le_of_ble_eq_true rfl, Nat.le_of_ble_eq_true rfl⟩ rfl rfl ?_
  refine aw_aload_n dX7_copy_16 rfl (by decide) ?_
  refine aw_aload_n dX7_copy_17 rfl (by decide) ?_
  refine aw_getiv (v := I 13 2) dX7_copy_18 fX7_31 ⟨Nat.le_of_ble_eq_true rfl, Nat.le_of_ble_eq_true rfl⟩ rfl rfl ((ab_u_i (by decide)).trans (ab_u_i (by decide))) ?_
  refine aw_puti dX7_copy_21 fX7_31 ⟨Nat.le_of_ble_eq_true rfl, Nat.le_of_ble_eq_true rfl⟩ rfl rfl ?_
  refine aw_aload_n dX7_copy_24 rfl (by decide) ?_
  refine aw_aload_n dX7_copy_25 rfl (by decide) ?_
  refine aw_getiv (v := I 13 3) dX7_copy_26 fX7_34 ⟨Nat.le_of_ble_eq_true rfl, Nat.le_of_ble_eq_true rfl⟩ rfl rfl (((ab_u_i (by decide)).trans (ab_u_i (by decide))).trans (ab_u_i (by decide))) ?_
  refine aw_puti dX7_copy_29 fX7_34 ⟨Nat.le_of_ble_eq_true rfl, Nat.le_of_ble_eq_true rfl⟩ rfl rfl ?_
  refine aw_iconst dX7_copy_32 ?_
  refine aw_istore_n (ls' := [some (ab_r 17), some (ab_r 13), some (ab_i 0)]) dX7_copy_33 (by decide) rfl ?_
  refine aw_iload_n dX7_copy_34 rfl ?_
  refine aw_iconst dX7_copy_35 ?_
  refine aw_icmp_ge (tgt := 68) dX7_copy_36 rfl ⟨by decide, by decide⟩ ⟨by decide, by decide⟩ (fun c9 => absurd c9 (by decide)) (fun _ => ?_)
  refine aw_aload_n dX7_copy_39 rfl (by decide) ?_
  refine aw_iload_n dX7_copy_40 rfl ?_
  refine aw_aload_n dX7_copy_41 rfl (by decide) ?_
  refine aw_getrv (r := 14) dX7_copy_42 fX7_9 ⟨Nat.le_of_ble_eq_true rfl, Nat.le_of_ble_eq_true rfl⟩ rfl rfl (hF.at 13 4 14 rfl rfl rfl) ?_
  refine aw_iload_n dX7_copy_45 rfl ?_
  refine aw_ialdq (q := 0) (v := I 14 0) dX7_copy_46 ⟨Nat.le_of_ble_eq_true rfl, Nat.le_of_ble_eq_true rfl⟩ rfl (by omega) (by omega) (by decide) rfl ((((ab_u_i (by decide)).trans (ab_u_i (by decide))).trans (ab_u_i (by decide))).trans (ab_u_i (by decide))) ?_
  refine aw_aload_n dX7_copy_47 rfl (by decide) ?_
  refine aw_getrv (r := 15) dX7_copy_48 fX7_15 ⟨Nat.le_of_ble_eq_true rfl, Nat.le_of_ble_eq_true rfl⟩ rfl rfl (hF.at 13 5 15 rfl rfl rfl) ?_
  refine aw_iload_n dX7_copy_51 rfl ?_
  refine aw_ialdq (q := 0) (v := I 15 0) dX7_copy_52 ⟨Nat.le_of_ble_eq_true rfl, Nat.le_of_ble_eq_true rfl⟩ rfl (by omega) (by omega) (by decide) rfl ((((ab_u_i (by decide)).trans (ab_u_i (by decide))).trans (ab_u_i (by decide))).trans (ab_u_i (by decide))) ?_
  refine aw_aload_n dX7_copy_53 rfl (by decide) ?_
  refine aw_getrv (r := 16) dX7_copy_54 fX7_18 ⟨Nat.le_of_ble_eq_true rfl, Nat.le_of_ble_eq_true rfl⟩ rfl rfl (hF.at 13 6 16 rfl rfl rfl) ?_
  refine aw_iload_n dX7_copy_57 rfl ?_
  refine aw_ialdq (q := 0) (v := I 16 0) dX7_copy_58 ⟨Nat.le_of_ble_eq_true rfl, Nat.le_of_ble_eq_true rfl⟩ rfl (by omega) (by omega) (by decide) rfl ((((ab_u_i (by decide)).trans (ab_u_i (by decide))).trans (ab_u_i (by decide))).trans (ab_u_i (by decide))) ?_
  refine aw_callV (as := [ab_i 0, ab_i (I 14 0), ab_i (I 15 0), ab_i (I 16 0)]) (rest := []) dX7_copy_59 (ct_X7_setWay_17 G (ab_u (ab_u (ab_u (ab_u I 17 0 (I 13 0)) 17 1 (I 13 1)) 17 2 (I 13 2)) 17 3 (I 13 3)) F hF 0 _ _ _ (by decide)) ⟨Nat.le_of_ble_eq_true rfl, Nat.le_of_ble_eq_true rfl⟩ rfl kc7 rfl kX7_setWay iX7_setWay eX7_setWay lX7_37 rfl (Nat.le_of_ble_eq_true rfl) (by decide) (by decide) (by decide) (by decide) ?_
  rintro _ _ ⟨rfl, rfl⟩
  refine aw_iinc (ls' := [some (ab_r 17), some (ab_r 13), some (ab_i 1)]) dX7_copy_62 (by decide) rfl rfl ?_
  refine aw_goto (tgt := 34) dX7_copy_65 rfl ?_
  refine aw_iload_n dX7_copy_34 rfl ?_
  refine aw_iconst dX7_copy_35 ?_
  refine aw_icmp_ge (tgt := 68) dX7_copy_36 rfl ⟨by decide, by decide⟩ ⟨by decide, by decide⟩ (fun c9 => absurd c9 (by decide)) (fun _ => ?_)
  refine aw_aload_n dX7_copy_39 rfl (by decide) ?_
  refine aw_iload_n dX7_copy_40 rfl ?_
  refine aw_aload_n dX7_copy_41 rfl (by decide) ?_
  refine aw_getrv (r := 14) dX7_copy_42 fX7_9 ⟨Nat.le_of_ble_eq_true rfl, Nat.le_of_ble_eq_true rfl⟩ rfl rfl (hF.at 13 4 14 rfl rfl rfl) ?_
  refine aw_iload_n dX7_copy_45 rfl ?_
  refine aw_ialdq (q := 1) (v := I 14 1) dX7_copy_46 ⟨Nat.le_of_ble_eq_true rfl, Nat.le_of_ble_eq_true rfl⟩ rfl (by omega) (by omega) (by decide) rfl (((((((ab_u_i (by decide)).trans (ab_u_i (by decide))).trans (ab_u_i (by decide))).trans (ab_u_i (by decide))).trans (ab_u_i (by decide))).trans (ab_u_i (by decide))).trans (ab_u_i (by decide))) ?_
  refine aw_aload_n dX7_copy_47 rfl (by decide) ?_
  refine aw_getrv (r := 15) dX7_copy_48 fX7_15 ⟨Nat.le_of_ble_eq_true rfl, Nat.le_of_ble_eq_true rfl⟩ rfl rfl (hF.at 13 5 15 rfl rfl rfl) ?_
  refine aw_iload_n dX7_copy_51 rfl ?_
  refine aw_ialdq (q := 1) (v := I 15 1) dX7_copy_52 ⟨Nat.le_of_ble_eq_true rfl, Nat.le_of_ble_eq_true rfl⟩ rfl (by omega) (by omega) (by decide) rfl (((((((ab_u_i (by decide)).trans (ab_u_i (by decide))).trans (ab_u_i (by decide))).trans (ab_u_i (by decide))).trans (ab_u_i (by decide))).trans (ab_u_i (by decide))).trans (ab_u_i (by decide))) ?_
  refine aw_aload_n dX7_copy_53 rfl (by decide) ?_
  refine aw_getrv (r := 16) dX7_copy_54 fX7_18 ⟨Nat.le_of_ble_eq_true rfl, Nat.le_of_ble_eq_true rfl⟩ rfl rfl (hF.at 13 6 16 rfl rfl rfl) ?_
  refine aw_iload_n dX7_copy_57 rfl ?_
  refine aw_ialdq (q := 1) (v := I 16 1) dX7_copy_58 ⟨Nat.le_of_ble_eq_true rfl, Nat.le_of_ble_eq_true rfl⟩ rfl (by omega) (by omega) (by decide) rfl (((((((ab_u_i (by decide)).trans (ab_u_i (by decide))).trans (ab_u_i (by decide))).trans (ab_u_i (by decide))).trans (ab_u_i (by decide))).trans (ab_u_i (by decide))).trans (ab_u_i (by decide))) ?_
  refine aw_callV (as := [ab_i 1, ab_i (I 14 1), ab_i (I 15 1), ab_i (I 16 1)]) (rest := []) dX7_copy_59 (ct_X7_setWay_17 G (ab_u (ab_u (ab_u (ab_u (ab_u (ab_u (ab_u I 17 0 (I 13 0)) 17 1 (I 13 1)) 17 2 (I 13 2)) 17 3 (I 13 3)) 18 0 (I 14 0)) 19 0 (I 15 0)) 20 0 (I 16 0)) F hF 1 _ _ _ (by decide)) ⟨Nat.le_of_ble_eq_true rfl, Nat.le_of_ble_eq_true rfl⟩ rfl kc7 rfl kX7_setWay iX7_setWay eX7_setWay lX7_37 rfl (Nat.le_of_ble_eq_true rfl) (by decide) (by decide) (by decide) (by decide) ?_
  rintro _ _ ⟨rfl, rfl⟩
  refine aw_iinc (ls' := [some (ab_r 17), some (ab_r 13), some (ab_i 2)]) dX7_copy_62 (by decide) rfl rfl ?_
  refine aw_goto (tgt := 34) dX7_copy_65 rfl ?_
  refine aw_iload_n dX7_copy_34 rfl ?_
  refine aw_iconst dX7_copy_35 ?_
  refine aw_icmp_ge (tgt := 68) dX7_copy_36 rfl ⟨by decide, by decide⟩ ⟨by decide, by decide⟩ (fun c9 => absurd c9 (by decide)) (fun _ => ?_)
  refine aw_aload_n dX7_copy_39 rfl (by decide) ?_
  refine aw_iload_n dX7_copy_40 rfl ?_
  refine aw_aload_n dX7_copy_41 rfl (by decide) ?_
  refine aw_getrv (r := 14) dX7_copy_42 fX7_9 ⟨Nat.le_of_ble_eq_true rfl, Nat.le_of_ble_eq_true rfl⟩ rfl rfl (hF.at 13 4 14 rfl rfl rfl) ?_
  refine aw_iload_n dX7_copy_45 rfl ?_
  refine aw_ialdq (q := 2) (v := I 14 2) dX7_copy_46 ⟨Nat.le_of_ble_eq_true rfl, Nat.le_of_ble_eq_true rfl⟩ rfl (by omega) (by omega) (by decide) rfl ((((((((((ab_u_i (by decide)).trans (ab_u_i (by decide))).trans (ab_u_i (by decide))).trans (ab_u_i (by decide))).trans (ab_u_i (by decide))).trans (ab_u_i (by decide))).trans (ab_u_i (by decide))).trans (ab_u_i (by decide))).trans (ab_u_i (by decide))).trans (ab_u_i (by decide))) ?_
  refine aw_aload_n dX7_copy_47 rfl (by decide) ?_
  refine aw_getrv (r := 15) dX7_copy_48 fX7_15 ⟨Nat.le_of_ble_eq_true rfl, Nat.le_of_ble_eq_true rfl⟩ rfl rfl (hF.at 13 5 15 rfl rfl rfl) ?_
  refine aw_iload_n dX7_copy_51 rfl ?_
  refine aw_ialdq (q := 2) (v := I 15 2) dX7_copy_52 ⟨Nat.le_of_ble_eq_true rfl, Nat.le_of_ble_eq_true rfl⟩ rfl (by omega) (by omega) (by decide) rfl ((((((((((ab_u_i (by decide)).trans (ab_u_i (by decide))).trans (ab_u_i (by decide))).trans (ab_u_i (by decide))).trans (ab_u_i (by decide))).trans (ab_u_i (by decide))).trans (ab_u_i (by decide))).trans (ab_u_i (by decide))).trans (ab_u_i (by decide))).trans (ab_u_i (by decide))) ?_
  refine aw_aload_n dX7_copy_53 rfl (by decide) ?_
  refine aw_getrv (r := 16) dX7_copy_54 fX7_18 ⟨Nat.le_of_ble_eq_true rfl, Nat.le_of_ble_eq_true rfl⟩ rfl rfl (hF.at 13 6 16 rfl rfl rfl) ?_
  refine aw_iload_n dX7_copy_57 rfl ?_
  refine aw_ialdq (q := 2) (v := I 16 2) dX7_copy_58 ⟨Nat.le_of_ble_eq_true rfl, Nat.le_of_ble_eq_true rfl⟩ rfl (by omega) (by omega) (by decide) rfl ((((((((((ab_u_i (by decide)).trans (ab_u_i (by decide))).trans (ab_u_i (by decide))).trans (ab_u_i (by decide))).trans (ab_u_i (by decide))).trans (ab_u_i (by decide))).trans (ab_u_i (by decide))).trans (ab_u_i (by decide))).trans (ab_u_i (by decide))).trans (ab_u_i (by decide))) ?_
  refine aw_callV (as := [ab_i 2, ab_i (I 14 2), ab_i (I 15 2), ab_i (I 16 2)]) (rest := []) dX7_copy_59 (ct_X7_setWay_17 G (ab_u (ab_u (ab_u (ab_u (ab_u (ab_u (ab_u (ab_u (ab_u (ab_u I 17 0 (I 13 0)) 17 1 (I 13 1)) 17 2 (I 13 2)) 17 3 (I 13 3)) 18 0 (I 14 0)) 19 0 (I 15 0)) 20 0 (I 16 0)) 18 1 (I 14 1)) 19 1 (I 15 1)) 20 1 (I 16 1)) F hF 2 _ _ _ (by decide)) ⟨Nat.le_of_ble_eq_true rfl, Nat.le_of_ble_eq_true rfl⟩ rfl kc7 rfl kX7_setWay iX7_setWay eX7_setWay lX7_37 rfl (Nat.le_of_ble_eq_true rfl) (by decide) (by decide) (by decide) (by decide) ?_
  rintro _ _ ⟨rfl, rfl⟩
  refine aw_iinc (ls' := [some (ab_r 17), some (ab_r 13), some (ab_i 3)]) dX7_copy_62 (by decide) rfl rfl ?_
  refine aw_goto (tgt := 34) dX7_copy_65 rfl ?_
  refine aw_iload_n dX7_copy_34 rfl ?_
  refine aw_iconst dX7_copy_35 ?_
  refine aw_icmp_ge (tgt := 68) dX7_copy_36 rfl ⟨by decide, by decide⟩ ⟨by decide, by decide⟩ (fun c9 => absurd c9 (by decide)) (fun _ => ?_)
  refine aw_aload_n dX7_copy_39 rfl (by decide) ?_
  refine aw_iload_n dX7_copy_40 rfl ?_
  refine aw_aload_n dX7_copy_41 rfl (by decide) ?_
  refine aw_getrv (r := 14) dX7_copy_42 fX7_9 ⟨Nat.le_of_ble_eq_true rfl, Nat.le_of_ble_eq_true rfl⟩ rfl rfl (hF.at 13 4 14 rfl rfl rfl) ?_
  refine aw_iload_n dX7_copy_45 rfl ?_
  refine aw_ialdq (q := 3) (v := I 14 3) dX7_copy_46 ⟨Nat.le_of_ble_eq_true rfl, Nat.le_of_ble_eq_true rfl⟩ rfl (by omega) (by omega) (by decide) rfl (((((((((((((ab_u_i (by decide)).trans (ab_u_i (by decide))).trans (ab_u_i (by decide))).trans (ab_u_i (by decide))).trans (ab_u_i (by decide))).trans (ab_u_i (by decide))).trans (ab_u_i (by decide))).trans (ab_u_i (by decide))).trans (ab_u_i (by decide))).trans (ab_u_i (by decide))).trans (ab_u_i (by decide))).trans (ab_u_i (by decide))).trans (ab_u_i (by decide))) ?_
  refine aw_aload_n dX7_copy_47 rfl (by decide) ?_
  refine aw_getrv (r := 15) dX7_copy_48 fX7_15 ⟨Nat.le_of_ble_eq_true rfl, Nat.le_of_ble_eq_true rfl⟩ rfl rfl (hF.at 13 5 15 rfl rfl rfl) ?_
  refine aw_iload_n dX7_copy_51 rfl ?_
  refine aw_ialdq (q := 3) (v := I 15 3) dX7_copy_52 ⟨Nat.le_of_ble_eq_true rfl, Nat.le_of_ble_eq_true rfl⟩ rfl (by omega) (by omega) (by decide) rfl (((((((((((((ab_u_i (by decide)).trans (ab_u_i (by decide))).trans (ab_u_i (by decide))).trans (ab_u_i (by decide))).trans (ab_u_i (by decide))).trans (ab_u_i (by decide))).trans (ab_u_i (by decide))).trans (ab_u_i (by decide))).trans (ab_u_i (by decide))).trans (ab_u_i (by decide))).trans (ab_u_i (by decide))).trans (ab_u_i (by decide))).trans (ab_u_i (by decide))) ?_
  refine aw_aload_n dX7_copy_53 rfl (by decide) ?_
  refine aw_getrv (r := 16) dX7_copy_54 fX7_18 ⟨Nat.le_of_ble_eq_true rfl, Nat.le_of_ble_eq_true rfl⟩ rfl rfl (hF.at 13 6 16 rfl rfl rfl) ?_
  refine aw_iload_n dX7_copy_57 rfl ?_
  refine aw_ialdq (q := 3) (v := I 16 3) dX7_copy_58 ⟨Nat.le_of_ble_eq_true rfl, Nat.le_of_ble_eq_true rfl⟩ rfl (by omega) (by omega) (by decide) rfl (((((((((((((ab_u_i (by decide)).trans (ab_u_i (by decide))).trans (ab_u_i (by decide))).trans (ab_u_i (by decide))).trans (ab_u_i (by decide))).trans (ab_u_i (by decide))).trans (ab_u_i (by decide))).trans (ab_u_i (by decide))).trans (ab_u_i (by decide))).trans (ab_u_i (by decide))).trans (ab_u_i (by decide))).trans (ab_u_i (by decide))).trans (ab_u_i (by decide))) ?_
  refine aw_callV (as := [ab_i 3, ab_i (I 14 3), ab_i (I 15 3), ab_i (I 16 3)]) (rest := []) dX7_copy_59 (ct_X7_setWay_17 G (ab_u (ab_u (ab_u (ab_u (ab_u (ab_u (ab_u (ab_u (ab_u (ab_u (ab_u (ab_u (ab_u I 17 0 (I 13 0)) 17 1 (I 13 1)) 17 2 (I 13 2)) 17 3 (I 13 3)) 18 0 (I 14 0)) 19 0 (I 15 0)) 20 0 (I 16 0)) 18 1 (I 14 1)) 19 1 (I 15 1)) 20 1 (I 16 1)) 18 2 (I 14 2)) 19 2 (I 15 2)) 20 2 (I 16 2)) F hF 3 _ _ _ (by decide)) ⟨Nat.le_of_ble_eq_true rfl, Nat.le_of_ble_eq_true rfl⟩ rfl kc7 rfl kX7_setWay iX7_setWay eX7_setWay lX7_37 rfl (Nat.le_of_ble_eq_true rfl) (by decide) (by decide) (by decide) (by decide) ?_
  rintro _ _ ⟨rfl, rfl⟩
  refine aw_iinc (ls' := [some (ab_r 17), some (ab_r 13), some (ab_i 4)]) dX7_copy_62 (by decide) rfl rfl ?_
  refine aw_goto (tgt := 34) dX7_copy_65 rfl ?_
  refine aw_iload_n dX7_copy_34 rfl ?_
  refine aw_iconst dX7_copy_35 ?_
  refine aw_icmp_ge (tgt := 68) dX7_copy_36 rfl ⟨by decide, by decide⟩ ⟨by decide, by decide⟩ (fun _ => ?_) (fun c9 => absurd (by decide) c9)
  refine aw_return dX7_copy_68 rfl ?_
  refine ⟨rfl, _, rfl, ⟨rfl, rfl, rfl, rfl⟩, fun s hs => ?_, fun i b hi => ?_⟩
  · match s, hs with
    | 0, _ => exact ⟨rfl, rfl, rfl⟩
    | 1, _ => exact ⟨rfl, rfl, rfl⟩
    | 2, _ => exact ⟨rfl, rfl, rfl⟩
    | 3, _ => exact ⟨rfl, rfl, rfl⟩
  · rw [ab_u_i (by omega), ab_u_i (by omega), ab_u_i (by omega), ab_u_i (by omega), ab_u_i (by omega), ab_u_i (by omega), ab_u_i (by omega), ab_u_i (by omega), ab_u_i (by omega), ab_u_i (by omega), ab_u_i (by omega), ab_u_i (by omega), ab_u_i (by omega), ab_u_i (by omega), ab_u_i (by omega), ab_u_i (by omega)]
set_option maxHeartbeats 4000000 in
set_option maxRecDepth 100000 in
theorem ct_X7_copy_13_17 (G : ab_G) (I : Nat → Nat → Int) (F : Nat → Nat → Nat) (hF : ab_FB F) : Ct G 1 0 0 YX7_copy [ab_r 13, ab_r 17] (104, I, F) (fun r h => r = none ∧ ∃ I2, h = (104, I2, F) ∧ (I2 13 0 = I 17 0 ∧ I2 13 1 = I 17 1 ∧ I2 13 2 = I 17 2 ∧ I2 13 3 = I 17 3) ∧ (∀ s, s < 4 → I2 (13 + 1) s = I (17 + 1) s ∧ I2 (13 + 2) s = I (17 + 2) s ∧ I2 (13 + 3) s = I (17 + 3) s) ∧ (∀ i b, (i < 13 ∨ 13 + 3 < i) → I2 i b = I i b)) := by
  refine Ct.ofW kX7_copy (ls := [some (ab_r 13), some (ab_r 17), none]) (Nat.le_of_ble_eq_true rfl) rfl ?_
  refine aw_aload_n dX7_copy_0 rfl (by decide) ?_
  refine aw_aload_n dX7_copy_1 rfl (by decide) ?_
  refine aw_geti dX7_copy_2 fX7_24 ⟨Nat.le_of_ble_eq_true rfl, Nat.le_of_ble_eq_true rfl⟩ rfl rfl ?_
  refine aw_puti dX7_copy_5 fX7_24 ⟨Nat.le_of_ble_eq_true rfl, Nat.le_of_ble_eq_true rfl⟩ rfl rfl ?_
  refine aw_aload_n dX7_copy_8 rfl (by decide) ?_
  refine aw_aload_n dX7_copy_9 rfl (by decide) ?_
  refine aw_getiv (v := I 17 1) dX7_copy_10 fX7_28 ⟨Nat.le_of_ble_eq_true rfl, Nat.le_of_ble_eq_true rfl⟩ rfl rfl (ab_u_i (by decide)) ?_
  refine aw_puti dX7_copy_13 fX7_28 ⟨Nat.le_of_ble_eq_true rfl, Nat.le_of_ble_eq_true rfl⟩ rfl rfl ?_
  refine aw_aload_n dX7_copy_16 rfl (by decide) ?_
  refine aw_aload_n dX7_copy_17 rfl (by decide) ?_
  refine aw_getiv (v := I 17 2) dX7_copy_18 fX7_31 ⟨Nat.le_of_ble_eq_true rfl, Nat.le_of_ble_eq_true rfl⟩ rfl rfl ((ab_u_i (by decide)).trans (ab_u_i (by decide))) ?_
  refine aw_puti dX7_copy_21 fX7_31 ⟨Nat.le_of_ble_eq_true rfl, Nat.le_of_ble_eq_true rfl⟩ rfl rfl ?_
  refine aw_aload_n dX7_copy_24 rfl (by decide) ?_
  refine aw_aload_n dX7_copy_25 rfl (by decide) ?_
  refine aw_getiv (v := I 17 3) dX7_copy_26 fX7_34 ⟨Nat.le_of_ble_eq_true rfl, Nat.le_of_ble_eq_true rfl⟩ rfl rfl (((ab_u_i (by decide)).trans (ab_u_i (by decide))).trans (ab_u_i (by decide))) ?_
  refine aw_puti dX7_copy_29 fX7_34 ⟨Nat.le_of_ble_eq_true rfl, Nat.le_of_ble_eq_true rfl⟩ rfl rfl ?_
  refine aw_iconst dX7_copy_32 ?_
  refine aw_istore_n (ls' := [some (ab_r 13), some (ab_r 17), some (ab_i 0)]) dX7_copy_33 (by decide) rfl ?_
  refine aw_iload_n dX7_copy_34 rfl ?_
  refine aw_iconst dX7_copy_35 ?_
  refine aw_icmp_ge (tgt := 68) dX7_copy_36 rfl ⟨by decide, by decide⟩ ⟨by decide, by decide⟩ (fun c9 => absurd c9 (by decide)) (fun _ => ?_)
  refine aw_aload_n dX7_copy_39 rfl (by decide) ?_
  refine aw_iload_n dX7_copy_40 rfl ?_
  refine aw_aload_n dX7_copy_41 rfl (by decide) ?_
  refine aw_getrv (r := 18) dX7_copy_42 fX7_9 ⟨Nat.le_of_ble_eq_true rfl, Nat.le_of_ble_eq_true rfl⟩ rfl rfl (hF.at 17 4 18 rfl rfl rfl) ?_
  refine aw_iload_n dX7_copy_45 rfl ?_
  refine aw_ialdq (q := 0) (v := I 18 0) dX7_copy_46 ⟨Nat.le_of_ble_eq_true rfl, Nat.le_of_ble_eq_true rfl⟩ rfl (by omega) (by omega) (by decide) rfl ((((ab_u_i (by decide)).trans (ab_u_i (by decide))).trans (ab_u_i (by decide))).trans (ab_u_i (by decide))) ?_
  refine aw_aload_n dX7_copy_47 rfl (by decide) ?_
  refine aw_getrv (r := 19) dX7_copy_48 fX7_15 ⟨Nat.le_of_ble_eq_true rfl, Nat.le_of_ble_eq_true rfl⟩ rfl rfl (hF.at 17 5 19 rfl rfl rfl) ?_
  refine aw_iload_n dX7_copy_51 rfl ?_
  refine aw_ialdq (q := 0) (v := I 19 0) dX7_copy_52 ⟨Nat.le_of_ble_eq_true rfl, Nat.le_of_ble_eq_true rfl⟩ rfl (by omega) (by omega) (by decide) rfl ((((ab_u_i (by decide)).trans (ab_u_i (by decide))).trans (ab_u_i (by decide))).trans (ab_u_i (by decide))) ?_
  refine aw_aload_n dX7_copy_53 rfl (by decide) ?_
  refine aw_getrv (r := 20) dX7_copy_54 fX7_18 ⟨Nat.le_of_ble_eq_true rfl, Nat.le_of_ble_eq_true rfl⟩ rfl rfl (hF.at 17 6 20 rfl rfl rfl) ?_
  refine aw_iload_n dX7_copy_57 rfl ?_
  refine aw_ialdq (q := 0) (v := I 20 0) dX7_copy_58 ⟨Nat.le_of_ble_eq_true rfl, Nat.le_of_ble_eq_true rfl⟩ rfl (by omega) (by omega) (by decide) rfl ((((ab_u_i (by decide)).trans (ab_u_i (by decide))).trans (ab_u_i (by decide))).trans (ab_u_i (by decide))) ?_
  refine aw_callV (as := [ab_i 0, ab_i (I 18 0), ab_i (I 19 0), ab_i (I 20 0)]) (rest := []) dX7_copy_59 (ct_X7_setWay_13 G (ab_u (ab_u (ab_u (ab_u I 13 0 (I 17 0)) 13 1 (I 17 1)) 13 2 (I 17 2)) 13 3 (I 17 3)) F hF 0 _ _ _ (by decide)) ⟨Nat.le_of_ble_eq_true rfl, Nat.le_of_ble_eq_true rfl⟩ rfl kc7 rfl kX7_setWay iX7_setWay eX7_setWay lX7_37 rfl (Nat.le_of_ble_eq_true rfl) (by decide) (by decide) (by decide) (by decide) ?_
  rintro _ _ ⟨rfl, rfl⟩
  refine aw_iinc (ls' := [some (ab_r 13), some (ab_r 17), some (ab_i 1)]) dX7_copy_62 (by decide) rfl rfl ?_
  refine aw_goto (tgt := 34) dX7_copy_65 rfl ?_
  refine aw_iload_n dX7_copy_34 rfl ?_
  refine aw_iconst dX7_copy_35 ?_
  refine aw_icmp_ge (tgt := 68) dX7_copy_36 rfl ⟨by decide, by decide⟩ ⟨by decide, by decide⟩ (fun c9 => absurd c9 (by decide)) (fun _ => ?_)
  refine aw_aload_n dX7_copy_39 rfl (by decide) ?_
  refine aw_iload_n dX7_copy_40 rfl ?_
  refine aw_aload_n dX7_copy_41 rfl (by decide) ?_
  refine aw_getrv (r := 18) dX7_copy_42 fX7_9 ⟨Nat.le_of_ble_eq_true rfl, Nat.le_of_ble_eq_true rfl⟩ rfl rfl (hF.at 17 4 18 rfl rfl rfl) ?_
  refine aw_iload_n dX7_copy_45 rfl ?_
  refine aw_ialdq (q := 1) (v := I 18 1) dX7_copy_46 ⟨Nat.le_of_ble_eq_true rfl, Nat.le_of_ble_eq_true rfl⟩ rfl (by omega) (by omega) (by decide) rfl (((((((ab_u_i (by decide)).trans (ab_u_i (by decide))).trans (ab_u_i (by decide))).trans (ab_u_i (by decide))).trans (ab_u_i (by decide))).trans (ab_u_i (by decide))).trans (ab_u_i (by decide))) ?_
  refine aw_aload_n dX7_copy_47 rfl (by decide) ?_
  refine aw_getrv (r := 19) dX7_copy_48 fX7_15 ⟨Nat.le_of_ble_eq_true rfl, Nat.le_of_ble_eq_true rfl⟩ rfl rfl (hF.at 17 5 19 rfl rfl rfl) ?_
  refine aw_iload_n dX7_copy_51 rfl ?_
  refine aw_ialdq (q := 1) (v := I 19 1) dX7_copy_52 ⟨Nat.le_of_ble_eq_true rfl, Nat.le_of_ble_eq_true rfl⟩ rfl (by omega) (by omega) (by decide) rfl (((((((ab_u_i (by decide)).trans (ab_u_i (by decide))).trans (ab_u_i (by decide))).trans (ab_u_i (by decide))).trans (ab_u_i (by decide))).trans (ab_u_i (by decide))).trans (ab_u_i (by decide))) ?_
  refine aw_aload_n dX7_copy_53 rfl (by decide) ?_
  refine aw_getrv (r := 20) dX7_copy_54 fX7_18 ⟨Nat.le_of_ble_eq_true rfl, Nat.le_of_ble_eq_true rfl⟩ rfl rfl (hF.at 17 6 20 rfl rfl rfl) ?_
  refine aw_iload_n dX7_copy_57 rfl ?_
  refine aw_ialdq (q := 1) (v := I 20 1) dX7_copy_58 ⟨Nat.le_of_ble_eq_true rfl, Nat.le_of_ble_eq_true rfl⟩ rfl (by omega) (by omega) (by decide) rfl (((((((ab_u_i (by decide)).trans (ab_u_i (by decide))).trans (ab_u_i (by decide))).trans (ab_u_i (by decide))).trans (ab_u_i (by decide))).trans (ab_u_i (by decide))).trans (ab_u_i (by decide))) ?_
  refine aw_callV (as := [ab_i 1, ab_i (I 18 1), ab_i (I 19 1), ab_i (I 20 1)]) (rest := []) dX7_copy_59 (ct_X7_setWay_13 G (ab_u (ab_u (ab_u (ab_u (ab_u (ab_u (ab_u I 13 0 (I 17 0)) 13 1 (I 17 1)) 13 2 (I 17 2)) 13 3 (I 17 3)) 14 0 (I 18 0)) 15 0 (I 19 0)) 16 0 (I 20 0)) F hF 1 _ _ _ (by decide)) ⟨Nat.le_of_ble_eq_true rfl, Nat.le_of_ble_eq_true rfl⟩ rfl kc7 rfl kX7_setWay iX7_setWay eX7_setWay lX7_37 rfl (Nat.le_of_ble_eq_true rfl) (by decide) (by decide) (by decide) (by decide) ?_
  rintro _ _ ⟨rfl, rfl⟩
  refine aw_iinc (ls' := [some (ab_r 13), some (ab_r 17), some (ab_i 2)]) dX7_copy_62 (by decide) rfl rfl ?_
  refine aw_goto (tgt := 34) dX7_copy_65 rfl ?_
  refine aw_iload_n dX7_copy_34 rfl ?_
  refine aw_iconst dX7_copy_35 ?_
  refine aw_icmp_ge (tgt := 68) dX7_copy_36 rfl ⟨by decide, by decide⟩ ⟨by decide, by decide⟩ (fun c9 => absurd c9 (by decide)) (fun _ => ?_)
  refine aw_aload_n dX7_copy_39 rfl (by decide) ?_
  refine aw_iload_n dX7_copy_40 rfl ?_
  refine aw_aload_n dX7_copy_41 rfl (by decide) ?_
  refine aw_getrv (r := 18) dX7_copy_42 fX7_9 ⟨Nat.le_of_ble_eq_true rfl, Nat.le_of_ble_eq_true rfl⟩ rfl rfl (hF.at 17 4 18 rfl rfl rfl) ?_
  refine aw_iload_n dX7_copy_45 rfl ?_
  refine aw_ialdq (q := 2) (v := I 18 2) dX7_copy_46 ⟨Nat.le_of_ble_eq_true rfl, Nat.le_of_ble_eq_true rfl⟩ rfl (by omega) (by omega) (by decide) rfl ((((((((((ab_u_i (by decide)).trans (ab_u_i (by decide))).trans (ab_u_i (by decide))).trans (ab_u_i (by decide))).trans (ab_u_i (by decide))).trans (ab_u_i (by decide))).trans (ab_u_i (by decide))).trans (ab_u_i (by decide))).trans (ab_u_i (by decide))).trans (ab_u_i (by decide))) ?_
  refine aw_aload_n dX7_copy_47 rfl (by decide) ?_
  refine aw_getrv (r := 19) dX7_copy_48 fX7_15 ⟨Nat.le_of_ble_eq_true rfl, Nat.le_of_ble_eq_true rfl⟩ rfl rfl (hF.at 17 5 19 rfl rfl rfl) ?_
  refine aw_iload_n dX7_copy_51 rfl ?_
  refine aw_ialdq (q := 2) (v := I 19 2) dX7_copy_52 ⟨Nat.le_of_ble_eq_true rfl, Nat.le_of_ble_eq_true rfl⟩ rfl (by omega) (by omega) (by decide) rfl ((((((((((ab_u_i (by decide)).trans (ab_u_i (by decide))).trans (ab_u_i (by decide))).trans (ab_u_i (by decide))).trans (ab_u_i (by decide))).trans (ab_u_i (by decide))).trans (ab_u_i (by decide))).trans (ab_u_i (by decide))).trans (ab_u_i (by decide))).trans (ab_u_i (by decide))) ?_
  refine aw_aload_n dX7_copy_53 rfl (by decide) ?_
  refine aw_getrv (r := 20) dX7_copy_54 fX7_18 ⟨Nat.le_of_ble_eq_true rfl, Nat.le_of_ble_eq_true rfl⟩ rfl rfl (hF.at 17 6 20 rfl rfl rfl) ?_
  refine aw_iload_n dX7_copy_57 rfl ?_
  refine aw_ialdq (q := 2) (v := I 20 2) dX7_copy_58 ⟨Nat.le_of_ble_eq_true rfl, Nat.le_of_ble_eq_true rfl⟩ rfl (by omega) (by omega) (by decide) rfl ((((((((((ab_u_i (by decide)).trans (ab_u_i (by decide))).trans (ab_u_i (by decide))).trans (ab_u_i (by decide))).trans (ab_u_i (by decide))).trans (ab_u_i (by decide))).trans (ab_u_i (by decide))).trans (ab_u_i (by decide))).trans (ab_u_i (by decide))).trans (ab_u_i (by decide))) ?_
  refine aw_callV (as := [ab_i 2, ab_i (I 18 2), ab_i (I 19 2), ab_i (I 20 2)]) (rest := []) dX7_copy_59 (ct_X7_setWay_13 G (ab_u (ab_u (ab_u (ab_u (ab_u (ab_u (ab_u (ab_u (ab_u (ab_u I 13 0 (I 17 0)) 13 1 (I 17 1)) 13 2 (I 17 2)) 13 3 (I 17 3)) 14 0 (I 18 0)) 15 0 (I 19 0)) 16 0 (I 20 0)) 14 1 (I 18 1)) 15 1 (I 19 1)) 16 1 (I 20 1)) F hF 2 _ _ _ (by decide)) ⟨Nat.le_of_ble_eq_true rfl, Nat.le_of_ble_eq_true rfl⟩ rfl kc7 rfl kX7_setWay iX7_setWay eX7_setWay lX7_37 rfl (Nat.le_of_ble_eq_true rfl) (by decide) (by decide) (by decide) (by decide) ?_
  rintro _ _ ⟨rfl, rfl⟩
  refine aw_iinc (ls' := [some (ab_r 13), some (ab_r 17), some (ab_i 3)]) dX7_copy_62 (by decide) rfl rfl ?_
  refine aw_goto (tgt := 34) dX7_copy_65 rfl ?_
  refine aw_iload_n dX7_copy_34 rfl ?_
  refine aw_iconst dX7_copy_35 ?_
  refine aw_icmp_ge (tgt := 68) dX7_copy_36 rfl ⟨by decide, by decide⟩ ⟨by decide, by decide⟩ (fun c9 => absurd c9 (by decide)) (fun _ => ?_)
  refine aw_aload_n dX7_copy_39 rfl (by decide) ?_
  refine aw_iload_n dX7_copy_40 rfl ?_
  refine aw_aload_n dX7_copy_41 rfl (by decide) ?_
  refine aw_getrv (r := 18) dX7_copy_42 fX7_9 ⟨Nat.le_of_ble_eq_true rfl, Nat.le_of_ble_eq_true rfl⟩ rfl rfl (hF.at 17 4 18 rfl rfl rfl) ?_
  refine aw_iload_n dX7_copy_45 rfl ?_
  refine aw_ialdq (q := 3) (v := I 18 3) dX7_copy_46 ⟨Nat.le_of_ble_eq_true rfl, Nat.le_of_ble_eq_true rfl⟩ rfl (by omega) (by omega) (by decide) rfl (((((((((((((ab_u_i (by decide)).trans (ab_u_i (by decide))).trans (ab_u_i (by decide))).trans (ab_u_i (by decide))).trans (ab_u_i (by decide))).trans (ab_u_i (by decide))).trans (ab_u_i (by decide))).trans (ab_u_i (by decide))).trans (ab_u_i (by decide))).trans (ab_u_i (by decide))).trans (ab_u_i (by decide))).trans (ab_u_i (by decide))).trans (ab_u_i (by decide))) ?_
  refine aw_aload_n dX7_copy_47 rfl (by decide) ?_
  refine aw_getrv (r := 19) dX7_copy_48 fX7_15 ⟨Nat.le_of_ble_eq_true rfl, Nat.le_of_ble_eq_true rfl⟩ rfl rfl (hF.at 17 5 19 rfl rfl rfl) ?_
  refine aw_iload_n dX7_copy_51 rfl ?_
  refine aw_ialdq (q := 3) (v := I 19 3) dX7_copy_52 ⟨Nat.le_of_ble_eq_true rfl, Nat.le_of_ble_eq_true rfl⟩ rfl (by omega) (by omega) (by decide) rfl (((((((((((((ab_u_i (by decide)).trans (ab_u_i (by decide))).trans (ab_u_i (by decide))).trans (ab_u_i (by decide))).trans (ab_u_i (by decide))).trans (ab_u_i (by decide))).trans (ab_u_i (by decide))).trans (ab_u_i (by decide))).trans (ab_u_i (by decide))).trans (ab_u_i (by decide))).trans (ab_u_i (by decide))).trans (ab_u_i (by decide))).trans (ab_u_i (by decide))) ?_
  refine aw_aload_n dX7_copy_53 rfl (by decide) ?_
  refine aw_getrv (r := 20) dX7_copy_54 fX7_18 ⟨Nat.le_of_ble_eq_true rfl, Nat.le_of_ble_eq_true rfl⟩ rfl rfl (hF.at 17 6 20 rfl rfl rfl) ?_
  refine aw_iload_n dX7_copy_57 rfl ?_
  refine aw_ialdq (q := 3) (v := I 20 3) dX7_copy_58 ⟨Nat.le_of_ble_eq_true rfl, Nat.le_of_ble_eq_true rfl⟩ rfl (by omega) (by omega) (by decide) rfl (((((((((((((ab_u_i (by decide)).trans (ab_u_i (by decide))).trans (ab_u_i (by decide))).trans (ab_u_i (by decide))).trans (ab_u_i (by decide))).trans (ab_u_i (by decide))).trans (ab_u_i (by decide))).trans (ab_u_i (by decide))).trans (ab_u_i (by decide))).trans (ab_u_i (by decide))).trans (ab_u_i (by decide))).trans (ab_u_i (by decide))).trans (ab_u_i (by decide))) ?_
  refine aw_callV (as := [ab_i 3, ab_i (I 18 3), ab_i (I 19 3), ab_i (I 20 3)]) (rest := []) dX7_copy_59 (ct_X7_setWay_13 G (ab_u (ab_u (ab_u (ab_u (ab_u (ab_u (ab_u (ab_u (ab_u (ab_u (ab_u (ab_u (ab_u I 13 0 (I 17 0)) 13 1 (I 17 1)) 13 2 (I 17 2)) 13 3 (I 17 3)) 14 0 (I 18 0)) 15 0 (I 19 0)) 16 0 (I 20 0)) 14 1 (I 18 1)) 15 1 (I 19 1)) 16 1 (I 20 1)) 14 2 (I 18 2)) 15 2 (I 19 2)) 16 2 (I 20 2)) F hF 3 _ _ _ (by decide)) ⟨Nat.le_of_ble_eq_true rfl, Nat.le_of_ble_eq_true rfl⟩ rfl kc7 rfl kX7_setWay iX7_setWay eX7_setWay lX7_37 rfl (Nat.le_of_ble_eq_true rfl) (by decide) (by decide) (by decide) (by decide) ?_
  rintro _ _ ⟨rfl, rfl⟩
  refine aw_iinc (ls' := [some (ab_r 13), some (ab_r 17), some (ab_i 4)]) dX7_copy_62 (by decide) rfl rfl ?_
  refine aw_goto (tgt := 34) dX7_copy_65 rfl ?_
  refine aw_iload_n dX7_copy_34 rfl ?_
  refine aw_iconst dX7_copy_35 ?_
  refine aw_icmp_ge (tgt := 68) dX7_copy_36 rfl ⟨by decide, by decide⟩ ⟨by decide, by decide⟩ (fun _ => ?_) (fun c9 => absurd (by decide) c9)
  refine aw_return dX7_copy_68 rfl ?_
  refine ⟨rfl, _, rfl, ⟨rfl, rfl, rfl, rfl⟩, fun s hs => ?_, fun i b hi => ?_⟩
  · match s, hs with
    | 0, _ => exact ⟨rfl, rfl, rfl⟩
    | 1, _ => exact ⟨rfl, rfl, rfl⟩
    | 2, _ => exact ⟨rfl, rfl, rfl⟩
    | 3, _ => exact ⟨rfl, rfl, rfl⟩
  · rw [ab_u_i (by omega), ab_u_i (by omega), ab_u_i (by omega), ab_u_i (by omega), ab_u_i (by omega), ab_u_i (by omega), ab_u_i (by omega), ab_u_i (by omega), ab_u_i (by omega), ab_u_i (by omega), ab_u_i (by omega), ab_u_i (by omega), ab_u_i (by omega), ab_u_i (by omega), ab_u_i (by omega), ab_u_i (by omega)]
set_option maxHeartbeats 4000000 in
set_option maxRecDepth 100000 in
theorem ct_X11_best_bad (G : ab_G) (I : Nat → Nat → Int) (F : Nat → Nat → Nat) (hF : ab_FB F) (a : Int) (ha : ab_In a) (b : Int) (hb : ab_In b)  (hbad : ¬ ((1 ≤ a ∧ a ≤ 60) ∧ (0 ≤ b ∧ b ≤ 1))) : Ct G 5 0 0 YX11_best [ab_r 1, ab_i a, ab_i b] (104, I, F) (fun r h => r = some (ab_i (-3)) ∧ h = (104, I, F)) := by
  refine Ct.ofW kX11_best (ls := [some (ab_r 1), some (ab_i a), some (ab_i b), none, none, none, none]) (Nat.le_of_ble_eq_true rfl) rfl ?_
  refine aw_iload_n dX11_best_0 rfl ?_
  refine aw_iconst dX11_best_1 ?_
  refine aw_bipush dX11_best_2 rfl ?_
  refine aw_callS (as := [ab_i a, ab_i 1, ab_i 60]) (rest := []) dX11_best_4 (ct_X11_within G (104, I, F) a 1 60 (by first | assumption | (unfold ab_In at *; omega)) (by first | assumption | (unfold ab_In at *; omega)) (by first | assumption | (unfold ab_In at *; omega))) kX11_within sX11_within lX11_89 rfl (Nat.le_of_ble_eq_true rfl) (by decide) (by decide) (by decide) (by decide) ?_
  rintro r9 _ ⟨e9, rfl⟩
  by_cases q1 : 1 ≤ a ∧ a ≤ 60
  · rw [if_pos q1] at e9
    subst e9
    refine aw_if_eq (tgt := 19) dX11_best_7 rfl ⟨by decide, by decide⟩ (fun c9 => absurd c9 (by decide)) (fun _ => ?_)
    refine aw_iload_n dX11_best_10 rfl ?_
    refine aw_iconst dX11_best_11 ?_
    refine aw_iconst dX11_best_12 ?_
    refine aw_callS (as := [ab_i b, ab_i 0, ab_i 1]) (rest := []) dX11_best_13 (ct_X11_within G (104, I, F) b 0 1 (by first | assumption | (unfold ab_In at *; omega)) (by first | assumption | (unfold ab_In at *; omega)) (by first | assumption | (unfold ab_In at *; omega))) kX11_within sX11_within lX11_89 rfl (Nat.le_of_ble_eq_true rfl) (by decide) (by decide) (by decide) (by decide) ?_
    rintro r9 _ ⟨e9, rfl⟩
    by_cases q2 : 0 ≤ b ∧ b ≤ 1
    · rw [if_pos q2] at e9
      subst e9
      refine aw_if_ne (tgt := 22) dX11_best_16 rfl ⟨by decide, by decide⟩ (fun _ => ?_) (fun c9 => absurd c9 (by decide))
      exfalso; omega
    · rw [if_neg q2] at e9
      subst e9
      refine aw_if_ne (tgt := 22) dX11_best_16 rfl ⟨by decide, by decide⟩ (fun c9 => absurd rfl c9) (fun _ => ?_)
      refine aw_bipush dX11_best_19 rfl ?_
      refine aw_ireturn dX11_best_21 rfl ?_
      exact ⟨by first | rw [if_pos (by omega)] | rw [if_neg (by omega)] | rfl, rfl⟩
  · rw [if_neg q1] at e9
    subst e9
    refine aw_if_eq (tgt := 19) dX11_best_7 rfl ⟨by decide, by decide⟩ (fun _ => ?_) (fun c9 => absurd (by decide) c9)
    refine aw_bipush dX11_best_19 rfl ?_
    refine aw_ireturn dX11_best_21 rfl ?_
    exact ⟨by first | rw [if_pos (by omega)] | rw [if_neg (by omega)] | rfl, rfl⟩
set_option maxHeartbeats 4000000 in
set_option maxRecDepth 100000 in
theorem ct_X12_best_bad (G : ab_G) (I : Nat → Nat → Int) (F : Nat → Nat → Nat) (hF : ab_FB F) (a : Int) (ha : ab_In a) (b : Int) (hb : ab_In b)  (hbad : ¬ ((1 ≤ a ∧ a ≤ 60) ∧ (0 ≤ b ∧ b ≤ 1))) : Ct G 5 0 0 YX12_best [ab_r 84, ab_i a, ab_i b] (104, I, F) (fun r h => r = some (ab_i (-3)) ∧ h = (104, I, F)) := by
  refine Ct.ofW kX12_best (ls := [some (ab_r 84), some (ab_i a), some (ab_i b), none, none, none, none]) (Nat.le_of_ble_eq_true rfl) rfl ?_
  refine aw_iload_n dX12_best_0 rfl ?_
  refine aw_iconst dX12_best_1 ?_
  refine aw_bipush dX12_best_2 rfl ?_
  refine aw_callS (as := [ab_i a, ab_i 1, ab_i 60]) (rest := []) dX12_best_4 (ct_X12_in G (104, I, F) a 1 60 (by first | assumption | (unfold ab_In at *; omega)) (by first | assumption | (unfold ab_In at *; omega)) (by first | assumption | (unfold ab_In at *; omega))) kX12_in sX12_in lX12_75 rfl (Nat.le_of_ble_eq_true rfl) (by decide) (by decide) (by decide) (by decide) ?_
  rintro r9 _ ⟨e9, rfl⟩
  by_cases q1 : 1 ≤ a ∧ a ≤ 60
  · rw [if_pos q1] at e9
    subst e9
    refine aw_if_eq (tgt := 19) dX12_best_7 rfl ⟨by decide, by decide⟩ (fun c9 => absurd c9 (by decide)) (fun _ => ?_)
    refine aw_iload_n dX12_best_10 rfl ?_
    refine aw_iconst dX12_best_11 ?_
    refine aw_iconst dX12_best_12 ?_
    refine aw_callS (as := [ab_i b, ab_i 0, ab_i 1]) (rest := []) dX12_best_13 (ct_X12_in G (104, I, F) b 0 1 (by first | assumption | (unfold ab_In at *; omega)) (by first | assumption | (unfold ab_In at *; omega)) (by first | assumption | (unfold ab_In at *; omega))) kX12_in sX12_in lX12_75 rfl (Nat.le_of_ble_eq_true rfl) (by decide) (by decide) (by decide) (by decide) ?_
    rintro r9 _ ⟨e9, rfl⟩
    by_cases q2 : 0 ≤ b ∧ b ≤ 1
    · rw [if_pos q2] at e9
      subst e9
      refine aw_if_ne (tgt := 22) dX12_best_16 rfl ⟨by decide, by decide⟩ (fun _ => ?_) (fun c9 => absurd c9 (by decide))
      exfalso; omega
    · rw [if_neg q2] at e9
      subst e9
      refine aw_if_ne (tgt := 22) dX12_best_16 rfl ⟨by decide, by decide⟩ (fun c9 => absurd rfl c9) (fun _ => ?_)
      refine aw_bipush dX12_best_19 rfl ?_
      refine aw_ireturn dX12_best_21 rfl ?_
      exact ⟨by first | rw [if_pos (by omega)] | rw [if_neg (by omega)] | rfl, rfl⟩
  · rw [if_neg q1] at e9
    subst e9
    refine aw_if_eq (tgt := 19) dX12_best_7 rfl ⟨by decide, by decide⟩ (fun _ => ?_) (fun c9 => absurd (by decide) c9)
    refine aw_bipush dX12_best_19 rfl ?_
    refine aw_ireturn dX12_best_21 rfl ?_
    exact ⟨by first | rw [if_pos (by omega)] | rw [if_neg (by omega)] | rfl, rfl⟩
set_option maxHeartbeats 4000000 in
set_option maxRecDepth 100000 in
theorem ct_X11_best (G : ab_G) (I : Nat → Nat → Int) (F : Nat → Nat → Nat) (hF : ab_FB F) (L : List P5) (wk nx : Int) (n : Nat) (hC : CS 23 I F L wk nx (2 * wk)) (hq : Nq L nx) (hwk : 0 ≤ wk ∧ wk + n ≤ 2900) (hnx : 0 ≤ nx ∧ nx + 13 * n ≤ 90000) (hT : TB I) (hR : RB 13 I) (hy : IVy I F) (hn : 1 ≤ n ∧ n ≤ 60) (b : Int) (hb : 0 ≤ b ∧ b ≤ 1) : Ct G 5 0 0 YX11_best [ab_r 1, ab_i (n : Int), ab_i b] (104, I, F) (fun r h => r = some (ab_i (if b = 0 then (bs (btX (ruX I 13) (tnX I) (kdX I 9 10) (kdX I 11 12) n wk L nx) 36).1 else (bs (btX (ruX I 13) (tnX I) (kdX I 9 10) (kdX I 11 12) n wk L nx) 36).2)) ∧ ∃ I2 F2, h = (104, I2, F2) ∧ (∀ i b, (i < 17 ∨ (20 < i ∧ i < 44) ∨ 64 < i) → I2 i b = I i b) ∧ (∀ i b, i ≠ 45 → F2 i b = F i b) ∧ IVy I2 F2) := by
  refine Ct.ofW kX11_best (ls := [some (ab_r 1), some (ab_i (n : Int)), some (ab_i b), none, none, none, none]) (Nat.le_of_ble_eq_true rfl) rfl ?_
  have hfb : ∀ q, 0 ≤ (btX (ruX I 13) (tnX I) (kdX I 9 10) (kdX I 11 12) n wk L nx) q ∧ (btX (ruX I 13) (tnX I) (kdX I 9 10) (kdX I 11 12) n wk L nx) q ≤ 100000 := btX_bd (tnX_B hT) hC.1 hn.2
  have hfe : ∀ q, (btX (ruX I 13) (tnX I) (kdX I 9 10) (kdX I 11 12) n wk L nx) q = wsum (wkN (ruB (ruX I 13) q) (tnX I) (kdX I 9 10) (kdX I 11 12) n wk L nx).2.2.1 5 := fun _ => rfl
  generalize hFe : (btX (ruX I 13) (tnX I) (kdX I 9 10) (kdX I 11 12) n wk L nx) = f at *
  generalize hZ : ab_Z G (fun r h => r = some (ab_i (if b = 0 then (bs f 36).1 else (bs f 36).2)) ∧ ∃ I2 F2, h = (104, I2, F2) ∧ (∀ i b, (i < 17 ∨ (20 < i ∧ i < 44) ∨ 64 < i) → I2 i b = I i b) ∧ (∀ i b, i ≠ 45 → F2 i b = F i b) ∧ IVy I2 F2) 0 0 = Z
  have hbs := bs_bd (B := 100000) (by omega) hfb
  have loop : ∀ (d q : Nat) (I1 : Nat → Nat → Int) (F1 : Nat → Nat → Nat), q + d = 36 → (I1 17 3 = I 13 3 ∧ (∀ s, s < 4 → I1 18 s = I 14 s ∧ I1 19 s = I 15 s ∧ I1 20 s = I 16 s)) → (∀ i b, (i < 17 ∨ (20 < i ∧ i < 44) ∨ 64 < i) → I1 i b = I i b) → (∀ i b, i ≠ 45 → F1 i b = F i b) → IVy I1 F1 → aW G YX11_best (ab_rm 5 0 0) Z 0 0 (104, I1, F1) 41 [some (ab_r 1), some (ab_i (n : Int)), some (ab_i b), some (ab_i (bs f q).1), some (ab_i (bs f q).2), some (ab_i (q : Int)), none] [] := by
    intro d
    induction d with
    | zero =>
      intro q I1 F1 hq9 hdr hfr hFr hy1
      have hqn : q = 36 := by omega
      subst hqn
      have hb36 := hbs 36
      refine aw_iload dX11_best_41 rfl ?_
      refine aw_bipush dX11_best_43 rfl ?_
      refine aw_icmp_ge (tgt := 128) dX11_best_45 rfl (by first | assumption | (unfold ab_In at *; omega)) (by first | assumption | (unfold ab_In at *; omega)) (fun c_45 => ?_) (fun c_45 => ?_)
      · refine aw_iload_n dX11_best_128 rfl ?_
        refine aw_if_ne (tgt := 136) dX11_best_129 rfl (by first | assumption | (unfold ab_In at *; omega)) (fun c_129 => ?_) (fun c_129 => ?_)
        · refine aw_iload dX11_best_136 rfl ?_
          rw [← hZ]
          refine aw_ireturn dX11_best_138 rfl ?_
          exact ⟨by first | rw [if_pos (by omega)] | rw [if_neg (by omega)], I1, F1, rfl, hfr, hFr, hy1⟩
        · refine aw_iload_n dX11_best_132 rfl ?_
          refine aw_goto (tgt := 138) dX11_best_133 rfl ?_
          rw [← hZ]
          refine aw_ireturn dX11_best_138 rfl ?_
          exact ⟨by first | rw [if_pos (by omega)] | rw [if_neg (by omega)], I1, F1, rfl, hfr, hFr, hy1⟩
      · exfalso; omega
    | succ d ih =>
      intro q I1 F1 hq9 hdr hfr hFr hy1
      have hbq := hbs q
      have hfq := hfb q
      have hF1 : ab_FB F1 := fun i j q1 q2 => (hFr i j q2).trans (hF i j q1 q2)
      have d12 : ab_div (q : Int) 12 = ((q / 12 : Nat) : Int) := by rw [ab_div_n (by omega) (by omega) (by omega) (by omega)]; omega
      have d3 : ab_div (q : Int) 3 = ((q / 3 : Nat) : Int) := by rw [ab_div_n (by omega) (by omega) (by omega) (by omega)]; omega
      have d34 : ab_rem ((q / 3 : Nat) : Int) 4 = ((q / 3 % 4 : Nat) : Int) := by rw [ab_rem_n (by omega) (by omega) (by omega) (by omega)]; omega
      have r3 : ab_rem (q : Int) 3 = ((q % 3 : Nat) : Int) := by rw [ab_rem_n (by omega) (by omega) (by omega) (by omega)]; omega
      have eQ : ∀ i b, i ≠ 17 → (ab_u (ab_u (ab_u I1 17 0 (((q / 12 : Nat)) : Int)) 17 1 (((q / 3 % 4 : Nat)) : Int)) 17 2 (((q % 3 : Nat)) : Int)) i b = I1 i b := fun i b hi => by rw [ab_u_i hi, ab_u_i hi, ab_u_i hi]
      have hfQ : ∀ i b, (i < 17 ∨ (20 < i ∧ i < 44) ∨ 64 < i) → (ab_u (ab_u (ab_u I1 17 0 (((q / 12 : Nat)) : Int)) 17 1 (((q / 3 % 4 : Nat)) : Int)) 17 2 (((q % 3 : Nat)) : Int)) i b = I i b := fun i b hi => (eQ i b (by omega)).trans (hfr i b hi)
      have hTQ : TB (ab_u (ab_u (ab_u I1 17 0 (((q / 12 : Nat)) : Int)) 17 1 (((q / 3 % 4 : Nat)) : Int)) 17 2 (((q % 3 : Nat)) : Int)) := hT.ofc (fun i b q1 q2 => hfQ i b (by omega))
      have hCQ : CS 23 (ab_u (ab_u (ab_u I1 17 0 (((q / 12 : Nat)) : Int)) 17 1 (((q / 3 % 4 : Nat)) : Int)) 17 2 (((q % 3 : Nat)) : Int)) F1 L wk nx (2 * wk) := (hC.ofc (fun i b hi => hfQ i b (by omega))).F (fun b => hFr 24 b (by decide))
      have hyQ : IVy (ab_u (ab_u (ab_u I1 17 0 (((q / 12 : Nat)) : Int)) 17 1 (((q / 3 % 4 : Nat)) : Int)) 17 2 (((q % 3 : Nat)) : Int)) F1 := hy1.of (fun i b hi => eQ i b (by omega))
      have hRX := hR.2.2.2
      have hRQ : RB 17 (ab_u (ab_u (ab_u I1 17 0 (((q / 12 : Nat)) : Int)) 17 1 (((q / 3 % 4 : Nat)) : Int)) 17 2 (((q % 3 : Nat)) : Int)) := RB_best hR hdr.1 hdr.2 (by omega)
      have hru : ruX (ab_u (ab_u (ab_u I1 17 0 (((q / 12 : Nat)) : Int)) 17 1 (((q / 3 % 4 : Nat)) : Int)) 17 2 (((q % 3 : Nat)) : Int)) 17 = ruB (ruX I 13) q := ruX_best hdr.1 hdr.2
      have htn : tnX (ab_u (ab_u (ab_u I1 17 0 (((q / 12 : Nat)) : Int)) 17 1 (((q / 3 % 4 : Nat)) : Int)) 17 2 (((q % 3 : Nat)) : Int)) = tnX I := tnX_congr (fun i b hi => hfQ i b (by omega))
      have hk1 : kdX (ab_u (ab_u (ab_u I1 17 0 (((q / 12 : Nat)) : Int)) 17 1 (((q / 3 % 4 : Nat)) : Int)) 17 2 (((q % 3 : Nat)) : Int)) 9 10 = kdX I 9 10 := funext fun w9 => kdX_congr (fun i b hi => hfQ i b (by omega)) (by omega) (by omega) w9
      have hk2 : kdX (ab_u (ab_u (ab_u I1 17 0 (((q / 12 : Nat)) : Int)) 17 1 (((q / 3 % 4 : Nat)) : Int)) 17 2 (((q % 3 : Nat)) : Int)) 11 12 = kdX I 11 12 := funext fun w9 => kdX_congr (fun i b hi => hfQ i b (by omega)) (by omega) (by omega) w9
      refine aw_iload dX11_best_41 rfl ?_
      refine aw_bipush dX11_best_43 rfl ?_
      refine aw_icmp_ge (tgt := 128) dX11_best_45 rfl (by first | assumption | (unfold ab_In at *; omega)) (by first | assumption | (unfold ab_In at *; omega)) (fun c_45 => ?_) (fun c_45 => ?_)
      · exfalso; omega
      · refine aw_aload_n dX11_best_48 rfl (by decide) ?_
        refine aw_getrv (r := 17) dX11_best_49 fX11_23 ⟨Nat.le_of_ble_eq_true rfl, Nat.le_of_ble_eq_true rfl⟩ rfl rfl (by first | exact (hF1.at 1 2 17 rfl rfl rfl) | exact (hF2.at 1 2 17 rfl rfl rfl)) ?_
        refine aw_iload dX11_best_52 rfl ?_
        refine aw_bipush dX11_best_54 rfl ?_
        refine aw_idiv dX11_best_56 (by first | assumption | (unfold ab_In at *; omega)) (by omega) ?_
        refine aw_puti dX11_best_57 fX11_136 ⟨Nat.le_of_ble_eq_true rfl, Nat.le_of_ble_eq_true rfl⟩ rfl rfl ?_
        refine aw_aload_n dX11_best_60 rfl (by decide) ?_
        refine aw_getrv (r := 17) dX11_best_61 fX11_23 ⟨Nat.le_of_ble_eq_true rfl, Nat.le_of_ble_eq_true rfl⟩ rfl rfl (by first | exact (hF1.at 1 2 17 rfl rfl rfl) | exact (hF2.at 1 2 17 rfl rfl rfl)) ?_
        refine aw_iload dX11_best_64 rfl ?_
        refine aw_iconst dX11_best_66 ?_
        refine aw_idiv dX11_best_67 (by first | assumption | (unfold ab_In at *; omega)) (by omega) ?_
        refine aw_iconst dX11_best_68 ?_
        refine aw_irem dX11_best_69 (by first | assumption | (unfold ab_In at *; omega)) (by omega) ?_
        refine aw_puti dX11_best_70 fX11_188 ⟨Nat.le_of_ble_eq_true rfl, Nat.le_of_ble_eq_true rfl⟩ rfl rfl ?_
        refine aw_aload_n dX11_best_73 rfl (by decide) ?_
        refine aw_getrv (r := 17) dX11_best_74 fX11_23 ⟨Nat.le_of_ble_eq_true rfl, Nat.le_of_ble_eq_true rfl⟩ rfl rfl (by first | exact (hF1.at 1 2 17 rfl rfl rfl) | exact (hF2.at 1 2 17 rfl rfl rfl)) ?_
        refine aw_iload dX11_best_77 rfl ?_
        refine aw_iconst dX11_best_79 ?_
        refine aw_irem dX11_best_80 (by first | assumption | (unfold ab_In at *; omega)) (by omega) ?_
        refine aw_puti dX11_best_81 fX11_189 ⟨Nat.le_of_ble_eq_true rfl, Nat.le_of_ble_eq_true rfl⟩ rfl rfl ?_
        rw [d12, d3, d34, r3]
        generalize hIQ : (ab_u (ab_u (ab_u I1 17 0 (((q / 12 : Nat)) : Int)) 17 1 (((q / 3 % 4 : Nat)) : Int)) 17 2 (((q % 3 : Nat)) : Int)) = IQ at *
        have hdr9 : IQ 17 3 = I 13 3 ∧ (∀ s, s < 4 → IQ 18 s = I 14 s ∧ IQ 19 s = I 15 s ∧ IQ 20 s = I 16 s) := by rw [← hIQ]; exact ⟨(by rw [ab_u_j (by decide), ab_u_j (by decide), ab_u_j (by decide)]; exact hdr.1), fun s hs => (by rw [ab_u_i (by decide), ab_u_i (by decide), ab_u_i (by decide), ab_u_i (by decide), ab_u_i (by decide), ab_u_i (by decide), ab_u_i (by decide), ab_u_i (by decide), ab_u_i (by decide)]; exact hdr.2 s hs)⟩
        refine aw_aload_n dX11_best_84 rfl (by decide) ?_
        refine aw_iload_n dX11_best_85 rfl ?_
        refine aw_aload_n dX11_best_86 rfl (by decide) ?_
        refine aw_getrv (r := 17) dX11_best_87 fX11_23 ⟨Nat.le_of_ble_eq_true rfl, Nat.le_of_ble_eq_true rfl⟩ rfl rfl (by first | exact (hF1.at 1 2 17 rfl rfl rfl) | exact (hF2.at 1 2 17 rfl rfl rfl)) ?_
        refine aw_callV (as := [ab_i (n : Int), ab_r 17]) (rest := []) dX11_best_90 (ct_X11_tryOut_17 G IQ F1 hF1 L wk nx n hCQ hq hwk hnx hTQ hRQ hyQ.1 hyQ.2.1 hyQ.2.2) ⟨Nat.le_of_ble_eq_true rfl, Nat.le_of_ble_eq_true rfl⟩ rfl kc11 rfl kX11_tryOut iX11_tryOut eX11_tryOut lX11_204 rfl (Nat.le_of_ble_eq_true rfl) (by decide) (by decide) (by decide) (by decide) ?_
        rintro _ _ ⟨rfl, I2, F2, rfl, hT2, hE2, hY2⟩
        have hF2 : ab_FB F2 := fun i j q1 q2 => (hY2.2.1 i j q2).trans (hF1 i j q1 q2)
        rw [hru, htn, hk1, hk2] at hT2
        have htot := tot_eq hT2 (show 5 < 6 by decide)
        rw [← hfe q] at htot
        refine aw_aload_n dX11_best_93 rfl (by decide) ?_
        refine aw_getrv (r := 44) dX11_best_94 fX11_42 ⟨Nat.le_of_ble_eq_true rfl, Nat.le_of_ble_eq_true rfl⟩ rfl rfl (by first | exact (hF1.at 1 5 44 rfl rfl rfl) | exact (hF2.at 1 5 44 rfl rfl rfl)) ?_
        refine aw_iconst dX11_best_97 ?_
        refine aw_callV (as := [ab_i 5]) (rest := []) dX11_best_98 (ct_X1_total_44 G I2 F2 hF2 5 (by decide)) ⟨Nat.le_of_ble_eq_true rfl, Nat.le_of_ble_eq_true rfl⟩ rfl kc1 rfl kX1_total iX1_total eX1_total lX11_207 rfl (Nat.le_of_ble_eq_true rfl) (by decide) (by decide) (by decide) (by decide) ?_
        rintro r9 _ ⟨e9, rfl⟩
        rw [htot] at e9
        subst e9
        refine aw_istore (ls' := [some (ab_r 1), some (ab_i (n : Int)), some (ab_i b), some (ab_i (bs f q).1), some (ab_i (bs f q).2), some (ab_i (q : Int)), some (ab_i (f q))]) dX11_best_101 (by decide) rfl ?_
        refine aw_iload_n dX11_best_103 rfl ?_
        refine aw_iconst dX11_best_104 ?_
        refine aw_icmp_eq (tgt := 115) dX11_best_105 rfl (by first | assumption | (unfold ab_In at *; omega)) (by first | assumption | (unfold ab_In at *; omega)) (fun c_105 => ?_) (fun c_105 => ?_)
        · refine aw_iload dX11_best_115 rfl ?_
          refine aw_istore (ls' := [some (ab_r 1), some (ab_i (n : Int)), some (ab_i b), some (ab_i (bs f q).1), some (ab_i (f q)), some (ab_i (q : Int)), some (ab_i (f q))]) dX11_best_117 (by decide) rfl ?_
          refine aw_iload dX11_best_119 rfl ?_
          refine aw_istore_n (ls' := [some (ab_r 1), some (ab_i (n : Int)), some (ab_i b), some (ab_i (q : Int)), some (ab_i (f q)), some (ab_i (q : Int)), some (ab_i (f q))]) dX11_best_121 (by decide) rfl ?_
          refine aw_iinc (ls' := [some (ab_r 1), some (ab_i (n : Int)), some (ab_i b), some (ab_i (q : Int)), some (ab_i (f q)), some (ab_i ((q : Int) + 1)), some (ab_i (f q))]) dX11_best_122 (by decide) rfl rfl ?_
          refine aw_goto (tgt := 41) dX11_best_125 rfl ?_
          have h9 := ih (q + 1) I2 F2 (by omega) ⟨by rw [hY2.1 17 3 (by omega)]; exact hdr9.1, fun s hs => by rw [hY2.1 18 s (by omega), hY2.1 19 s (by omega), hY2.1 20 s (by omega)]; exact hdr9.2 s hs⟩ (fun i b hi => (hY2.1 i b (by omega)).trans (hfQ i b hi)) (fun i b hi => (hY2.2.1 i b hi).trans (hFr i b hi)) ⟨hY2.2.2.1, hY2.2.2.2.1, hY2.2.2.2.2⟩
          rw [show bs f (q + 1) = ((q : Int), f q) by (rw [bs]; exact if_pos (by omega))] at h9
          exact aw_le (ab_le_c (ab_le_c (ab_le_c (ab_le_c (ab_le_c (ab_le_c (ab_le_n ab_le_nil))))))) h9
        · refine aw_iload dX11_best_108 rfl ?_
          refine aw_iload dX11_best_110 rfl ?_
          refine aw_icmp_ge (tgt := 122) dX11_best_112 rfl (by first | assumption | (unfold ab_In at *; omega)) (by first | assumption | (unfold ab_In at *; omega)) (fun c_112 => ?_) (fun c_112 => ?_)
          · refine aw_iinc (ls' := [some (ab_r 1), some (ab_i (n : Int)), some (ab_i b), some (ab_i (bs f q).1), some (ab_i (bs f q).2), some (ab_i ((q : Int) + 1)), some (ab_i (f q))]) dX11_best_122 (by decide) rfl rfl ?_
            refine aw_goto (tgt := 41) dX11_best_125 rfl ?_
            have h9 := ih (q + 1) I2 F2 (by omega) ⟨by rw [hY2.1 17 3 (by omega)]; exact hdr9.1, fun s hs => by rw [hY2.1 18 s (by omega), hY2.1 19 s (by omega), hY2.1 20 s (by omega)]; exact hdr9.2 s hs⟩ (fun i b hi => (hY2.1 i b (by omega)).trans (hfQ i b hi)) (fun i b hi => (hY2.2.1 i b hi).trans (hFr i b hi)) ⟨hY2.2.2.1, hY2.2.2.2.1, hY2.2.2.2.2⟩
            rw [show bs f (q + 1) = bs f q by (rw [bs]; exact if_neg (by omega))] at h9
            exact aw_le (ab_le_c (ab_le_c (ab_le_c (ab_le_c (ab_le_c (ab_le_c (ab_le_n ab_le_nil))))))) h9
          · refine aw_iload dX11_best_115 rfl ?_
            refine aw_istore (ls' := [some (ab_r 1), some (ab_i (n : Int)), some (ab_i b), some (ab_i (bs f q).1), some (ab_i (f q)), some (ab_i (q : Int)), some (ab_i (f q))]) dX11_best_117 (by decide) rfl ?_
            refine aw_iload dX11_best_119 rfl ?_
            refine aw_istore_n (ls' := [some (ab_r 1), some (ab_i (n : Int)), some (ab_i b), some (ab_i (q : Int)), some (ab_i (f q)), some (ab_i (q : Int)), some (ab_i (f q))]) dX11_best_121 (by decide) rfl ?_
            refine aw_iinc (ls' := [some (ab_r 1), some (ab_i (n : Int)), some (ab_i b), some (ab_i (q : Int)), some (ab_i (f q)), some (ab_i ((q : Int) + 1)), some (ab_i (f q))]) dX11_best_122 (by decide) rfl rfl ?_
            refine aw_goto (tgt := 41) dX11_best_125 rfl ?_
            have h9 := ih (q + 1) I2 F2 (by omega) ⟨by rw [hY2.1 17 3 (by omega)]; exact hdr9.1, fun s hs => by rw [hY2.1 18 s (by omega), hY2.1 19 s (by omega), hY2.1 20 s (by omega)]; exact hdr9.2 s hs⟩ (fun i b hi => (hY2.1 i b (by omega)).trans (hfQ i b hi)) (fun i b hi => (hY2.2.1 i b hi).trans (hFr i b hi)) ⟨hY2.2.2.1, hY2.2.2.2.1, hY2.2.2.2.2⟩
            rw [show bs f (q + 1) = ((q : Int), f q) by (rw [bs]; exact if_pos (by omega))] at h9
            exact aw_le (ab_le_c (ab_le_c (ab_le_c (ab_le_c (ab_le_c (ab_le_c (ab_le_n ab_le_nil))))))) h9
  refine aw_iload_n dX11_best_0 rfl ?_
  refine aw_iconst dX11_best_1 ?_
  refine aw_bipush dX11_best_2 rfl ?_
  refine aw_callS (as := [ab_i (n : Int), ab_i 1, ab_i 60]) (rest := []) dX11_best_4 (ct_X11_within G (104, I, F) (n : Int) 1 60 (by first | assumption | (unfold ab_In at *; omega)) (by first | assumption | (unfold ab_In at *; omega)) (by first | assumption | (unfold ab_In at *; omega))) kX11_within sX11_within lX11_89 rfl (Nat.le_of_ble_eq_true rfl) (by decide) (by decide) (by decide) (by decide) ?_
  rintro r9 _ ⟨e9, rfl⟩
  rw [if_pos (by omega)] at e9
  subst e9
  refine aw_if_eq (tgt := 19) dX11_best_7 rfl ⟨by decide, by decide⟩ (fun c9 => absurd c9 (by decide)) (fun _ => ?_)
  refine aw_iload_n dX11_best_10 rfl ?_
  refine aw_iconst dX11_best_11 ?_
  refine aw_iconst dX11_best_12 ?_
  refine aw_callS (as := [ab_i b, ab_i 0, ab_i 1]) (rest := []) dX11_best_13 (ct_X11_within G (104, I, F) b 0 1 (by first | assumption | (unfold ab_In at *; omega)) (by first | assumption | (unfold ab_In at *; omega)) (by first | assumption | (unfold ab_In at *; omega))) kX11_within sX11_within lX11_89 rfl (Nat.le_of_ble_eq_true rfl) (by decide) (by decide) (by decide) (by decide) ?_
  rintro r9 _ ⟨e9, rfl⟩
  rw [if_pos (by omega)] at e9
  subst e9
  refine aw_if_ne (tgt := 22) dX11_best_16 rfl ⟨by decide, by decide⟩ (fun _ => ?_) (fun c9 => absurd c9 (by decide))
  refine aw_aload_n dX11_best_22 rfl (by decide) ?_
  refine aw_getrv (r := 17) dX11_best_23 fX11_23 ⟨Nat.le_of_ble_eq_true rfl, Nat.le_of_ble_eq_true rfl⟩ rfl rfl (hF.at 1 2 17 rfl rfl rfl) ?_
  refine aw_aload_n dX11_best_26 rfl (by decide) ?_
  refine aw_getrv (r := 13) dX11_best_27 fX11_19 ⟨Nat.le_of_ble_eq_true rfl, Nat.le_of_ble_eq_true rfl⟩ rfl rfl (hF.at 1 1 13 rfl rfl rfl) ?_
  refine aw_callV (as := [ab_r 13]) (rest := []) dX11_best_30 (ct_X7_copy_17_13 G I F hF) ⟨Nat.le_of_ble_eq_true rfl, Nat.le_of_ble_eq_true rfl⟩ rfl kc7 rfl kX7_copy iX7_copy eX7_copy lX11_181 rfl (Nat.le_of_ble_eq_true rfl) (by decide) (by decide) (by decide) (by decide) ?_
  rintro _ _ ⟨rfl, I1, rfl, h1, h2, h3⟩
  refine aw_iconst dX11_best_33 ?_
  refine aw_istore_n (ls' := [some (ab_r 1), some (ab_i (n : Int)), some (ab_i b), some (ab_i (-1)), none, none, none]) dX11_best_34 (by decide) rfl ?_
  refine aw_iconst dX11_best_35 ?_
  refine aw_istore (ls' := [some (ab_r 1), some (ab_i (n : Int)), some (ab_i b), some (ab_i (-1)), some (ab_i 0), none, none]) dX11_best_36 (by decide) rfl ?_
  refine aw_iconst dX11_best_38 ?_
  refine aw_istore (ls' := [some (ab_r 1), some (ab_i (n : Int)), some (ab_i b), some (ab_i (-1)), some (ab_i 0), some (ab_i 0), none]) dX11_best_39 (by decide) rfl ?_
  exact loop 36 0 I1 F (by omega) ⟨h1.2.2.2, h2⟩ (fun i b hi => h3 i b (by omega)) (fun _ _ _ => rfl) (hy.of (fun i b hi => h3 i b (by omega)))
set_option maxHeartbeats 4000000 in
set_option maxRecDepth 100000 in
theorem ct_X12_best (G : ab_G) (I : Nat → Nat → Int) (F : Nat → Nat → Nat) (hF : ab_FB F) (L : List P5) (wk nx : Int) (n : Nat) (hC : RS I L wk nx (2 * wk)) (hq : Nq L nx) (hwk : 0 ≤ wk ∧ wk + n ≤ 2900) (hnx : 0 ≤ nx ∧ nx + 13 * n ≤ 90000) (hT : TBM I) (hR : RBM I) (hn : 1 ≤ n ∧ n ≤ 60) (b : Int) (hb : 0 ≤ b ∧ b ≤ 1) : Ct G 5 0 0 YX12_best [ab_r 84, ab_i (n : Int), ab_i b] (104, I, F) (fun r h => r = some (ab_i (if b = 0 then (bs (btX (ruM I) (tnM I) (kdM I 2 87) (kdM I 4 88) n wk L nx) 36).1 else (bs (btX (ruM I) (tnM I) (kdM I 2 87) (kdM I 4 88) n wk L nx) 36).2)) ∧ ∃ I3, h = (104, I3, F) ∧ ∀ i b, i ≠ 90 → i ≠ 91 → i ≠ 92 → i ≠ 96 → (i = 89 → b < 88) → I3 i b = I i b) := by
  refine Ct.ofW kX12_best (ls := [some (ab_r 84), some (ab_i (n : Int)), some (ab_i b), none, none, none, none]) (Nat.le_of_ble_eq_true rfl) rfl ?_
  have hfb : ∀ q, 0 ≤ (btX (ruM I) (tnM I) (kdM I 2 87) (kdM I 4 88) n wk L nx) q ∧ (btX (ruM I) (tnM I) (kdM I 2 87) (kdM I 4 88) n wk L nx) q ≤ 100000 := btX_bd (tnM_B hT) hC.1 hn.2
  have hfe : ∀ q, (btX (ruM I) (tnM I) (kdM I 2 87) (kdM I 4 88) n wk L nx) q = wsum (wkN (ruB (ruM I) q) (tnM I) (kdM I 2 87) (kdM I 4 88) n wk L nx).2.2.1 5 := fun _ => rfl
  generalize hFe : (btX (ruM I) (tnM I) (kdM I 2 87) (kdM I 4 88) n wk L nx) = f at *
  generalize hZ : ab_Z G (fun r h => r = some (ab_i (if b = 0 then (bs f 36).1 else (bs f 36).2)) ∧ ∃ I3, h = (104, I3, F) ∧ ∀ i b, i ≠ 90 → i ≠ 91 → i ≠ 92 → i ≠ 96 → (i = 89 → b < 88) → I3 i b = I i b) 0 0 = Z
  have hbs := bs_bd (B := 100000) (by omega) hfb
  have loop : ∀ (d q : Nat) (I1 : Nat → Nat → Int), q + d = 36 → (∀ b, b < 16 → I1 96 b = I 95 b) → (∀ b, 3 ≤ b → I1 95 b = I 95 b) → (∀ i b, i ≠ 90 → i ≠ 91 → i ≠ 92 → i ≠ 95 → i ≠ 96 → (i = 89 → b < 88) → I1 i b = I i b) → aW G YX12_best (ab_rm 5 0 0) Z 0 0 (104, I1, F) 34 [some (ab_r 84), some (ab_i (n : Int)), some (ab_i b), some (ab_i (bs f q).1), some (ab_i (bs f q).2), some (ab_i (q : Int)), none] [] := by
    intro d
    induction d with
    | zero =>
      intro q I1 hq9 h96 h95 hfr
      have hqn : q = 36 := by omega
      subst hqn
      have hb36 := hbs 36
      refine aw_iload dX12_best_34 rfl ?_
      refine aw_bipush dX12_best_36 rfl ?_
      refine aw_icmp_ge (tgt := 117) dX12_best_38 rfl (by first | assumption | (unfold ab_In at *; omega)) (by first | assumption | (unfold ab_In at *; omega)) (fun c_38 => ?_) (fun c_38 => ?_)
      · refine aw_aload_n dX12_best_117 rfl (by decide) ?_
        refine aw_callV (as := []) (rest := []) dX12_best_118 (ct_X12_layBackRules G I1 F hF) ⟨Nat.le_of_ble_eq_true rfl, Nat.le_of_ble_eq_true rfl⟩ rfl kc12 rfl kX12_layBackRules iX12_layBackRules eX12_layBackRules lX12_217 rfl (Nat.le_of_ble_eq_true rfl) (by decide) (by decide) (by decide) (by decide) ?_
        rintro _ _ ⟨rfl, rfl⟩
        refine aw_iload_n dX12_best_121 rfl ?_
        refine aw_if_ne (tgt := 129) dX12_best_122 rfl (by first | assumption | (unfold ab_In at *; omega)) (fun c_122 => ?_) (fun c_122 => ?_)
        · refine aw_iload dX12_best_129 rfl ?_
          rw [← hZ]
          refine aw_ireturn dX12_best_131 rfl ?_
          exact ⟨by first | rw [if_pos (by omega)] | rw [if_neg (by omega)], _, rfl, best_lb h96 h95 hfr⟩
        · refine aw_iload_n dX12_best_125 rfl ?_
          refine aw_goto (tgt := 131) dX12_best_126 rfl ?_
          rw [← hZ]
          refine aw_ireturn dX12_best_131 rfl ?_
          exact ⟨by first | rw [if_pos (by omega)] | rw [if_neg (by omega)], _, rfl, best_lb h96 h95 hfr⟩
      · exfalso; omega
    | succ d ih =>
      intro q I1 hq9 h96 h95 hfr
      have hbq := hbs q
      have hfq := hfb q
      have d12 : ab_div (q : Int) 12 = ((q / 12 : Nat) : Int) := by rw [ab_div_n (by omega) (by omega) (by omega) (by omega)]; omega
      have r12 : ab_rem (q : Int) 12 = ((q % 12 : Nat) : Int) := by rw [ab_rem_n (by omega) (by omega) (by omega) (by omega)]; omega
      have d34 : ab_div ((q % 12 : Nat) : Int) 3 = ((q / 3 % 4 : Nat) : Int) := by rw [ab_div_n (by omega) (by omega) (by omega) (by omega)]; omega
      have r3 : ab_rem (q : Int) 3 = ((q % 3 : Nat) : Int) := by rw [ab_rem_n (by omega) (by omega) (by omega) (by omega)]; omega
      have eQ : ∀ i b, i ≠ 95 → (ab_u (ab_u (ab_u I1 95 0 (((q / 12 : Nat)) : Int)) 95 1 (((q / 3 % 4 : Nat)) : Int)) 95 2 (((q % 3 : Nat)) : Int)) i b = I1 i b := fun i b hi => by rw [ab_u_i hi, ab_u_i hi, ab_u_i hi]
      have h95Q : ∀ b, 3 ≤ b → (ab_u (ab_u (ab_u I1 95 0 (((q / 12 : Nat)) : Int)) 95 1 (((q / 3 % 4 : Nat)) : Int)) 95 2 (((q % 3 : Nat)) : Int)) 95 b = I 95 b := fun b hb => by rw [ab_u_j (by omega), ab_u_j (by omega), ab_u_j (by omega)]; exact h95 b hb
      have hfQ : ∀ i b, i ≠ 90 → i ≠ 91 → i ≠ 92 → i ≠ 95 → i ≠ 96 → (i = 89 → b < 88) → (ab_u (ab_u (ab_u I1 95 0 (((q / 12 : Nat)) : Int)) 95 1 (((q / 3 % 4 : Nat)) : Int)) 95 2 (((q % 3 : Nat)) : Int)) i b = I i b := fun i b q1 q2 q3 q4 q5 q6 => (eQ i b q4).trans (hfr i b q1 q2 q3 q4 q5 q6)
      have h96Q : ∀ b, b < 16 → (ab_u (ab_u (ab_u I1 95 0 (((q / 12 : Nat)) : Int)) 95 1 (((q / 3 % 4 : Nat)) : Int)) 95 2 (((q % 3 : Nat)) : Int)) 96 b = I 95 b := fun b hb => (eQ 96 b (by decide)).trans (h96 b hb)
      have hJM : ∀ i, i ≤ 88 → (ab_u (ab_u (ab_u I1 95 0 (((q / 12 : Nat)) : Int)) 95 1 (((q / 3 % 4 : Nat)) : Int)) 95 2 (((q % 3 : Nat)) : Int)) i = I i := fun i q1 => funext fun b => hfQ i b (by omega) (by omega) (by omega) (by omega) (by omega) (by omega)
      have hTQ : TBM (ab_u (ab_u (ab_u I1 95 0 (((q / 12 : Nat)) : Int)) 95 1 (((q / 3 % 4 : Nat)) : Int)) 95 2 (((q % 3 : Nat)) : Int)) := by unfold TBM at *; rw [hJM 84 (by decide), hJM 85 (by decide), hJM 86 (by decide), hJM 87 (by decide), hJM 88 (by decide)]; exact hT
      have hCQ : RS (ab_u (ab_u (ab_u I1 95 0 (((q / 12 : Nat)) : Int)) 95 1 (((q / 3 % 4 : Nat)) : Int)) 95 2 (((q % 3 : Nat)) : Int)) L wk nx (2 * wk) := hC.ofc (fun b hb => hfQ 89 b (by decide) (by decide) (by decide) (by decide) (by decide) (fun _ => hb))
      have hRQ : RBM (ab_u (ab_u (ab_u I1 95 0 (((q / 12 : Nat)) : Int)) 95 1 (((q / 3 % 4 : Nat)) : Int)) 95 2 (((q % 3 : Nat)) : Int)) := RBM_best hR h95 (by omega)
      have hwm : wkM (ab_u (ab_u (ab_u I1 95 0 (((q / 12 : Nat)) : Int)) 95 1 (((q / 3 % 4 : Nat)) : Int)) 95 2 (((q % 3 : Nat)) : Int)) n wk L nx = wkN (ruB (ruM I) q) (tnM I) (kdM I 2 87) (kdM I 4 88) n wk L nx := by unfold wkM; rw [ruM_best h95]; unfold tnM kdM; rw [hJM 84 (by decide), hJM 85 (by decide), hJM 86 (by decide), hJM 87 (by decide), hJM 88 (by decide)]
      refine aw_iload dX12_best_34 rfl ?_
      refine aw_bipush dX12_best_36 rfl ?_
      refine aw_icmp_ge (tgt := 117) dX12_best_38 rfl (by first | assumption | (unfold ab_In at *; omega)) (by first | assumption | (unfold ab_In at *; omega)) (fun c_38 => ?_) (fun c_38 => ?_)
      · exfalso; omega
      · refine aw_aload_n dX12_best_41 rfl (by decide) ?_
        refine aw_getrv (r := 95) dX12_best_42 fX12_41 ⟨Nat.le_of_ble_eq_true rfl, Nat.le_of_ble_eq_true rfl⟩ rfl rfl (hF.at 84 20 95 rfl rfl rfl) ?_
        refine aw_iconst dX12_best_45 ?_
        refine aw_iload dX12_best_46 rfl ?_
        refine aw_bipush dX12_best_48 rfl ?_
        refine aw_idiv dX12_best_50 (by first | assumption | (unfold ab_In at *; omega)) (by omega) ?_
        refine aw_iastv (q := 0) dX12_best_51 ⟨Nat.le_of_ble_eq_true rfl, Nat.le_of_ble_eq_true rfl⟩ rfl (by omega) (by omega) (by decide) rfl ?_
        refine aw_aload_n dX12_best_52 rfl (by decide) ?_
        refine aw_getrv (r := 95) dX12_best_53 fX12_41 ⟨Nat.le_of_ble_eq_true rfl, Nat.le_of_ble_eq_true rfl⟩ rfl rfl (hF.at 84 20 95 rfl rfl rfl) ?_
        refine aw_iconst dX12_best_56 ?_
        refine aw_iload dX12_best_57 rfl ?_
        refine aw_bipush dX12_best_59 rfl ?_
        refine aw_irem dX12_best_61 (by first | assumption | (unfold ab_In at *; omega)) (by omega) ?_
        refine aw_iconst dX12_best_62 ?_
        refine aw_idiv dX12_best_63 (by first | assumption | (unfold ab_In at *; omega)) (by omega) ?_
        refine aw_iastv (q := 1) dX12_best_64 ⟨Nat.le_of_ble_eq_true rfl, Nat.le_of_ble_eq_true rfl⟩ rfl (by omega) (by omega) (by decide) rfl ?_
        refine aw_aload_n dX12_best_65 rfl (by decide) ?_
        refine aw_getrv (r := 95) dX12_best_66 fX12_41 ⟨Nat.le_of_ble_eq_true rfl, Nat.le_of_ble_eq_true rfl⟩ rfl rfl (hF.at 84 20 95 rfl rfl rfl) ?_
        refine aw_iconst dX12_best_69 ?_
        refine aw_iload dX12_best_70 rfl ?_
        refine aw_iconst dX12_best_72 ?_
        refine aw_irem dX12_best_73 (by first | assumption | (unfold ab_In at *; omega)) (by omega) ?_
        refine aw_iastv (q := 2) dX12_best_74 ⟨Nat.le_of_ble_eq_true rfl, Nat.le_of_ble_eq_true rfl⟩ rfl (by omega) (by omega) (by decide) rfl ?_
        rw [d12, r12, d34, r3]
        generalize hIQ : (ab_u (ab_u (ab_u I1 95 0 (((q / 12 : Nat)) : Int)) 95 1 (((q / 3 % 4 : Nat)) : Int)) 95 2 (((q % 3 : Nat)) : Int)) = IQ at *
        refine aw_aload_n dX12_best_75 rfl (by decide) ?_
        refine aw_iload_n dX12_best_76 rfl ?_
        refine aw_callV (as := [ab_i (n : Int)]) (rest := []) dX12_best_77 (ct_X12_goOn G IQ F hF L wk nx n hCQ hq hwk hnx hTQ hRQ) ⟨Nat.le_of_ble_eq_true rfl, Nat.le_of_ble_eq_true rfl⟩ rfl kc12 rfl kX12_goOn iX12_goOn eX12_goOn lX12_200 rfl (Nat.le_of_ble_eq_true rfl) (by decide) (by decide) (by decide) (by decide) ?_
        rintro _ _ ⟨rfl, I2, L2, rfl, hC2, hp2, hD2⟩
        rw [hwm] at hD2
        have hmo := more_eq hD2 (show 5 < 6 by decide) (show 80 = 60 + 4 * 5 by decide)
        rw [← hfe q] at hmo
        refine aw_aload_n dX12_best_80 rfl (by decide) ?_
        refine aw_bipush dX12_best_81 rfl ?_
        refine aw_callV (as := [ab_i 80]) (rest := []) dX12_best_83 (ct_X12_more G I2 F hF 80 (by decide)) ⟨Nat.le_of_ble_eq_true rfl, Nat.le_of_ble_eq_true rfl⟩ rfl kc12 rfl kX12_more iX12_more eX12_more lX12_203 rfl (Nat.le_of_ble_eq_true rfl) (by decide) (by decide) (by decide) (by decide) ?_
        rintro r9 _ ⟨e9, rfl⟩
        rw [hmo] at e9
        subst e9
        refine aw_istore (ls' := [some (ab_r 84), some (ab_i (n : Int)), some (ab_i b), some (ab_i (bs f q).1), some (ab_i (bs f q).2), some (ab_i (q : Int)), some (ab_i (f q))]) dX12_best_86 (by decide) rfl ?_
        refine aw_aload_n dX12_best_88 rfl (by decide) ?_
        refine aw_callV (as := []) (rest := []) dX12_best_89 (ct_X12_layBack G I2 F hF) ⟨Nat.le_of_ble_eq_true rfl, Nat.le_of_ble_eq_true rfl⟩ rfl kc12 rfl kX12_layBack iX12_layBack eX12_layBack lX12_207 rfl (Nat.le_of_ble_eq_true rfl) (by decide) (by decide) (by decide) (by decide) ?_
        rintro _ _ ⟨rfl, rfl⟩
        refine aw_iload_n dX12_best_92 rfl ?_
        refine aw_iconst dX12_best_93 ?_
        refine aw_icmp_eq (tgt := 104) dX12_best_94 rfl (by first | assumption | (unfold ab_In at *; omega)) (by first | assumption | (unfold ab_In at *; omega)) (fun c_94 => ?_) (fun c_94 => ?_)
        · refine aw_iload dX12_best_104 rfl ?_
          refine aw_istore_n (ls' := [some (ab_r 84), some (ab_i (n : Int)), some (ab_i b), some (ab_i (q : Int)), some (ab_i (bs f q).2), some (ab_i (q : Int)), some (ab_i (f q))]) dX12_best_106 (by decide) rfl ?_
          refine aw_iload dX12_best_107 rfl ?_
          refine aw_istore (ls' := [some (ab_r 84), some (ab_i (n : Int)), some (ab_i b), some (ab_i (q : Int)), some (ab_i (f q)), some (ab_i (q : Int)), some (ab_i (f q))]) dX12_best_109 (by decide) rfl ?_
          refine aw_iinc (ls' := [some (ab_r 84), some (ab_i (n : Int)), some (ab_i b), some (ab_i (q : Int)), some (ab_i (f q)), some (ab_i ((q : Int) + 1)), some (ab_i (f q))]) dX12_best_111 (by decide) rfl rfl ?_
          refine aw_goto (tgt := 34) dX12_best_114 rfl ?_
          have hlb := lb_at hD2
          have h9 := ih (q + 1) _ (by omega) (fun b hb => (hlb 96 b (by decide) (by decide) (by decide) (by omega)).trans (h96Q b hb)) (fun b hb => (hlb 95 b (by decide) (by decide) (by decide) (by omega)).trans (h95Q b hb)) (fun i b q1 q2 q3 q4 q5 q6 => (hlb i b q1 q2 q3 q6).trans (hfQ i b q1 q2 q3 q4 q5 q6))
          rw [show bs f (q + 1) = ((q : Int), f q) by (rw [bs]; exact if_pos (by omega))] at h9
          exact aw_le (ab_le_c (ab_le_c (ab_le_c (ab_le_c (ab_le_c (ab_le_c (ab_le_n ab_le_nil))))))) h9
        · refine aw_iload dX12_best_97 rfl ?_
          refine aw_iload dX12_best_99 rfl ?_
          refine aw_icmp_ge (tgt := 111) dX12_best_101 rfl (by first | assumption | (unfold ab_In at *; omega)) (by first | assumption | (unfold ab_In at *; omega)) (fun c_101 => ?_) (fun c_101 => ?_)
          · refine aw_iinc (ls' := [some (ab_r 84), some (ab_i (n : Int)), some (ab_i b), some (ab_i (bs f q).1), some (ab_i (bs f q).2), some (ab_i ((q : Int) + 1)), some (ab_i (f q))]) dX12_best_111 (by decide) rfl rfl ?_
            refine aw_goto (tgt := 34) dX12_best_114 rfl ?_
            have hlb := lb_at hD2
            have h9 := ih (q + 1) _ (by omega) (fun b hb => (hlb 96 b (by decide) (by decide) (by decide) (by omega)).trans (h96Q b hb)) (fun b hb => (hlb 95 b (by decide) (by decide) (by decide) (by omega)).trans (h95Q b hb)) (fun i b q1 q2 q3 q4 q5 q6 => (hlb i b q1 q2 q3 q6).trans (hfQ i b q1 q2 q3 q4 q5 q6))
            rw [show bs f (q + 1) = bs f q by (rw [bs]; exact if_neg (by omega))] at h9
            exact aw_le (ab_le_c (ab_le_c (ab_le_c (ab_le_c (ab_le_c (ab_le_c (ab_le_n ab_le_nil))))))) h9
          · refine aw_iload dX12_best_104 rfl ?_
            refine aw_istore_n (ls' := [some (ab_r 84), some (ab_i (n : Int)), some (ab_i b), some (ab_i (q : Int)), some (ab_i (bs f q).2), some (ab_i (q : Int)), some (ab_i (f q))]) dX12_best_106 (by decide) rfl ?_
            refine aw_iload dX12_best_107 rfl ?_
            refine aw_istore (ls' := [some (ab_r 84), some (ab_i (n : Int)), some (ab_i b), some (ab_i (q : Int)), some (ab_i (f q)), some (ab_i (q : Int)), some (ab_i (f q))]) dX12_best_109 (by decide) rfl ?_
            refine aw_iinc (ls' := [some (ab_r 84), some (ab_i (n : Int)), some (ab_i b), some (ab_i (q : Int)), some (ab_i (f q)), some (ab_i ((q : Int) + 1)), some (ab_i (f q))]) dX12_best_111 (by decide) rfl rfl ?_
            refine aw_goto (tgt := 34) dX12_best_114 rfl ?_
            have hlb := lb_at hD2
            have h9 := ih (q + 1) _ (by omega) (fun b hb => (hlb 96 b (by decide) (by decide) (by decide) (by omega)).trans (h96Q b hb)) (fun b hb => (hlb 95 b (by decide) (by decide) (by decide) (by omega)).trans (h95Q b hb)) (fun i b q1 q2 q3 q4 q5 q6 => (hlb i b q1 q2 q3 q6).trans (hfQ i b q1 q2 q3 q4 q5 q6))
            rw [show bs f (q + 1) = ((q : Int), f q) by (rw [bs]; exact if_pos (by omega))] at h9
            exact aw_le (ab_le_c (ab_le_c (ab_le_c (ab_le_c (ab_le_c (ab_le_c (ab_le_n ab_le_nil))))))) h9
  refine aw_iload_n dX12_best_0 rfl ?_
  refine aw_iconst dX12_best_1 ?_
  refine aw_bipush dX12_best_2 rfl ?_
  refine aw_callS (as := [ab_i (n : Int), ab_i 1, ab_i 60]) (rest := []) dX12_best_4 (ct_X12_in G (104, I, F) (n : Int) 1 60 (by first | assumption | (unfold ab_In at *; omega)) (by first | assumption | (unfold ab_In at *; omega)) (by first | assumption | (unfold ab_In at *; omega))) kX12_in sX12_in lX12_75 rfl (Nat.le_of_ble_eq_true rfl) (by decide) (by decide) (by decide) (by decide) ?_
  rintro r9 _ ⟨e9, rfl⟩
  rw [if_pos (by omega)] at e9
  subst e9
  refine aw_if_eq (tgt := 19) dX12_best_7 rfl ⟨by decide, by decide⟩ (fun c9 => absurd c9 (by decide)) (fun _ => ?_)
  refine aw_iload_n dX12_best_10 rfl ?_
  refine aw_iconst dX12_best_11 ?_
  refine aw_iconst dX12_best_12 ?_
  refine aw_callS (as := [ab_i b, ab_i 0, ab_i 1]) (rest := []) dX12_best_13 (ct_X12_in G (104, I, F) b 0 1 (by first | assumption | (unfold ab_In at *; omega)) (by first | assumption | (unfold ab_In at *; omega)) (by first | assumption | (unfold ab_In at *; omega))) kX12_in sX12_in lX12_75 rfl (Nat.le_of_ble_eq_true rfl) (by decide) (by decide) (by decide) (by decide) ?_
  rintro r9 _ ⟨e9, rfl⟩
  rw [if_pos (by omega)] at e9
  subst e9
  refine aw_if_ne (tgt := 22) dX12_best_16 rfl ⟨by decide, by decide⟩ (fun _ => ?_) (fun c9 => absurd c9 (by decide))
  refine aw_aload_n dX12_best_22 rfl (by decide) ?_
  refine aw_callV (as := []) (rest := []) dX12_best_23 (ct_X12_keepRules G I F hF) ⟨Nat.le_of_ble_eq_true rfl, Nat.le_of_ble_eq_true rfl⟩ rfl kc12 rfl kX12_keepRules iX12_keepRules eX12_keepRules lX12_214 rfl (Nat.le_of_ble_eq_true rfl) (by decide) (by decide) (by decide) (by decide) ?_
  rintro _ _ ⟨rfl, rfl⟩
  refine aw_iconst dX12_best_26 ?_
  refine aw_istore_n (ls' := [some (ab_r 84), some (ab_i (n : Int)), some (ab_i b), some (ab_i (-1)), none, none, none]) dX12_best_27 (by decide) rfl ?_
  refine aw_iconst dX12_best_28 ?_
  refine aw_istore (ls' := [some (ab_r 84), some (ab_i (n : Int)), some (ab_i b), some (ab_i (-1)), some (ab_i 0), none, none]) dX12_best_29 (by decide) rfl ?_
  refine aw_iconst dX12_best_31 ?_
  refine aw_istore (ls' := [some (ab_r 84), some (ab_i (n : Int)), some (ab_i b), some (ab_i (-1)), some (ab_i 0), some (ab_i 0), none]) dX12_best_32 (by decide) rfl ?_
  exact loop 36 0 _ (by omega) (fun b hb => cp_in hb) (fun b hb => cp_ne (by decide)) (fun i b _ _ _ _ q5 _ => cp_ne q5)
set_option maxHeartbeats 4000000 in
set_option maxRecDepth 100000 in
theorem pr_best (G : ab_G) (I : Nat → Nat → Int) (F : Nat → Nat → Nat) (c : Nat) (h : INV c I F) (hc : c ≤ 600) (a : Int) (ha : ab_In a) (b : Int) (hb : ab_In b) : Pair G 5 5 YX11_best YX12_best [ab_i a, ab_i b] ab_i c I F := by
  obtain ⟨L, M, wk, nx, hC, hM⟩ := id h.2.2.2.2.2.2.2.2
  obtain ⟨c1, c2, c3, c4, c5, c6, c7, c8⟩ := id hC
  by_cases hv9 : (1 ≤ a ∧ a ≤ 60) ∧ (0 ≤ b ∧ b ≤ 1)
  · obtain ⟨n, rfl⟩ : ∃ n : Nat, a = n := ⟨a.toNat, by omega⟩
    refine (ct_X11_best G I F h.1 L wk nx n c1 c4 (by omega) (by omega) h.2.1 h.2.2.2.1 h.2.2.2.2.2.2.2.1 (by omega) b hv9.2).mono ?_
    rintro _ _ ⟨rfl, J, F2, rfl, hf1, hf2, hf3⟩
    refine ⟨_, _, _, rfl, rfl, ?_⟩
    have hJM : ∀ i, 64 < i → J i = I i := fun i q1 => funext fun b => hf1 i b (by omega)
    have m1 : RS J M wk nx (2 * wk) := c2.ofc (fun b hb => hf1 89 b (by omega))
    have m2 : TBM J := by have := h.tbm; unfold TBM at *; rw [hJM 84 (by decide), hJM 85 (by decide), hJM 86 (by decide), hJM 87 (by decide), hJM 88 (by decide)]; exact this
    have m3 : RBM J := h.rbm.of (hJM 95 (by decide))
    have m5 : ab_FB F2 := fun i j q1 q2 => (hf2 i j q2).trans (h.1 i j q1 q2)
    refine (ct_X12_best G J F2 m5 M wk nx n m1 (c4.perm c3) (by omega) (by omega) m2 m3 (by omega) b hv9.2).mono ?_
    rintro _ _ ⟨rfl, J2, rfl, hk⟩
    have hkd := h.2.2.1.kd h.2.1
    refine ⟨?_, _, _, rfl, h.keep (by omega) (fun i b q => ?_) hf2 (hf3.of (fun i b q => hk i b (by omega) (by omega) (by omega) (by omega) (by omega)))⟩
    · rw [h.ru, h.2.2.1.tn, hkd.1, hkd.2, btX_perm c3 c4, show btX (ruM J) (tnM J) (kdM J 2 87) (kdM J 4 88) n wk M nx = btX (ruM I) (tnM I) (kdM I 2 87) (kdM I 4 88) n wk M nx by unfold ruM tnM kdM; rw [hJM 84 (by decide), hJM 85 (by decide), hJM 86 (by decide), hJM 87 (by decide), hJM 88 (by decide), hJM 95 (by decide)]]
    · rw [hk i b (by omega) (by omega) (by omega) (by omega) (by omega)]; exact hf1 i b (by omega)
  · refine (ct_X11_best_bad G I F h.1 a ha b hb hv9).mono ?_
    rintro _ _ ⟨rfl, rfl⟩
    refine ⟨_, _, _, rfl, rfl, ?_⟩
    refine (ct_X12_best_bad G I F h.1 a ha b hb hv9).mono ?_
    rintro _ _ ⟨rfl, rfl⟩
    exact ⟨rfl, _, _, rfl, h.up (by omega)⟩
