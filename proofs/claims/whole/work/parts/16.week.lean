/-- a course: who stands on the list, the week, the next number; W bounds noes and waiting -/
def CS (c : Nat) (I : Nat → Nat → Int) (F : Nat → Nat → Nat) (L : List P5) (wk nx W : Int) : Prop :=
  L.length ≤ 12 ∧ (I c 2 = L.length ∧ I c 3 = wk ∧ I c 4 = nx) ∧ (∀ i, i < 12 → c + 9 ≤ F (c + 1) i ∧ F (c + 1) i ≤ c + 20) ∧ (∀ a b, a < 12 → b < 12 → F (c + 1) a = F (c + 1) b → a = b) ∧
  (∀ i, i < L.length → L[i]? = some (tup I (F (c + 1) i))) ∧ (∀ t ∈ L, PB W nx t) ∧ (∀ p, c + 9 ≤ p → p ≤ c + 20 → PB 6000 100000 (tup I p))
/-- what has come to a course since: tallies, empty houses; nothing else has changed -/
def CD (c : Nat) (I0 : Nat → Nat → Int) (F0 : Nat → Nat → Nat) (I : Nat → Nat → Int) (F : Nat → Nat → Nat) (T : Nat → Nat → Int) (em : Int) : Prop :=
  (∀ w s, w < 6 → s < 4 → I (c + 3 + w) s = I0 (c + 3 + w) s + T w s) ∧ I c 5 = I0 c 5 + em ∧ (∀ i b, (i < c ∨ c + 20 < i) → I i b = I0 i b) ∧ (∀ i b, i ≠ c + 1 → F i b = F0 i b)
theorem CD.trans {c : Nat} {I0 I1 I2 : Nat → Nat → Int} {F0 F1 F2 : Nat → Nat → Nat} {T T' : Nat → Nat → Int} {em em' : Int} (h : CD c I0 F0 I1 F1 T em) (h' : CD c I1 F1 I2 F2 T' em') : CD c I0 F0 I2 F2 (fun w s => T w s + T' w s) (em + em') := by
  refine ⟨fun w s hw hs => ?_, ?_, fun i b hi => (h'.2.2.1 i b hi).trans (h.2.2.1 i b hi), fun i b hi => (h'.2.2.2 i b hi).trans (h.2.2.2 i b hi)⟩
  · rw [h'.1 w s hw hs, h.1 w s hw hs]; simp only []; omega
  · rw [h'.2.1, h.2.1]; omega
theorem CD.rf {c : Nat} {I : Nat → Nat → Int} {F : Nat → Nat → Nat} : CD c I F I F (fun _ _ => 0) 0 := ⟨fun _ _ _ _ => by simp, by omega, fun _ _ _ => rfl, fun _ _ _ => rfl⟩
theorem OE.cs {c : Nat} {I0 I : Nat → Nat → Int} {F0 F : Nat → Nat → Nat} {wk : Int} {o : OS} (h : OE c I0 F0 wk o I F) : CS c I F o.1 (I0 c 3) o.2.2.1 (wk + 1) ∧ CD c I0 F0 I F o.2.1 (if o.2.2.2 = true then 0 else 1) := by
  obtain ⟨h1, ⟨h2, h3, h4, h5⟩, h6, h7, h8, h9, h10, h11, h12, h13⟩ := h
  exact ⟨⟨h1, ⟨h2, h3, h5⟩, h9, h10, h11, h12, h13⟩, h6, h4, h7, h8⟩
theorem CS.tup {c : Nat} {I : Nat → Nat → Int} {F : Nat → Nat → Nat} {L : List P5} {wk nx W : Int} (h : CS c I F L wk nx W) : L = (List.range L.length).map (fun i => tup I (F (c + 1) i)) := by
  apply List.ext_getElem?
  intro i
  by_cases hi : i < L.length
  · rw [h.2.2.2.2.1 i hi, List.getElem?_map, List.getElem?_range hi]; rfl
  · rw [List.getElem?_eq_none (by omega), List.getElem?_eq_none (by simp; omega)]
def arL (L : List P5) (nx : Int) (s : Nat) : List P5 := if L.length = 12 then L else L ++ [((s : Int), nx, 0, 0, 0)]
def arN (L : List P5) (nx : Int) : Int := if L.length = 12 then nx else nx + 1
def arT (L : List P5) (s : Nat) : Nat → Nat → Int := if L.length = 12 then ta (fun _ _ => 0) 4 s 1 else fun _ _ => 0
def gr (g : Int) (t : P5) : P5 := (t.1, t.2.1, if 99 < t.2.2.1 + g then 99 else t.2.2.1 + g, t.2.2.2.1, t.2.2.2.2 + 1)
def grT (nd : Nat → Int) (L : List P5) : Nat → Nat → Int := L.foldl (fun T t => ta T 5 t.1.toNat (nd t.1.toNat)) (fun _ _ => 0)
theorem CS_add {c : Nat} {I : Nat → Nat → Int} {F : Nat → Nat → Nat} {L : List P5} {wk nx W : Int} {s : Nat} (h : CS c I F L wk nx W) (hL : L.length < 12) (hs : s < 4) (hnx : 0 ≤ nx ∧ nx ≤ 99999) (hW : 0 ≤ W) :
    CS c (ab_u (ab_u (pt I (F (c + 1) L.length) ((s : Int), I c 4, 0, 0, 0)) c 4 (I c 4 + 1)) c 2 ((L.length : Int) + 1)) F (L ++ [((s : Int), nx, 0, 0, 0)]) wk (nx + 1) W ∧ CD c I F (ab_u (ab_u (pt I (F (c + 1) L.length) ((s : Int), I c 4, 0, 0, 0)) c 4 (I c 4 + 1)) c 2 ((L.length : Int) + 1)) F (fun _ _ => 0) 0 := by
  obtain ⟨h1, ⟨h2, h3, h4⟩, h5, h6, h7, h8, h9⟩ := h
  have hp := h5 L.length hL
  have htu : ∀ q, c + 9 ≤ q → q ≤ c + 20 → ∀ I' : Nat → Nat → Int, tup (ab_u (ab_u I' c 4 (I c 4 + 1)) c 2 ((L.length : Int) + 1)) q = tup I' q := fun q q1 q2 I' => by rw [tup_u (by omega), tup_u (by omega)]
  refine ⟨⟨by simp; omega, ⟨by rw [ab_u_s]; simp, by rw [ab_u_j (by omega), ab_u_j (by omega), pt_ne (by omega)]; exact h3, by rw [ab_u_j (by omega), ab_u_s, h4]⟩, h5, h6, fun i hi => ?_, fun t ht => ?_, fun q q1 q2 => ?_⟩, fun w x hw hx => ?_, ?_, fun i b hi => ?_, fun _ _ _ => rfl⟩
  · rw [List.length_append, List.length_singleton] at hi
    have hi' := h5 i (by omega)
    rw [htu _ hi'.1 hi'.2]
    by_cases hiL : i = L.length
    · rw [hiL, List.getElem?_append_right (Nat.le_refl _), Nat.sub_self, tup_pt, h4]; rfl
    · rw [List.getElem?_append_left (by omega), tup_ne (fun e => hiL (h6 i L.length (by omega) hL e))]
      exact h7 i (by omega)
  · rcases List.mem_append.mp ht with e | e
    · exact (h8 t e).mono (Int.le_refl _) (by omega)
    · rw [List.mem_singleton.mp e]; unfold PB; dsimp only; omega
  · rw [htu _ q1 q2]
    by_cases hq : q = F (c + 1) L.length
    · rw [hq, tup_pt]; unfold PB; dsimp only; omega
    · rw [tup_ne hq]; exact h9 q q1 q2
  · rw [ab_u_i (by omega), ab_u_i (by omega), pt_ne (by omega)]; simp
  · rw [ab_u_j (by omega), ab_u_j (by omega), pt_ne (by omega)]; omega
  · rw [ab_u_i (by omega), ab_u_i (by omega), pt_ne (by omega)]
theorem CS_away {c : Nat} {I : Nat → Nat → Int} {F : Nat → Nat → Nat} {L : List P5} {wk nx W : Int} {s : Nat} (h : CS c I F L wk nx W) (hs : s < 4) :
    CS c (ab_u I (c + 7) s (I (c + 7) s + 1)) F L wk nx W ∧ CD c I F (ab_u I (c + 7) s (I (c + 7) s + 1)) F (ta (fun _ _ => 0) 4 s 1) 0 := by
  obtain ⟨h1, ⟨h2, h3, h4⟩, h5, h6, h7, h8, h9⟩ := h
  refine ⟨⟨h1, ⟨by rw [ab_u_i (by omega)]; exact h2, by rw [ab_u_i (by omega)]; exact h3, by rw [ab_u_i (by omega)]; exact h4⟩, h5, h6, fun i hi => ?_, h8, fun q q1 q2 => ?_⟩, fun w x hw hx => ?_, ?_, fun i b hi => ?_, fun _ _ _ => rfl⟩
  · have := h5 i (by omega)
    rw [tup_u (by omega)]; exact h7 i hi
  · rw [tup_u (by omega)]; exact h9 q q1 q2
  · rw [ta_add]
    by_cases hw4 : w = 4
    · subst hw4
      by_cases hx2 : x = s
      · subst hx2; simp [ab_u]
      · rw [ab_u_j hx2]; simp [hx2]
    · rw [ab_u_i (by omega)]; simp [hw4]
  · rw [ab_u_i (by omega)]; omega
  · rw [ab_u_i (by omega)]
/-- while they grow older -/
def GI (c : Nat) (I0 : Nat → Nat → Int) (F : Nat → Nat → Nat) (W nx g : Int) (j : Nat) (T : Nat → Nat → Int) (I : Nat → Nat → Int) : Prop :=
  (∀ b, I c b = I0 c b) ∧ (∀ w s, w < 6 → s < 4 → I (c + 3 + w) s = I0 (c + 3 + w) s + T w s) ∧ (∀ i b, (i < c ∨ c + 20 < i) → I i b = I0 i b) ∧
  (∀ i, i < j → i < 12 → tup I (F (c + 1) i) = gr g (tup I0 (F (c + 1) i))) ∧ (∀ i, j ≤ i → i < 12 → tup I (F (c + 1) i) = tup I0 (F (c + 1) i)) ∧ (∀ p, c + 9 ≤ p → p ≤ c + 20 → PB 6000 100000 (tup I p))
theorem GI_step {c : Nat} {I0 I : Nat → Nat → Int} {F : Nat → Nat → Nat} {W nx g v : Int} {j s : Nat} {T : Nat → Nat → Int} (h : GI c I0 F W nx g j T I) (hj : j < 12) (h5 : ∀ i, i < 12 → c + 9 ≤ F (c + 1) i ∧ F (c + 1) i ≤ c + 20) (h6 : ∀ a b, a < 12 → b < 12 → F (c + 1) a = F (c + 1) b → a = b) (h8 : PB W nx (tup I (F (c + 1) j))) (hW6 : W + 1 ≤ 6000) (hx6 : nx ≤ 100000) (hg : 0 ≤ g) (hs : I (F (c + 1) j) 0 = (s : Int)) (hs4 : s < 4) :
    GI c I0 F W nx g (j + 1) (ta T 5 s v) (ab_u (ab_u (ab_u I (F (c + 1) j) 4 (I (F (c + 1) j) 4 + 1)) (F (c + 1) j) 2 (if 99 < I (F (c + 1) j) 2 + g then 99 else I (F (c + 1) j) 2 + g)) (c + 8) s (I (c + 8) s + v)) := by
  obtain ⟨g1, g2, g3, g4, g5, g6⟩ := h
  have hp := h5 j hj
  have hpb := h8
  have e5 := g5 j (Nat.le_refl _) hj
  have ht : ∀ q, c + 9 ≤ q → q ≤ c + 20 → q ≠ F (c + 1) j → tup (ab_u (ab_u (ab_u I (F (c + 1) j) 4 (I (F (c + 1) j) 4 + 1)) (F (c + 1) j) 2 (if 99 < I (F (c + 1) j) 2 + g then 99 else I (F (c + 1) j) 2 + g)) (c + 8) s (I (c + 8) s + v)) q = tup I q := fun q q1 q2 q3 => by
    rw [tup_u (by omega), tup_u q3, tup_u q3]
  have ht2 : tup (ab_u (ab_u (ab_u I (F (c + 1) j) 4 (I (F (c + 1) j) 4 + 1)) (F (c + 1) j) 2 (if 99 < I (F (c + 1) j) 2 + g then 99 else I (F (c + 1) j) 2 + g)) (c + 8) s (I (c + 8) s + v)) (F (c + 1) j) = gr g (tup I (F (c + 1) j)) := by
    rw [tup_u (by omega), pt_u4, pt_u2, pt_pt, tup_pt, pt_0, pt_1, pt_3, pt_4]; rfl
  refine ⟨fun b => ?_, fun w x hw hx => ?_, fun i b hi => ?_, fun i hi hi2 => ?_, fun i hi hi2 => ?_, fun q q1 q2 => ?_⟩
  · rw [ab_u_i (by omega), ab_u_i (by omega), ab_u_i (by omega)]; exact g1 b
  · rw [ta_add]
    by_cases hw5 : w = 5
    · subst hw5
      by_cases hx2 : x = s
      · subst hx2
        have := g2 5 x (by omega) hx
        rw [ab_u_s, this]; simp; omega
      · rw [ab_u_j hx2, ab_u_i (by omega), ab_u_i (by omega), g2 5 x (by omega) hx]; simp [hx2]
    · rw [ab_u_i (by omega), ab_u_i (by omega), ab_u_i (by omega), g2 w x hw hx]; simp [hw5]
  · rw [ab_u_i (by omega), ab_u_i (by omega), ab_u_i (by omega)]; exact g3 i b hi
  · by_cases hij : i = j
    · subst hij; rw [ht2, e5]
    · rw [ht _ (h5 i hi2).1 (h5 i hi2).2 (fun e => hij (h6 i j hi2 hj e))]; exact g4 i (by omega) hi2
  · rw [ht _ (h5 i hi2).1 (h5 i hi2).2 (fun e => by have := h6 i j hi2 hj e; omega)]; exact g5 i (by omega) hi2
  · by_cases hq : q = F (c + 1) j
    · rw [hq, ht2]
      unfold PB tup gr at *; dsimp only at *
      split <;> omega
    · rw [ht q q1 q2 hq]; exact g6 q q1 q2
theorem GI_end {c : Nat} {I0 I : Nat → Nat → Int} {F : Nat → Nat → Nat} {L : List P5} {W wk nx g : Int} {T : Nat → Nat → Int} (h : GI c I0 F W nx g L.length T I) (hC : CS c I0 F L wk nx W) (hg : 0 ≤ g) : CS c I F (L.map (gr g)) wk nx (W + 1) ∧ CD c I0 F I F T 0 := by
  obtain ⟨g1, g2, g3, g4, g5, g6⟩ := h
  obtain ⟨h1, ⟨h2, h3, h4⟩, h5, h6, h7, h8, h9⟩ := hC
  refine ⟨⟨by simpa using h1, ⟨by rw [g1, List.length_map]; exact h2, by rw [g1]; exact h3, by rw [g1]; exact h4⟩, h5, h6, fun i hi => ?_, fun t ht => ?_, g6⟩, g2, by rw [g1]; omega, g3, fun _ _ _ => rfl⟩
  · rw [List.length_map] at hi
    rw [List.getElem?_map, h7 i hi, g4 i hi (by omega)]; rfl
  · obtain ⟨u, hu, rfl⟩ := List.mem_map.mp ht
    have := h8 u hu
    unfold PB gr at *; dsimp only at *
    split <;> omega
set_option maxHeartbeats 4000000 in
set_option maxRecDepth 100000 in
theorem ct_X1_arrive_23 (G : ab_G) (I : Nat → Nat → Int) (F : Nat → Nat → Nat) (hF : ab_FB F) (L : List P5) (wk nx W : Int) (hC : CS 23 I F L wk nx W) (s : Nat) (hs : s < 4) (hnx : 0 ≤ nx ∧ nx ≤ 99999) (hW : 0 ≤ W) : Ct G 2 0 0 YX1_arrive [ab_r 23, ab_i (s : Int)] (104, I, F) (fun r h => r = none ∧ ∃ I2, h = (104, I2, F) ∧ CS 23 I2 F (arL L nx s) wk (arN L nx) W ∧ CD 23 I F I2 F (arT L s) 0) := by
  refine Ct.ofW kX1_arrive (ls := [some (ab_r 23), some (ab_i (s : Int))]) (Nat.le_of_ble_eq_true rfl) rfl ?_
  have h1 := hC.1
  have h2 := hC.2.1.1
  refine aw_aload_n dX1_arrive_0 rfl (by decide) ?_
  refine aw_callV (as := []) (rest := []) dX1_arrive_1 (ct_X1_isFull_23 G I F (by unfold ab_In; omega)) ⟨Nat.le_of_ble_eq_true rfl, Nat.le_of_ble_eq_true rfl⟩ rfl kc1 rfl kX1_isFull iX1_isFull eX1_isFull lX1_50 rfl (Nat.le_of_ble_eq_true rfl) (by decide) (by decide) (by decide) (by decide) ?_
  rintro _ _ ⟨rfl, rfl⟩
  by_cases hf : L.length = 12
  · rw [if_pos (by omega)]
    refine aw_if_eq (tgt := 22) dX1_arrive_4 rfl ⟨by decide, by decide⟩ (fun c9 => absurd c9 (by decide)) (fun _ => ?_)
    refine aw_aload_n dX1_arrive_7 rfl (by decide) ?_
    refine aw_getrv (r := 25) dX1_arrive_8 fX1_32 ⟨Nat.le_of_ble_eq_true rfl, Nat.le_of_ble_eq_true rfl⟩ rfl rfl (hF.at 23 6 25 rfl rfl rfl) ?_
    refine aw_iconst dX1_arrive_11 ?_
    refine aw_aaldv (r := 30) dX1_arrive_12 ⟨Nat.le_of_ble_eq_true rfl, Nat.le_of_ble_eq_true rfl⟩ rfl (by decide) (by omega) (by omega) (by decide) (hF.at 25 4 30 rfl rfl rfl) ?_
    refine aw_iload_n dX1_arrive_13 rfl ?_
    refine aw_dup2 dX1_arrive_14 rfl rfl ?_
    refine aw_ialdq (q := s) (v := I 30 s) dX1_arrive_15 ⟨Nat.le_of_ble_eq_true rfl, Nat.le_of_ble_eq_true rfl⟩ rfl (by omega) (by omega) (by decide) rfl rfl ?_
    refine aw_iconst dX1_arrive_16 ?_
    refine aw_iadd dX1_arrive_17 ?_
    refine aw_iastv (q := s) dX1_arrive_18 ⟨Nat.le_of_ble_eq_true rfl, Nat.le_of_ble_eq_true rfl⟩ rfl (by omega) (by omega) (by decide) rfl ?_
    refine aw_goto (tgt := 27) dX1_arrive_19 rfl ?_
    refine aw_return dX1_arrive_27 rfl ?_
    have h9 := CS_away hC hs
    refine ⟨rfl, _, rfl, ?_⟩
    unfold arL arN arT; rw [if_pos hf, if_pos hf, if_pos hf]; exact h9
  · rw [if_neg (by omega)]
    refine aw_if_eq (tgt := 22) dX1_arrive_4 rfl ⟨by decide, by decide⟩ (fun _ => ?_) (fun c9 => absurd (by decide) c9)
    refine aw_aload_n dX1_arrive_22 rfl (by decide) ?_
    refine aw_iload_n dX1_arrive_23 rfl ?_
    refine aw_callV (as := [ab_i (s : Int)]) (rest := []) dX1_arrive_24 (ct_X1_add_23 G I F hF (s : Int) L.length _ h2 (by omega) rfl (hC.2.2.1 L.length (by omega))) ⟨Nat.le_of_ble_eq_true rfl, Nat.le_of_ble_eq_true rfl⟩ rfl kc1 rfl kX1_add iX1_add eX1_add lX1_137 rfl (Nat.le_of_ble_eq_true rfl) (by decide) (by decide) (by decide) (by decide) ?_
    rintro _ _ ⟨rfl, rfl⟩
    refine aw_return dX1_arrive_27 rfl ?_
    have h9 := CS_add hC (by omega) hs hnx hW
    refine ⟨rfl, _, rfl, ?_⟩
    unfold arL arN arT; rw [if_neg hf, if_neg hf, if_neg hf]; exact h9
set_option maxHeartbeats 4000000 in
set_option maxRecDepth 100000 in
theorem ct_X1_growOlder_23 (G : ab_G) (I : Nat → Nat → Int) (F : Nat → Nat → Nat) (hF : ab_FB F) (L : List P5) (wk nx W : Int) (hC : CS 23 I F L wk nx W) (hn : ∀ s, s < 4 → 1 ≤ I 8 s ∧ I 8 s ≤ 9) (g : Int) (hg : 0 ≤ g ∧ g ≤ 9) (hW6 : W + 1 ≤ 6000) (hx6 : nx ≤ 100000) : Ct G 1 0 0 YX1_growOlder [ab_r 23, ab_i g] (104, I, F) (fun r h => r = none ∧ ∃ I2, h = (104, I2, F) ∧ CS 23 I2 F (L.map (gr g)) wk nx (W + 1) ∧ CD 23 I F I2 F (grT (n4 (I 8)) L) 0) := by
  refine Ct.ofW kX1_growOlder (ls := [some (ab_r 23), some (ab_i g), none, none]) (Nat.le_of_ble_eq_true rfl) rfl ?_
  generalize hZ : ab_Z G (fun r h => r = none ∧ ∃ I2, h = (104, I2, F) ∧ CS 23 I2 F (L.map (gr g)) wk nx (W + 1) ∧ CD 23 I F I2 F (grT (n4 (I 8)) L) 0) 0 0 = Z
  have h1 := hC.1
  have h2 := hC.2.1.1
  have h5 := hC.2.2.1
  have h6 := hC.2.2.2.1
  have h7 := hC.2.2.2.2.1
  have h8 := hC.2.2.2.2.2.1
  have h9 := hC.2.2.2.2.2.2
  have loop : ∀ (d j : Nat) (T : Nat → Nat → Int) (I1 : Nat → Nat → Int), j + d = L.length → GI 23 I F W nx g j T I1 → (L.drop j).foldl (fun T t => ta T 5 t.1.toNat (n4 (I 8) t.1.toNat)) T = grT (n4 (I 8)) L → aW G YX1_growOlder (ab_rm 1 0 0) Z 0 0 (104, I1, F) 2 [some (ab_r 23), some (ab_i g), some (ab_i (j : Int)), none] [] := by
    intro d
    induction d with
    | zero =>
      intro j T I1 hj hG hfo
      have hjN : j = L.length := by omega
      subst hjN
      rw [List.drop_of_length_le (Nat.le_refl _)] at hfo
      have hfo : T = _ := hfo
      have h21 : I1 23 2 = (L.length : Int) := (hG.1 2).trans h2
      refine aw_iload_n dX1_growOlder_2 rfl ?_
      refine aw_aload_n dX1_growOlder_3 rfl (by decide) ?_
      refine aw_getiv (v := (L.length : Int)) dX1_growOlder_4 fX1_17 ⟨Nat.le_of_ble_eq_true rfl, Nat.le_of_ble_eq_true rfl⟩ rfl rfl h21 ?_
      refine aw_icmp_ge (tgt := 74) dX1_growOlder_7 rfl (by first | assumption | (unfold ab_In at *; omega)) (by first | assumption | (unfold ab_In at *; omega)) (fun c_7 => ?_) (fun c_7 => ?_)
      · rw [← hZ]
        refine aw_return dX1_growOlder_74 rfl ?_
        have h9 := GI_end hG hC hg.1
        rw [hfo] at h9
        exact ⟨rfl, _, rfl, h9⟩
      · exfalso; omega
    | succ d ih =>
      intro j T I1 hj hG hfo
      have h21 : I1 23 2 = (L.length : Int) := (hG.1 2).trans h2
      have hjL : j < L.length := by omega
      have hp : 32 ≤ F 24 j ∧ F 24 j ≤ 43 := h5 j (by omega)
      have e5 : tup I1 (F 24 j) = tup I (F 24 j) := hG.2.2.2.2.1 j (Nat.le_refl _) (by omega)
      have hpb : PB W nx (tup I1 (F 24 j)) := by rw [e5]; exact h8 _ (List.mem_of_getElem? (h7 j hjL))
      have hLj : L.drop j = tup I1 (F 24 j) :: L.drop (j + 1) := by
        rw [List.drop_eq_getElem_cons hjL]
        have := h7 j hjL
        rw [List.getElem?_eq_getElem hjL] at this
        rw [Option.some.inj this, e5]
      rw [hLj, List.foldl_cons] at hfo
      have he8 : ∀ s, I1 8 s = I 8 s := fun s => hG.2.2.1 8 s (by omega)
      obtain ⟨p, hpF⟩ : ∃ p, F 24 j = p := ⟨_, rfl⟩
      rw [hpF] at hp hpb hfo
      obtain ⟨s, hs⟩ : ∃ s : Nat, I1 p 0 = (s : Int) := ⟨(I1 p 0).toNat, by unfold PB tup at hpb; dsimp only at hpb; omega⟩
      have hs4 : s < 4 := by unfold PB tup at hpb; dsimp only at hpb; omega
      have hp2 : 0 ≤ I1 p 2 ∧ I1 p 2 ≤ 99 := by unfold PB tup at hpb; dsimp only at hpb; omega
      refine aw_iload_n dX1_growOlder_2 rfl ?_
      refine aw_aload_n dX1_growOlder_3 rfl (by decide) ?_
      refine aw_getiv (v := (L.length : Int)) dX1_growOlder_4 fX1_17 ⟨Nat.le_of_ble_eq_true rfl, Nat.le_of_ble_eq_true rfl⟩ rfl rfl h21 ?_
      refine aw_icmp_ge (tgt := 74) dX1_growOlder_7 rfl (by first | assumption | (unfold ab_In at *; omega)) (by first | assumption | (unfold ab_In at *; omega)) (fun c_7 => ?_) (fun c_7 => ?_)
      · exfalso; omega
      · refine aw_aload_n dX1_growOlder_10 rfl (by decide) ?_
        refine aw_getrv (r := 24) dX1_growOlder_11 fX1_11 ⟨Nat.le_of_ble_eq_true rfl, Nat.le_of_ble_eq_true rfl⟩ rfl rfl (hF.at 23 1 24 rfl rfl rfl) ?_
        refine aw_iload_n dX1_growOlder_14 rfl ?_
        refine aw_aaldv (r := p) dX1_growOlder_15 ⟨Nat.le_of_ble_eq_true rfl, Nat.le_of_ble_eq_true rfl⟩ rfl (by decide) (by omega) (by omega) (by decide) hpF ?_
        refine aw_astore_n (ls' := [some (ab_r 23), some (ab_i g), some (ab_i (j : Int)), some (ab_r p)]) dX1_growOlder_16 (by decide) (by omega) rfl ?_
        refine aw_aload_n dX1_growOlder_17 rfl (by omega) ?_
        refine aw_dup dX1_growOlder_18 rfl ?_
        refine aw_geti dX1_growOlder_19 fX1_115 ⟨by omega, by omega⟩ (sh_p23 hp) rfl ?_
        refine aw_iconst dX1_growOlder_22 ?_
        refine aw_iadd dX1_growOlder_23 ?_
        refine aw_puti dX1_growOlder_24 fX1_115 ⟨by omega, by omega⟩ (sh_p23 hp) rfl ?_
        refine aw_aload_n dX1_growOlder_27 rfl (by omega) ?_
        refine aw_aload_n dX1_growOlder_28 rfl (by omega) ?_
        refine aw_getiv (v := I1 p 2) dX1_growOlder_29 fX1_100 ⟨by omega, by omega⟩ (sh_p23 hp) rfl (ab_u_j (by decide)) ?_
        refine aw_iload_n dX1_growOlder_32 rfl ?_
        refine aw_iadd dX1_growOlder_33 ?_
        refine aw_bipush dX1_growOlder_34 rfl ?_
        refine aw_mmin dX1_growOlder_36 lX1_140 (by first | assumption | (unfold ab_In at *; omega)) (by first | assumption | (unfold ab_In at *; omega)) (Nat.le_of_ble_eq_true rfl) (by decide) (by decide) (by decide) (by decide) ?_
        refine aw_puti dX1_growOlder_39 fX1_100 ⟨by omega, by omega⟩ (sh_p23 hp) rfl ?_
        refine aw_aload_n dX1_growOlder_42 rfl (by decide) ?_
        refine aw_getrv (r := 25) dX1_growOlder_43 fX1_32 ⟨Nat.le_of_ble_eq_true rfl, Nat.le_of_ble_eq_true rfl⟩ rfl rfl (hF.at 23 6 25 rfl rfl rfl) ?_
        refine aw_iconst dX1_growOlder_46 ?_
        refine aw_aaldv (r := 31) dX1_growOlder_47 ⟨Nat.le_of_ble_eq_true rfl, Nat.le_of_ble_eq_true rfl⟩ rfl (by decide) (by omega) (by omega) (by decide) (hF.at 25 5 31 rfl rfl rfl) ?_
        refine aw_aload_n dX1_growOlder_48 rfl (by omega) ?_
        refine aw_getiv (v := (s : Int)) dX1_growOlder_49 fX1_97 ⟨by omega, by omega⟩ (sh_p23 hp) rfl (((ab_u_j (by decide)).trans (ab_u_j (by decide))).trans hs) ?_
        refine aw_dup2 dX1_growOlder_52 rfl rfl ?_
        refine aw_ialdq (q := s) (v := I1 31 s) dX1_growOlder_53 ⟨Nat.le_of_ble_eq_true rfl, Nat.le_of_ble_eq_true rfl⟩ rfl (by omega) (by omega) (by decide) rfl ((ab_u_i (by omega)).trans (ab_u_i (by omega))) ?_
        refine aw_aload_n dX1_growOlder_54 rfl (by decide) ?_
        refine aw_getrv (r := 2) dX1_growOlder_55 fX1_35 ⟨Nat.le_of_ble_eq_true rfl, Nat.le_of_ble_eq_true rfl⟩ rfl rfl (hF.at 23 0 2 rfl rfl rfl) ?_
        refine aw_getrv (r := 8) dX1_growOlder_58 fX1_93 ⟨Nat.le_of_ble_eq_true rfl, Nat.le_of_ble_eq_true rfl⟩ rfl rfl (hF.at 2 1 8 rfl rfl rfl) ?_
        refine aw_aload_n dX1_growOlder_61 rfl (by omega) ?_
        refine aw_getiv (v := (s : Int)) dX1_growOlder_62 fX1_97 ⟨by omega, by omega⟩ (sh_p23 hp) rfl (((ab_u_j (by decide)).trans (ab_u_j (by decide))).trans hs) ?_
        refine aw_ialdq (q := s) (v := I1 8 s) dX1_growOlder_65 ⟨Nat.le_of_ble_eq_true rfl, Nat.le_of_ble_eq_true rfl⟩ rfl (by omega) (by omega) (by decide) rfl ((ab_u_i (by omega)).trans (ab_u_i (by omega))) ?_
        refine aw_iadd dX1_growOlder_66 ?_
        refine aw_iastv (q := s) dX1_growOlder_67 ⟨Nat.le_of_ble_eq_true rfl, Nat.le_of_ble_eq_true rfl⟩ rfl (by omega) (by omega) (by decide) rfl ?_
        refine aw_iinc (ls' := [some (ab_r 23), some (ab_i g), some (ab_i ((j : Int) + 1)), some (ab_r p)]) dX1_growOlder_68 (by decide) rfl rfl ?_
        refine aw_goto (tgt := 2) dX1_growOlder_71 rfl ?_
        subst hpF
        have hn9 := GI_step (v := I1 8 s) hG (by omega) h5 h6 hpb hW6 hx6 hg.1 hs hs4
        have e9 : (tup I1 (F 24 j)).1.toNat = s := by unfold tup; dsimp only; omega
        rw [e9, n4_lt hs4, ← he8 s] at hfo
        have ih9 := ih (j + 1) _ _ (by omega) hn9 hfo
        exact aw_le (ab_le_c (ab_le_c (ab_le_c (ab_le_n ab_le_nil)))) ih9
  refine aw_iconst dX1_growOlder_0 ?_
  refine aw_istore_n (ls' := [some (ab_r 23), some (ab_i g), some (ab_i 0), none]) dX1_growOlder_1 (by decide) rfl ?_
  exact loop L.length 0 _ I (by omega) ⟨fun _ => rfl, fun _ _ _ _ => by simp, fun _ _ _ => rfl, fun i hi => by omega, fun _ _ _ => rfl, h9⟩ rfl
set_option maxHeartbeats 4000000 in
set_option maxRecDepth 100000 in
theorem ct_X1_arrive_44 (G : ab_G) (I : Nat → Nat → Int) (F : Nat → Nat → Nat) (hF : ab_FB F) (L : List P5) (wk nx W : Int) (hC : CS 44 I F L wk nx W) (s : Nat) (hs : s < 4) (hnx : 0 ≤ nx ∧ nx ≤ 99999) (hW : 0 ≤ W) : Ct G 2 0 0 YX1_arrive [ab_r 44, ab_i (s : Int)] (104, I, F) (fun r h => r = none ∧ ∃ I2, h = (104, I2, F) ∧ CS 44 I2 F (arL L nx s) wk (arN L nx) W ∧ CD 44 I F I2 F (arT L s) 0) := by
  refine Ct.ofW kX1_arrive (ls := [some (ab_r 44), some (ab_i (s : Int))]) (Nat.le_of_ble_eq_true rfl) rfl ?_
  have h1 := hC.1
  have h2 := hC.2.1.1
  refine aw_aload_n dX1_arrive_0 rfl (by decide) ?_
  refine aw_callV (as := []) (rest := []) dX1_arrive_1 (ct_X1_isFull_44 G I F (by unfold ab_In; omega)) ⟨Nat.le_of_ble_eq_true rfl, Nat.le_of_ble_eq_true rfl⟩ rfl kc1 rfl kX1_isFull iX1_isFull eX1_isFull lX1_50 rfl (Nat.le_of_ble_eq_true rfl) (by decide) (by decide) (by decide) (by decide) ?_
  rintro _ _ ⟨rfl, rfl⟩
  by_cases hf : L.length = 12
  · rw [if_pos (by omega)]
    refine aw_if_eq (tgt := 22) dX1_arrive_4 rfl ⟨by decide, by decide⟩ (fun c9 => absurd c9 (by decide)) (fun _ => ?_)
    refine aw_aload_n dX1_arrive_7 rfl (by decide) ?_
    refine aw_getrv (r := 46) dX1_arrive_8 fX1_32 ⟨Nat.le_of_ble_eq_true rfl, Nat.le_of_ble_eq_true rfl⟩ rfl rfl (hF.at 44 6 46 rfl rfl rfl) ?_
    refine aw_iconst dX1_arrive_11 ?_
    refine aw_aaldv (r := 51) dX1_arrive_12 ⟨Nat.le_of_ble_eq_true rfl, Nat.le_of_ble_eq_true rfl⟩ rfl (by decide) (by omega) (by omega) (by decide) (hF.at 46 4 51 rfl rfl rfl) ?_
    refine aw_iload_n dX1_arrive_13 rfl ?_
    refine aw_dup2 dX1_arrive_14 rfl rfl ?_
    refine aw_ialdq (q := s) (v := I 51 s) dX1_arrive_15 ⟨Nat.le_of_ble_eq_true rfl, Nat.le_of_ble_eq_true rfl⟩ rfl (by omega) (by omega) (by decide) rfl rfl ?_
    refine aw_iconst dX1_arrive_16 ?_
    refine aw_iadd dX1_arrive_17 ?_
    refine aw_iastv (q := s) dX1_arrive_18 ⟨Nat.le_of_ble_eq_true rfl, Nat.le_of_ble_eq_true rfl⟩ rfl (by omega) (by omega) (by decide) rfl ?_
    refine aw_goto (tgt := 27) dX1_arrive_19 rfl ?_
    refine aw_return dX1_arrive_27 rfl ?_
    have h9 := CS_away hC hs
    refine ⟨rfl, _, rfl, ?_⟩
    unfold arL arN arT; rw [if_pos hf, if_pos hf, if_pos hf]; exact h9
  · rw [if_neg (by omega)]
    refine aw_if_eq (tgt := 22) dX1_arrive_4 rfl ⟨by decide, by decide⟩ (fun _ => ?_) (fun c9 => absurd (by decide) c9)
    refine aw_aload_n dX1_arrive_22 rfl (by decide) ?_
    refine aw_iload_n dX1_arrive_23 rfl ?_
    refine aw_callV (as := [ab_i (s : Int)]) (rest := []) dX1_arrive_24 (ct_X1_add_44 G I F hF (s : Int) L.length _ h2 (by omega) rfl (hC.2.2.1 L.length (by omega))) ⟨Nat.le_of_ble_eq_true rfl, Nat.le_of_ble_eq_true rfl⟩ rfl kc1 rfl kX1_add iX1_add eX1_add lX1_137 rfl (Nat.le_of_ble_eq_true rfl) (by decide) (by decide) (by decide) (by decide) ?_
    rintro _ _ ⟨rfl, rfl⟩
    refine aw_return dX1_arrive_27 rfl ?_
    have h9 := CS_add hC (by omega) hs hnx hW
    refine ⟨rfl, _, rfl, ?_⟩
    unfold arL arN arT; rw [if_neg hf, if_neg hf, if_neg hf]; exact h9
set_option maxHeartbeats 4000000 in
set_option maxRecDepth 100000 in
theorem ct_X1_growOlder_44 (G : ab_G) (I : Nat → Nat → Int) (F : Nat → Nat → Nat) (hF : ab_FB F) (L : List P5) (wk nx W : Int) (hC : CS 44 I F L wk nx W) (hn : ∀ s, s < 4 → 1 ≤ I 8 s ∧ I 8 s ≤ 9) (g : Int) (hg : 0 ≤ g ∧ g ≤ 9) (hW6 : W + 1 ≤ 6000) (hx6 : nx ≤ 100000) : Ct G 1 0 0 YX1_growOlder [ab_r 44, ab_i g] (104, I, F) (fun r h => r = none ∧ ∃ I2, h = (104, I2, F) ∧ CS 44 I2 F (L.map (gr g)) wk nx (W + 1) ∧ CD 44 I F I2 F (grT (n4 (I 8)) L) 0) := by
  refine Ct.ofW kX1_growOlder (ls := [some (ab_r 44), some (ab_i g), none, none]) (Nat.le_of_ble_eq_true rfl) rfl ?_
  generalize hZ : ab_Z G (fun r h => r = none ∧ ∃ I2, h = (104, I2, F) ∧ CS 44 I2 F (L.map (gr g)) wk nx (W + 1) ∧ CD 44 I F I2 F (grT (n4 (I 8)) L) 0) 0 0 = Z
  have h1 := hC.1
  have h2 := hC.2.1.1
  have h5 := hC.2.2.1
  have h6 := hC.2.2.2.1
  have h7 := hC.2.2.2.2.1
  have h8 := hC.2.2.2.2.2.1
  have h9 := hC.2.2.2.2.2.2
  have loop : ∀ (d j : Nat) (T : Nat → Nat → Int) (I1 : Nat → Nat → Int), j + d = L.length → GI 44 I F W nx g j T I1 → (L.drop j).foldl (fun T t => ta T 5 t.1.toNat (n4 (I 8) t.1.toNat)) T = grT (n4 (I 8)) L → aW G YX1_growOlder (ab_rm 1 0 0) Z 0 0 (104, I1, F) 2 [some (ab_r 44), some (ab_i g), some (ab_i (j : Int)), none] [] := by
    intro d
    induction d with
    | zero =>
      intro j T I1 hj hG hfo
      have hjN : j = L.length := by omega
      subst hjN
      rw [List.drop_of_length_le (Nat.le_refl _)] at hfo
      have hfo : T = _ := hfo
      have h21 : I1 44 2 = (L.length : Int) := (hG.1 2).trans h2
      refine aw_iload_n dX1_growOlder_2 rfl ?_
      refine aw_aload_n dX1_growOlder_3 rfl (by decide) ?_
      refine aw_getiv (v := (L.length : Int)) dX1_growOlder_4 fX1_17 ⟨Nat.le_of_ble_eq_true rfl, Nat.le_of_ble_eq_true rfl⟩ rfl rfl h21 ?_
      refine aw_icmp_ge (tgt := 74) dX1_growOlder_7 rfl (by first | assumption | (unfold ab_In at *; omega)) (by first | assumption | (unfold ab_In at *; omega)) (fun c_7 => ?_) (fun c_7 => ?_)
      · rw [← hZ]
        refine aw_return dX1_growOlder_74 rfl ?_
        have h9 := GI_end hG hC hg.1
        rw [hfo] at h9
        exact ⟨rfl, _, rfl, h9⟩
      · exfalso; omega
    | succ d ih =>
      intro j T I1 hj hG hfo
      have h21 : I1 44 2 = (L.length : Int) := (hG.1 2).trans h2
      have hjL : j < L.length := by omega
      have hp : 53 ≤ F 45 j ∧ F 45 j ≤ 64 := h5 j (by omega)
      have e5 : tup I1 (F 45 j) = tup I (F 45 j) := hG.2.2.2.2.1 j (Nat.le_refl _) (by omega)
      have hpb : PB W nx (tup I1 (F 45 j)) := by rw [e5]; exact h8 _ (List.mem_of_getElem? (h7 j hjL))
      have hLj : L.drop j = tup I1 (F 45 j) :: L.drop (j + 1) := by
        rw [List.drop_eq_getElem_cons hjL]
        have := h7 j hjL
        rw [List.getElem?_eq_getElem hjL] at this
        rw [Option.some.inj this, e5]
      rw [hLj, List.foldl_cons] at hfo
      have he8 : ∀ s, I1 8 s = I 8 s := fun s => hG.2.2.1 8 s (by omega)
      obtain ⟨p, hpF⟩ : ∃ p, F 45 j = p := ⟨_, rfl⟩
      rw [hpF] at hp hpb hfo
      obtain ⟨s, hs⟩ : ∃ s : Nat, I1 p 0 = (s : Int) := ⟨(I1 p 0).toNat, by unfold PB tup at hpb; dsimp only at hpb; omega⟩
      have hs4 : s < 4 := by unfold PB tup at hpb; dsimp only at hpb; omega
      have hp2 : 0 ≤ I1 p 2 ∧ I1 p 2 ≤ 99 := by unfold PB tup at hpb; dsimp only at hpb; omega
      refine aw_iload_n dX1_growOlder_2 rfl ?_
      refine aw_aload_n dX1_growOlder_3 rfl (by decide) ?_
      refine aw_getiv (v := (L.length : Int)) dX1_growOlder_4 fX1_17 ⟨Nat.le_of_ble_eq_true rfl, Nat.le_of_ble_eq_true rfl⟩ rfl rfl h21 ?_
      refine aw_icmp_ge (tgt := 74) dX1_growOlder_7 rfl (by first | assumption | (unfold ab_In at *; omega)) (by first | assumption | (unfold ab_In at *; omega)) (fun c_7 => ?_) (fun c_7 => ?_)
      · exfalso; omega
      · refine aw_aload_n dX1_growOlder_10 rfl (by decide) ?_
        refine aw_getrv (r := 45) dX1_growOlder_11 fX1_11 ⟨Nat.le_of_ble_eq_true rfl, Nat.le_of_ble_eq_true rfl⟩ rfl rfl (hF.at 44 1 45 rfl rfl rfl) ?_
        refine aw_iload_n dX1_growOlder_14 rfl ?_
        refine aw_aaldv (r := p) dX1_growOlder_15 ⟨Nat.le_of_ble_eq_true rfl, Nat.le_of_ble_eq_true rfl⟩ rfl (by decide) (by omega) (by omega) (by decide) hpF ?_
        refine aw_astore_n (ls' := [some (ab_r 44), some (ab_i g), some (ab_i (j : Int)), some (ab_r p)]) dX1_growOlder_16 (by decide) (by omega) rfl ?_
        refine aw_aload_n dX1_growOlder_17 rfl (by omega) ?_
        refine aw_dup dX1_growOlder_18 rfl ?_
        refine aw_geti dX1_growOlder_19 fX1_115 ⟨by omega, by omega⟩ (sh_p44 hp) rfl ?_
        refine aw_iconst dX1_growOlder_22 ?_
        refine aw_iadd dX1_growOlder_23 ?_
        refine aw_puti dX1_growOlder_24 fX1_115 ⟨by omega, by omega⟩ (sh_p44 hp) rfl ?_
        refine aw_aload_n dX1_growOlder_27 rfl (by omega) ?_
        refine aw_aload_n dX1_growOlder_28 rfl (by omega) ?_
        refine aw_getiv (v := I1 p 2) dX1_growOlder_29 fX1_100 ⟨by omega, by omega⟩ (sh_p44 hp) rfl (ab_u_j (by decide)) ?_
        refine aw_iload_n dX1_growOlder_32 rfl ?_
        refine aw_iadd dX1_growOlder_33 ?_
        refine aw_bipush dX1_growOlder_34 rfl ?_
        refine aw_mmin dX1_growOlder_36 lX1_140 (by first | assumption | (unfold ab_In at *; omega)) (by first | assumption | (unfold ab_In at *; omega)) (Nat.le_of_ble_eq_true rfl) (by decide) (by decide) (by decide) (by decide) ?_
        refine aw_puti dX1_growOlder_39 fX1_100 ⟨by omega, by omega⟩ (sh_p44 hp) rfl ?_
        refine aw_aload_n dX1_growOlder_42 rfl (by decide) ?_
        refine aw_getrv (r := 46) dX1_growOlder_43 fX1_32 ⟨Nat.le_of_ble_eq_true rfl, Nat.le_of_ble_eq_true rfl⟩ rfl rfl (hF.at 44 6 46 rfl rfl rfl) ?_
        refine aw_iconst dX1_growOlder_46 ?_
        refine aw_aaldv (r := 52) dX1_growOlder_47 ⟨Nat.le_of_ble_eq_true rfl, Nat.le_of_ble_eq_true rfl⟩ rfl (by decide) (by omega) (by omega) (by decide) (hF.at 46 5 52 rfl rfl rfl) ?_
        refine aw_aload_n dX1_growOlder_48 rfl (by omega) ?_
        refine aw_getiv (v := (s : Int)) dX1_growOlder_49 fX1_97 ⟨by omega, by omega⟩ (sh_p44 hp) rfl (((ab_u_j (by decide)).trans (ab_u_j (by decide))).trans hs) ?_
        refine aw_dup2 dX1_growOlder_52 rfl rfl ?_
        refine aw_ialdq (q := s) (v := I1 52 s) dX1_growOlder_53 ⟨Nat.le_of_ble_eq_true rfl, Nat.le_of_ble_eq_true rfl⟩ rfl (by omega) (by omega) (by decide) rfl ((ab_u_i (by omega)).trans (ab_u_i (by omega))) ?_
        refine aw_aload_n dX1_growOlder_54 rfl (by decide) ?_
        refine aw_getrv (r := 2) dX1_growOlder_55 fX1_35 ⟨Nat.le_of_ble_eq_true rfl, Nat.le_of_ble_eq_true rfl⟩ rfl rfl (hF.at 44 0 2 rfl rfl rfl) ?_
        refine aw_getrv (r := 8) dX1_growOlder_58 fX1_93 ⟨Nat.le_of_ble_eq_true rfl, Nat.le_of_ble_eq_true rfl⟩ rfl rfl (hF.at 2 1 8 rfl rfl rfl) ?_
        refine aw_aload_n dX1_growOlder_61 rfl (by omega) ?_
        refine aw_getiv (v := (s : Int)) dX1_growOlder_62 fX1_97 ⟨by omega, by omega⟩ (sh_p44 hp) rfl (((ab_u_j (by decide)).trans (ab_u_j (by decide))).trans hs) ?_
        refine aw_ialdq (q := s) (v := I1 8 s) dX1_growOlder_65 ⟨Nat.le_of_ble_eq_true rfl, Nat.le_of_ble_eq_true rfl⟩ rfl (by omega) (by omega) (by decide) rfl ((ab_u_i (by omega)).trans (ab_u_i (by omega))) ?_
        refine aw_iadd dX1_growOlder_66 ?_
        refine aw_iastv (q := s) dX1_growOlder_67 ⟨Nat.le_of_ble_eq_true rfl, Nat.le_of_ble_eq_true rfl⟩ rfl (by omega) (by omega) (by decide) rfl ?_
        refine aw_iinc (ls' := [some (ab_r 44), some (ab_i g), some (ab_i ((j : Int) + 1)), some (ab_r p)]) dX1_growOlder_68 (by decide) rfl rfl ?_
        refine aw_goto (tgt := 2) dX1_growOlder_71 rfl ?_
        subst hpF
        have hn9 := GI_step (v := I1 8 s) hG (by omega) h5 h6 hpb hW6 hx6 hg.1 hs hs4
        have e9 : (tup I1 (F 45 j)).1.toNat = s := by unfold tup; dsimp only; omega
        rw [e9, n4_lt hs4, ← he8 s] at hfo
        have ih9 := ih (j + 1) _ _ (by omega) hn9 hfo
        exact aw_le (ab_le_c (ab_le_c (ab_le_c (ab_le_n ab_le_nil)))) ih9
  refine aw_iconst dX1_growOlder_0 ?_
  refine aw_istore_n (ls' := [some (ab_r 44), some (ab_i g), some (ab_i 0), none]) dX1_growOlder_1 (by decide) rfl ?_
  exact loop L.length 0 _ I (by omega) ⟨fun _ => rfl, fun _ _ _ _ => by simp, fun _ _ _ => rfl, fun i hi => by omega, fun _ _ _ => rfl, h9⟩ rfl
