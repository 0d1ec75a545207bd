/-- the reference's list, week and next number -/
def RS (I : Nat → Nat → Int) (L : List P5) (wk nx W : Int) : Prop :=
  L.length ≤ 12 ∧ (I 89 84 = L.length ∧ I 89 86 = wk ∧ I 89 85 = nx) ∧ (∀ i, i < L.length → L[i]? = some (rt (I 89) i)) ∧ (∀ t ∈ L, PB W nx t)
def RD (I0 I : Nat → Nat → Int) (T : Nat → Nat → Int) (em : Int) : Prop :=
  (∀ w s, w < 6 → s < 4 → I 89 (60 + 4 * w + s) = I0 89 (60 + 4 * w + s) + T w s) ∧ I 89 87 = I0 89 87 + em ∧ (∀ i b, i ≠ 89 → i ≠ 91 → i ≠ 92 → I i b = I0 i b)
theorem RD.trans {I0 I1 I2 : Nat → Nat → Int} {T T' : Nat → Nat → Int} {em em' : Int} (h : RD I0 I1 T em) (h' : RD I1 I2 T' em') : RD I0 I2 (fun w s => T w s + T' w s) (em + em') := by
  refine ⟨fun w s hw hs => ?_, ?_, fun i b h1 h2 h3 => (h'.2.2 i b h1 h2 h3).trans (h.2.2 i b h1 h2 h3)⟩
  · rw [h'.1 w s hw hs, h.1 w s hw hs]; simp only []; omega
  · rw [h'.2.1, h.2.1]; omega
theorem RD.rf {I : Nat → Nat → Int} : RD I I (fun _ _ => 0) 0 := ⟨fun _ _ _ _ => by simp, by omega, fun _ _ _ _ _ => rfl⟩
theorem RS.tup {I : Nat → Nat → Int} {L : List P5} {wk nx W : Int} (h : RS I L wk nx W) : L = (List.range L.length).map (rt (I 89)) := by
  apply List.ext_getElem?
  intro i
  by_cases hi : i < L.length
  · rw [h.2.2.1 i hi, List.getElem?_map, List.getElem?_range hi]; rfl
  · rw [List.getElem?_eq_none (by omega), List.getElem?_eq_none (by simp; omega)]
theorem RS.up {I : Nat → Nat → Int} {L : List P5} {wk nx W W' : Int} (h : RS I L wk nx W) (hw : W ≤ W') : RS I L wk nx W' := ⟨h.1, h.2.1, h.2.2.1, fun t ht => (h.2.2.2 t ht).mono hw (Int.le_refl _)⟩
/-- while those who stay are moved up -/
def RC (I0 : Nat → Nat → Int) (p : Nat) (K : List P5) (I : Nat → Nat → Int) : Prop :=
  K = (List.range p).filterMap (kp I0) ∧ K.length ≤ p ∧ (∀ i, i < K.length → K[i]? = some (rt (I 89) i)) ∧ (∀ q, p ≤ q → q < 12 → rt (I 89) q = rt (I0 89) q) ∧ (∀ b, 60 ≤ b → I 89 b = I0 89 b) ∧ (∀ i b, i ≠ 89 → I i b = I0 i b)
theorem RC_off {I0 I : Nat → Nat → Int} {p : Nat} {K : List P5} (h : RC I0 p K I) (ho : ¬ I0 92 p = 0) : RC I0 (p + 1) K I := by
  obtain ⟨h1, h2, h3, h4, h5, h6⟩ := h
  refine ⟨?_, by omega, h3, fun q hq hq2 => h4 q (by omega) hq2, h5, h6⟩
  rw [List.range_succ, List.filterMap_append, ← h1]
  simp [kp, ho]
theorem rt_mv {I : Nat → Nat → Int} {p k : Nat} (hp : p < 12) (hk : k ≤ p) : rt (ab_u (ab_u (ab_u (ab_u (ab_u I 89 k (I 89 p)) 89 (12 + k) (I 89 (12 + p))) 89 (24 + k) (I 89 (24 + p))) 89 (36 + k) (I 89 (36 + p))) 89 (48 + k) (I 89 (48 + p)) 89) k = rt (I 89) p := by
  unfold rt
  rw [ab_u_j (by omega), ab_u_j (by omega), ab_u_j (by omega), ab_u_j (by omega), ab_u_s]
  rw [ab_u_j (by omega), ab_u_j (by omega), ab_u_j (by omega), ab_u_s]
  rw [ab_u_j (by omega), ab_u_j (by omega), ab_u_s]
  rw [ab_u_j (by omega), ab_u_s, ab_u_s]
theorem RC_on {I0 I : Nat → Nat → Int} {p : Nat} {K : List P5} (h : RC I0 p K I) (ho : I0 92 p = 0) (hp : p < 12) : RC I0 (p + 1) (K ++ [rt (I0 89) p]) (ab_u (ab_u (ab_u (ab_u (ab_u I 89 K.length (I 89 p)) 89 (12 + K.length) (I 89 (12 + p))) 89 (24 + K.length) (I 89 (24 + p))) 89 (36 + K.length) (I 89 (36 + p))) 89 (48 + K.length) (I 89 (48 + p))) := by
  obtain ⟨h1, h2, h3, h4, h5, h6⟩ := h
  have hne : ∀ q, q < 12 → q ≠ K.length → rt (ab_u (ab_u (ab_u (ab_u (ab_u I 89 K.length (I 89 p)) 89 (12 + K.length) (I 89 (12 + p))) 89 (24 + K.length) (I 89 (24 + p))) 89 (36 + K.length) (I 89 (36 + p))) 89 (48 + K.length) (I 89 (48 + p)) 89) q = rt (I 89) q := fun q hq hqk => by
    rw [rt_u (by omega) (by omega) (by omega) (by omega) (by omega), rt_u (by omega) (by omega) (by omega) (by omega) (by omega), rt_u (by omega) (by omega) (by omega) (by omega) (by omega), rt_u (by omega) (by omega) (by omega) (by omega) (by omega), rt_u (by omega) (by omega) (by omega) (by omega) (by omega)]
  refine ⟨?_, by simp; omega, fun i hi => ?_, fun q hq hq2 => ?_, fun b hb => ?_, fun i b hi => ?_⟩
  · rw [List.range_succ, List.filterMap_append, ← h1]
    simp [kp, ho]
  · rw [List.length_append, List.length_singleton] at hi
    by_cases hk : i = K.length
    · subst hk
      rw [rt_mv hp h2, List.getElem?_append_right (Nat.le_refl _), Nat.sub_self, h4 p (Nat.le_refl _) hp]; rfl
    · rw [hne i (by omega) hk, List.getElem?_append_left (by omega)]; exact h3 i (by omega)
  · rw [hne q hq2 (by omega)]; exact h4 q (by omega) hq2
  · rw [ab_u_j (by omega), ab_u_j (by omega), ab_u_j (by omega), ab_u_j (by omega), ab_u_j (by omega)]; exact h5 b hb
  · rw [ab_u_i hi, ab_u_i hi, ab_u_i hi, ab_u_i hi, ab_u_i hi]; exact h6 i b hi
/-- moved up: the list of those who stay -/
theorem RC.end {Ib I0 I : Nat → Nat → Int} {N : Nat} {K : List P5} {W : Int} {o : OS} (h : RC I0 N K I) (hE : RE Ib N W o I0) (hN : N ≤ 12) : RS (ab_u I 89 84 (K.length : Int)) K (Ib 89 86) o.2.2.1 (W + 1) ∧ RD Ib (ab_u I 89 84 (K.length : Int)) o.2.1 (if o.2.2.2 = true then 0 else 1) ∧ K.Perm o.1 := by
  obtain ⟨h1, h2, h3, h4, h5, h6⟩ := h
  obtain ⟨⟨e1, e2, e3, e4⟩, e5, e6, e7, e8, e9⟩ := hE
  have hp : K.Perm o.1 := by rw [h1]; exact e7.symm
  refine ⟨⟨by omega, ⟨ab_u_s, ?_, ?_⟩, fun i hi => ?_, fun t ht => e9 t (hp.mem_iff.mp ht)⟩, ⟨fun w s hw hs => ?_, ?_, fun i b q1 q2 q3 => ?_⟩, hp⟩
  · rw [ab_u_j (by decide), h5 86 (by decide), e2]
  · rw [ab_u_j (by decide), h5 85 (by decide), e4]
  · rw [rt_u (by omega) (by omega) (by omega) (by omega) (by omega)]; exact h3 i hi
  · rw [ab_u_j (by omega), h5 _ (by omega), e5 w s hw hs]
  · rw [ab_u_j (by decide), h5 87 (by decide), e3]
  · rw [ab_u_i q1, h6 i b q1, e6 i b q1 q2 q3]
theorem RS_add {I : Nat → Nat → Int} {L : List P5} {wk nx W : Int} {s : Nat} (h : RS I L wk nx W) (hL : L.length < 12) (hs : s < 4) (hnx : 0 ≤ nx) (hW : 0 ≤ W) :
    RS (ab_u (ab_u (ab_u (ab_u (ab_u (ab_u (ab_u I 89 L.length (s : Int)) 89 (12 + L.length) (I 89 85)) 89 (24 + L.length) 0) 89 (36 + L.length) 0) 89 (48 + L.length) 0) 89 85 (I 89 85 + 1)) 89 84 ((L.length : Int) + 1)) (L ++ [((s : Int), nx, 0, 0, 0)]) wk (nx + 1) W ∧
    RD I (ab_u (ab_u (ab_u (ab_u (ab_u (ab_u (ab_u I 89 L.length (s : Int)) 89 (12 + L.length) (I 89 85)) 89 (24 + L.length) 0) 89 (36 + L.length) 0) 89 (48 + L.length) 0) 89 85 (I 89 85 + 1)) 89 84 ((L.length : Int) + 1)) (fun _ _ => 0) 0 := by
  obtain ⟨h1, ⟨h2, h3, h4⟩, h5, h6⟩ := h
  have hk : ∀ i, i < 12 → i ≠ L.length → rt (ab_u (ab_u (ab_u (ab_u (ab_u (ab_u (ab_u I 89 L.length (s : Int)) 89 (12 + L.length) (I 89 85)) 89 (24 + L.length) 0) 89 (36 + L.length) 0) 89 (48 + L.length) 0) 89 85 (I 89 85 + 1)) 89 84 ((L.length : Int) + 1) 89) i = rt (I 89) i := fun i hi hi2 => by
    rw [rt_u (by omega) (by omega) (by omega) (by omega) (by omega), rt_u (by omega) (by omega) (by omega) (by omega) (by omega), rt_u (by omega) (by omega) (by omega) (by omega) (by omega), rt_u (by omega) (by omega) (by omega) (by omega) (by omega), rt_u (by omega) (by omega) (by omega) (by omega) (by omega), rt_u (by omega) (by omega) (by omega) (by omega) (by omega), rt_u (by omega) (by omega) (by omega) (by omega) (by omega)]
  have hn : rt (ab_u (ab_u (ab_u (ab_u (ab_u (ab_u (ab_u I 89 L.length (s : Int)) 89 (12 + L.length) (I 89 85)) 89 (24 + L.length) 0) 89 (36 + L.length) 0) 89 (48 + L.length) 0) 89 85 (I 89 85 + 1)) 89 84 ((L.length : Int) + 1) 89) L.length = ((s : Int), I 89 85, 0, 0, 0) := by
    rw [rt_u (by omega) (by omega) (by omega) (by omega) (by omega), rt_u (by omega) (by omega) (by omega) (by omega) (by omega)]
    unfold rt
    rw [ab_u_j (by omega), ab_u_j (by omega), ab_u_j (by omega), ab_u_j (by omega), ab_u_s]
    rw [ab_u_j (by omega), ab_u_j (by omega), ab_u_j (by omega), ab_u_s]
    rw [ab_u_j (by omega), ab_u_j (by omega), ab_u_s]
    rw [ab_u_j (by omega), ab_u_s, ab_u_s]
  have h60 : ∀ b, 60 ≤ b → b ≠ 84 → b ≠ 85 → ab_u (ab_u (ab_u (ab_u (ab_u (ab_u (ab_u I 89 L.length (s : Int)) 89 (12 + L.length) (I 89 85)) 89 (24 + L.length) 0) 89 (36 + L.length) 0) 89 (48 + L.length) 0) 89 85 (I 89 85 + 1)) 89 84 ((L.length : Int) + 1) 89 b = I 89 b := fun b hb q1 q2 => by
    rw [ab_u_j q1, ab_u_j q2, ab_u_j (by omega), ab_u_j (by omega), ab_u_j (by omega), ab_u_j (by omega), ab_u_j (by omega)]
  refine ⟨⟨by simp; omega, ⟨by rw [ab_u_s]; simp, by rw [h60 86 (by decide) (by decide) (by decide)]; exact h3, by rw [ab_u_j (by decide), ab_u_s, h4]⟩, fun i hi => ?_, fun t ht => ?_⟩, fun w x hw hx => ?_, ?_, fun i b q1 q2 q3 => ?_⟩
  · rw [List.length_append, List.length_singleton] at hi
    by_cases e : i = L.length
    · rw [e, hn, List.getElem?_append_right (Nat.le_refl _), Nat.sub_self, h4]; rfl
    · rw [hk i (by omega) e, List.getElem?_append_left (by omega)]; exact h5 i (by omega)
  · rcases List.mem_append.mp ht with e | e
    · exact (h6 t e).mono (Int.le_refl _) (by omega)
    · rw [List.mem_singleton.mp e]; unfold PB; dsimp only; omega
  · rw [h60 _ (by omega) (by omega) (by omega)]; simp
  · rw [h60 87 (by decide) (by decide) (by decide)]; omega
  · rw [ab_u_i q1, ab_u_i q1, ab_u_i q1, ab_u_i q1, ab_u_i q1, ab_u_i q1, ab_u_i q1]
theorem RS_away {I : Nat → Nat → Int} {L : List P5} {wk nx W : Int} {s : Nat} (h : RS I L wk nx W) (hs : s < 4) :
    RS (ab_u I 89 (76 + s) (I 89 (76 + s) + 1)) L wk nx W ∧ RD I (ab_u I 89 (76 + s) (I 89 (76 + s) + 1)) (ta (fun _ _ => 0) 4 s 1) 0 := by
  obtain ⟨h1, ⟨h2, h3, h4⟩, h5, h6⟩ := h
  refine ⟨⟨h1, ⟨by rw [ab_u_j (by omega)]; exact h2, by rw [ab_u_j (by omega)]; exact h3, by rw [ab_u_j (by omega)]; exact h4⟩, fun i hi => ?_, h6⟩, fun w x hw hx => ?_, ?_, fun i b q1 q2 q3 => ?_⟩
  · rw [rt_u (by omega) (by omega) (by omega) (by omega) (by omega)]; exact h5 i hi
  · rw [ta_add]
    by_cases hw4 : w = 4 ∧ x = s
    · obtain ⟨rfl, rfl⟩ := hw4
      rw [show 60 + 4 * 4 + x = 76 + x by omega, ab_u_s]; simp
    · rw [ab_u_j (by omega), if_neg hw4]; simp
  · rw [ab_u_j (by omega)]; omega
  · rw [ab_u_i q1]
/-- while they grow older -/
def GR (I0 : Nat → Nat → Int) (g : Int) (j : Nat) (T : Nat → Nat → Int) (I : Nat → Nat → Int) : Prop :=
  (∀ b, 84 ≤ b → I 89 b = I0 89 b) ∧ (∀ w s, w < 6 → s < 4 → I 89 (60 + 4 * w + s) = I0 89 (60 + 4 * w + s) + T w s) ∧ (∀ i b, i ≠ 89 → I i b = I0 i b) ∧
  (∀ i, i < j → i < 12 → rt (I 89) i = gr g (rt (I0 89) i)) ∧ (∀ i, j ≤ i → i < 12 → rt (I 89) i = rt (I0 89) i)
theorem GR_step {I0 I : Nat → Nat → Int} {g v x : Int} {j s : Nat} {T : Nat → Nat → Int} (h : GR I0 g j T I) (hj : j < 12) (hs : I 89 j = (s : Int)) (hs4 : s < 4) (hx : x = if 99 < I 89 (24 + j) + g then 99 else I 89 (24 + j) + g) :
    GR I0 g (j + 1) (ta T 5 s v) (ab_u (ab_u (ab_u I 89 (48 + j) (I 89 (48 + j) + 1)) 89 (24 + j) x) 89 (80 + s) (I 89 (80 + s) + v)) := by
  obtain ⟨g1, g2, g3, g4, g5⟩ := h
  have ht : ∀ q, q < 12 → q ≠ j → rt (ab_u (ab_u (ab_u I 89 (48 + j) (I 89 (48 + j) + 1)) 89 (24 + j) x) 89 (80 + s) (I 89 (80 + s) + v) 89) q = rt (I 89) q := fun q hq hqj => by
    rw [rt_u (by omega) (by omega) (by omega) (by omega) (by omega), rt_u (by omega) (by omega) (by omega) (by omega) (by omega), rt_u (by omega) (by omega) (by omega) (by omega) (by omega)]
  have ht2 : rt (ab_u (ab_u (ab_u I 89 (48 + j) (I 89 (48 + j) + 1)) 89 (24 + j) x) 89 (80 + s) (I 89 (80 + s) + v) 89) j = gr g (rt (I 89) j) := by
    rw [rt_u (by omega) (by omega) (by omega) (by omega) (by omega)]
    unfold rt gr
    rw [ab_u_j (by omega), ab_u_j (by omega), ab_u_j (by omega), ab_u_j (by omega), ab_u_s, ab_u_j (by omega), ab_u_j (by omega), ab_u_j (by omega), ab_u_s, hx]
  refine ⟨fun b hb => ?_, fun w y hw hy => ?_, fun i b hi => ?_, fun i hi hi2 => ?_, fun i hi hi2 => ?_⟩
  · rw [ab_u_j (by omega), ab_u_j (by omega), ab_u_j (by omega)]; exact g1 b hb
  · rw [ta_add]
    by_cases hw5 : w = 5 ∧ y = s
    · obtain ⟨rfl, rfl⟩ := hw5
      have := g2 5 y (by omega) hy
      rw [show 60 + 4 * 5 + y = 80 + y by omega] at *
      rw [ab_u_s, this]; simp; omega
    · rw [ab_u_j (by omega), ab_u_j (by omega), ab_u_j (by omega), g2 w y hw hy, if_neg hw5]; simp
  · rw [ab_u_i hi, ab_u_i hi, ab_u_i hi]; exact g3 i b hi
  · by_cases hij : i = j
    · subst hij; rw [ht2, g5 i (Nat.le_refl _) hj]
    · rw [ht i hi2 hij]; exact g4 i (by omega) hi2
  · rw [ht i hi2 (by omega)]; exact g5 i (by omega) hi2
theorem GR_end {I0 I : Nat → Nat → Int} {L : List P5} {W wk nx g : Int} {T : Nat → Nat → Int} (h : GR I0 g L.length T I) (hC : RS I0 L wk nx W) (hg : 0 ≤ g) : RS (ab_u I 89 86 (I 89 86 + 1)) (L.map (gr g)) (wk + 1) nx (W + 1) ∧ RD I0 (ab_u I 89 86 (I 89 86 + 1)) T 0 := by
  obtain ⟨g1, g2, g3, g4, g5⟩ := h
  obtain ⟨h1, ⟨h2, h3, h4⟩, h5, h6⟩ := hC
  refine ⟨⟨by simpa using h1, ⟨by rw [ab_u_j (by decide), g1 84 (by decide), List.length_map]; exact h2, by rw [ab_u_s, g1 86 (by decide), h3], by rw [ab_u_j (by decide), g1 85 (by decide)]; exact h4⟩, fun i hi => ?_, fun t ht => ?_⟩, fun w s hw hs => ?_, ?_, fun i b q1 q2 q3 => ?_⟩
  · rw [List.length_map] at hi
    rw [rt_u (by omega) (by omega) (by omega) (by omega) (by omega), List.getElem?_map, h5 i hi, g4 i hi (by omega)]; rfl
  · obtain ⟨u, hu, rfl⟩ := List.mem_map.mp ht
    have := h6 u hu
    unfold PB gr at *; dsimp only at *
    split <;> omega
  · rw [ab_u_j (by omega)]; exact g2 w s hw hs
  · rw [ab_u_j (by decide), g1 87 (by decide)]; omega
  · rw [ab_u_i q1]; exact g3 i b q1
theorem ta_comm (T : Nat → Nat → Int) (w s w' s' : Nat) (v v' : Int) : ta (ta T w s v) w' s' v' = ta (ta T w' s' v') w s v := by
  funext a b; rw [ta_add, ta_add, ta_add, ta_add]; omega
theorem grT_perm {nd : Nat → Int} {L M : List P5} (h : L.Perm M) : grT nd L = grT nd M := by
  unfold grT
  exact h.foldl_eq' (fun x _ y _ z => ta_comm _ _ _ _ _ _ _) _
theorem arL_perm {L M : List P5} (h : L.Perm M) (nx : Int) (s : Nat) : (arL L nx s).Perm (arL M nx s) := by
  unfold arL; rw [h.length_eq]; split
  · exact h
  · exact h.append_right _
theorem arN_perm {L M : List P5} (h : L.Perm M) (nx : Int) : arN L nx = arN M nx := by unfold arN; rw [h.length_eq]
theorem arT_perm {L M : List P5} (h : L.Perm M) (s : Nat) : arT L s = arT M s := by unfold arT; rw [h.length_eq]
theorem ofS_perm {ru : Ru} {tn : Tn} {kd : Int} {L M : List P5} {nx : Int} (h : L.Perm M) (hn : Nm L) : (ofS ru tn kd L nx).1.Perm (ofS ru tn kd M nx).1 ∧ (ofS ru tn kd L nx).2 = (ofS ru tn kd M nx).2 := by
  unfold ofS
  split
  · exact ⟨h, rfl⟩
  · rw [srt_congr h hn]; exact ⟨List.Perm.refl _, rfl⟩
/-- behind the offer: from lists that are alike up to their order -/
theorem wk_tail {tn : Tn} {js g : Int} {K M : List P5} (h : K.Perm M) (nx : Int) : ((if js = -1 then K else arL K nx js.toNat).map (gr g)).Perm ((if js = -1 then M else arL M nx js.toNat).map (gr g)) ∧ (if js = -1 then nx else arN K nx) = (if js = -1 then nx else arN M nx) ∧
    (∀ w s, (if js = -1 then 0 else arT K js.toNat w s) = (if js = -1 then 0 else arT M js.toNat w s)) ∧ grT tn.1 (if js = -1 then K else arL K nx js.toNat) = grT tn.1 (if js = -1 then M else arL M nx js.toNat) := by
  by_cases hj : js = -1
  · simp only [hj, if_true]
    exact ⟨h.map _, trivial, fun _ _ => trivial, grT_perm h⟩
  · simp only [hj, if_false]
    exact ⟨(arL_perm h nx _).map _, arN_perm h nx, fun w s => by rw [arT_perm h], grT_perm (arL_perm h nx _)⟩
theorem wkS_perm {ru : Ru} {tn : Tn} {kd js : Int} {L M : List P5} {nx : Int} (h : L.Perm M) (hn : Nm L) : (wkS ru tn kd js L nx).1.Perm (wkS ru tn kd js M nx).1 ∧ (wkS ru tn kd js L nx).2 = (wkS ru tn kd js M nx).2 := by
  obtain ⟨h1, h2⟩ := ofS_perm (ru := ru) (tn := tn) (kd := kd) (nx := nx) h hn
  unfold wkS
  dsimp only
  rw [h2]
  obtain ⟨t1, t2, t3, t4⟩ := wk_tail (tn := tn) (js := js) (g := ru.2.2.2.1) h1 (ofS ru tn kd M nx).2.2.1
  refine ⟨t1, ?_⟩
  rw [t2, t4]
  refine Prod.ext rfl (Prod.ext ?_ rfl)
  funext w s
  dsimp only
  rw [t3]
theorem wkN_perm {ru : Ru} {tn : Tn} {kd js : Int → Int} : ∀ (n : Nat) {wk : Int} {L M : List P5} {nx : Int}, L.Perm M → Nq L nx → (wkN ru tn kd js n wk L nx).1.Perm (wkN ru tn kd js n wk M nx).1 ∧ (wkN ru tn kd js n wk L nx).2 = (wkN ru tn kd js n wk M nx).2
  | 0, _, L, M, nx, h, _ => ⟨h, rfl⟩
  | n + 1, wk, L, M, nx, h, hn => by
    obtain ⟨h1, h2⟩ := wkS_perm (ru := ru) (tn := tn) (kd := kd wk) (js := js wk) (nx := nx) h hn.nm
    have hq := (wkS_nq (ru := ru) (tn := tn) (kd := kd wk) (js := js wk) hn).1
    obtain ⟨h3, h4⟩ := wkN_perm (ru := ru) (tn := tn) (kd := kd) (js := js) n (wk := wk + 1) h1 hq
    simp only [wkN]
    rw [← h2, h4]
    exact ⟨h3, rfl⟩
