/-- what the reference's rules and town may be -/
def RBM (I : Nat → Nat → Int) : Prop := (0 ≤ I 95 0 ∧ I 95 0 ≤ 2) ∧ (0 ≤ I 95 1 ∧ I 95 1 ≤ 9) ∧ (0 ≤ I 95 2 ∧ I 95 2 ≤ 2) ∧ (0 ≤ I 95 3 ∧ I 95 3 ≤ 9) ∧ ∀ s, s < 4 → (0 ≤ I 95 (4 + 3 * s) ∧ I 95 (4 + 3 * s) ≤ 2) ∧ (0 ≤ I 95 (5 + 3 * s) ∧ I 95 (5 + 3 * s) ≤ 99) ∧ (0 ≤ I 95 (6 + 3 * s) ∧ I 95 (6 + 3 * s) ≤ 9)
def TBM (I : Nat → Nat → Int) : Prop := (∀ s, s < 4 → 1 ≤ I 86 s ∧ I 86 s ≤ 9) ∧ (∀ s k, s < 4 → k < 4 → 0 ≤ I 85 (4 * s + k) ∧ I 85 (4 * s + k) ≤ 99) ∧ (0 ≤ I 84 2 ∧ I 84 2 ≤ 24) ∧ (∀ j, j < 24 → -1 ≤ I 87 j ∧ I 87 j ≤ 3) ∧ (0 ≤ I 84 4 ∧ I 84 4 ≤ 24) ∧ (∀ j, j < 24 → -1 ≤ I 88 j ∧ I 88 j ≤ 3)
theorem eqM {I J : Nat → Nat → Int} (he : ∀ i b, i ≠ 89 → i ≠ 91 → i ≠ 92 → J i b = I i b) (i : Nat) (h : i ≠ 89 ∧ i ≠ 91 ∧ i ≠ 92) : J i = I i := funext fun b => he i b h.1 h.2.1 h.2.2
theorem RBM.of {I J : Nat → Nat → Int} (h : RBM I) (he : J 95 = I 95) : RBM J := by unfold RBM at *; rw [he]; exact h
theorem TBM.of {I J : Nat → Nat → Int} (h : TBM I) (he : ∀ i b, i ≠ 89 → i ≠ 91 → i ≠ 92 → J i b = I i b) : TBM J := by
  unfold TBM at *
  rw [eqM he 84 (by decide), eqM he 85 (by decide), eqM he 86 (by decide), eqM he 87 (by decide), eqM he 88 (by decide)]; exact h
theorem ruM_congr {I J : Nat → Nat → Int} (he : J 95 = I 95) : ruM J = ruM I := by unfold ruM; rw [he]
theorem tnM_congr {I J : Nat → Nat → Int} (he : ∀ i b, i ≠ 89 → i ≠ 91 → i ≠ 92 → J i b = I i b) : tnM J = tnM I := by
  unfold tnM; rw [eqM he 85 (by decide), eqM he 86 (by decide)]
def kdM (I : Nat → Nat → Int) (f it : Nat) (wk : Int) : Int := if I 84 f = 0 then -1 else I it (wk % I 84 f).toNat
theorem kdM_bd {I : Nat → Nat → Int} (hT : TBM I) {wk : Int} : (-1 ≤ kdM I 2 87 wk ∧ kdM I 2 87 wk ≤ 3) ∧ (-1 ≤ kdM I 4 88 wk ∧ kdM I 4 88 wk ≤ 3) := by
  unfold kdM
  refine ⟨?_, ?_⟩
  · split
    · omega
    · rename_i h
      have h1 := hT.2.2.1
      have h2 := Int.emod_lt_of_pos wk (show 0 < I 84 2 by omega)
      have h3 := Int.emod_nonneg wk (show I 84 2 ≠ 0 by omega)
      exact hT.2.2.2.1 _ (by omega)
  · split
    · omega
    · rename_i h
      have h1 := hT.2.2.2.2.1
      have h2 := Int.emod_lt_of_pos wk (show 0 < I 84 4 by omega)
      have h3 := Int.emod_nonneg wk (show I 84 4 ≠ 0 by omega)
      exact hT.2.2.2.2.2 _ (by omega)
theorem kdM_congr {I J : Nat → Nat → Int} (he : ∀ i b, i ≠ 89 → i ≠ 91 → i ≠ 92 → J i b = I i b) {f it : Nat} (h : it ≠ 89 ∧ it ≠ 91 ∧ it ≠ 92) (wk : Int) : kdM J f it wk = kdM I f it wk := by
  unfold kdM; rw [eqM he 84 (by decide), eqM he it h]
theorem rt_u {I : Nat → Nat → Int} {k q : Nat} {v : Int} (h0 : q ≠ k) (h1 : 12 + q ≠ k) (h2 : 24 + q ≠ k) (h3 : 36 + q ≠ k) (h4 : 48 + q ≠ k) : rt (ab_u I 89 k v 89) q = rt (I 89) q := by
  unfold rt; rw [ab_u_j h0, ab_u_j h1, ab_u_j h2, ab_u_j h3, ab_u_j h4]
theorem rt_ui {I : Nat → Nat → Int} {i k q : Nat} {v : Int} (h : 89 ≠ i) : rt (ab_u I i k v 89) q = rt (I 89) q := by
  unfold rt; rw [ab_u_i h, ab_u_i h, ab_u_i h, ab_u_i h, ab_u_i h]
theorem fm_congr {α β : Type} {f g : α → Option β} : ∀ {l : List α}, (∀ x ∈ l, f x = g x) → l.filterMap f = l.filterMap g
  | [], _ => rfl
  | a :: l, h => by
    rw [List.filterMap_cons, List.filterMap_cons, h a List.mem_cons_self, fm_congr (fun x hx => h x (List.mem_cons_of_mem _ hx))]
def kp (I : Nat → Nat → Int) (p : Nat) : Option P5 := if I 92 p = 0 then some (rt (I 89) p) else none
/-- the reference while a house is offered -/
def RO (I0 : Nat → Nat → Int) (ord : Nat → Nat) (N : Nat) (W : Int) (j : Nat) (o : OS) (I : Nat → Nat → Int) : Prop :=
  (I 89 84 = N ∧ I 89 86 = I0 89 86 ∧ I 89 87 = I0 89 87 ∧ I 89 85 = o.2.2.1) ∧ (∀ w s, w < 6 → s < 4 → I 89 (60 + 4 * w + s) = I0 89 (60 + 4 * w + s) + o.2.1 w s) ∧
  (∀ i b, i ≠ 89 → i ≠ 92 → I i b = I0 i b) ∧ (o.1 = ((List.range j).map ord).filterMap (kp I)) ∧
  (∀ q, j ≤ q → q < N → rt (I 89) (ord q) = rt (I0 89) (ord q) ∧ I 92 (ord q) = 0) ∧ (∀ p, p < 12 → I 92 p = 0 ∨ I 92 p = 1) ∧ (∀ t ∈ o.1, PB (W + 1) o.2.2.1 t)
def RT (p : Nat) (lv : Int) (I I' : Nat → Nat → Int) (δ : Nat → Nat → Int) (nx' : Int) : Prop :=
  (I' 89 84 = I 89 84 ∧ I' 89 86 = I 89 86 ∧ I' 89 87 = I 89 87 ∧ I' 89 85 = nx') ∧ (∀ w s, w < 6 → s < 4 → I' 89 (60 + 4 * w + s) = I 89 (60 + 4 * w + s) + δ w s) ∧
  (∀ i b, i ≠ 89 → i ≠ 92 → I' i b = I i b) ∧ (∀ q, q < 12 → q ≠ p → rt (I' 89) q = rt (I 89) q ∧ I' 92 q = I 92 q) ∧ I' 92 p = lv ∧ I 89 85 ≤ nx'
theorem RO_turn {I0 I I' : Nat → Nat → Int} {ord : Nat → Nat} {N j : Nat} {W lv nx' : Int} {o : OS} {δ T' : Nat → Nat → Int} {tk : Bool} (h : RO I0 ord N W j o I) (hj : j < N) (hN : N ≤ 12) (hinj : ∀ a b, a < N → b < N → ord a = ord b → a = b) (hlt : ∀ a, a < N → ord a < N)
    (ht : RT (ord j) lv I I' δ nx') (hlv : lv = 0 ∨ lv = 1) (hT : ∀ w s, w < 6 → s < 4 → T' w s = o.2.1 w s + δ w s) (hpb : lv = 0 → PB (W + 1) nx' (rt (I' 89) (ord j))) :
    RO I0 ord N W (j + 1) (o.1 ++ (if lv = 0 then [rt (I' 89) (ord j)] else []), T', nx', tk) I' := by
  obtain ⟨⟨h1, h2, h3, h4⟩, h5, h6, h7, h8, h9, h10⟩ := h
  obtain ⟨⟨t1, t2, t3, t4⟩, t5, t6, t7, t8, t9⟩ := ht
  have hne : ∀ q, q < N → q ≠ j → ord q ≠ ord j := fun q hq hqj e => hqj (hinj q j hq hj e)
  refine ⟨⟨t1.trans h1, t2.trans h2, t3.trans h3, t4⟩, fun w s hw hs => ?_, fun i b hi hi2 => (t6 i b hi hi2).trans (h6 i b hi hi2), ?_, fun q hq hq2 => ?_, fun p hp => ?_, fun t ht => ?_⟩
  · show _ = _ + T' w s
    rw [t5 w s hw hs, h5 w s hw hs, hT w s hw hs]; omega
  · show o.1 ++ _ = _
    rw [List.range_succ, List.map_append, List.filterMap_append, h7]
    congr 1
    · apply fm_congr
      intro x hx
      obtain ⟨q, hq, rfl⟩ := List.mem_map.mp hx
      have hq := List.mem_range.mp hq
      have := t7 (ord q) (by have := hlt q (by omega); omega) (hne q (by omega) (by omega))
      unfold kp; rw [this.1, this.2]
    · simp only [List.map_cons, List.map_nil, List.filterMap_cons, List.filterMap_nil]
      unfold kp
      rw [t8]
      rcases hlv with e | e
      · rw [if_pos e, if_pos e]
      · rw [if_neg (by omega), if_neg (by omega)]
  · have := t7 (ord q) (by have := hlt q (by omega); omega) (hne q (by omega) (by omega))
    rw [this.1, this.2]
    exact h8 q (by omega) hq2
  · by_cases hp2 : p = ord j
    · rw [hp2, t8]; exact hlv
    · rw [(t7 p hp hp2).2]; exact h9 p hp
  · rcases List.mem_append.mp ht with e | e
    · exact (h10 t e).mono (Int.le_refl _) (by rw [← h4]; exact t9)
    · by_cases hl : lv = 0
      · rw [if_pos hl] at e
        rw [List.mem_singleton.mp e]; exact hpb hl
      · rw [if_neg hl] at e; simp at e
theorem of_taken {ru : Ru} {tn : Tn} {k : Nat} : ∀ (M : List P5) (o : OS), o.2.2.2 = true → M.foldl (of_step ru tn k) o = (o.1 ++ M, o.2.1, o.2.2.1, true)
  | [], o, h => by
    obtain ⟨a, b, c, d⟩ := o
    simp only [] at h
    simp [h]
  | t :: M, o, h => by
    rw [List.foldl_cons, of_taken M _ (by unfold of_step; rw [if_pos h])]
    unfold of_step; rw [if_pos h]; simp
/-- behind an offer of the reference -/
def RE (I0 : Nat → Nat → Int) (N : Nat) (W : Int) (o : OS) (I : Nat → Nat → Int) : Prop :=
  (I 89 84 = N ∧ I 89 86 = I0 89 86 ∧ I 89 87 = I0 89 87 + (if o.2.2.2 = true then 0 else 1) ∧ I 89 85 = o.2.2.1) ∧ (∀ w s, w < 6 → s < 4 → I 89 (60 + 4 * w + s) = I0 89 (60 + 4 * w + s) + o.2.1 w s) ∧
  (∀ i b, i ≠ 89 → i ≠ 91 → i ≠ 92 → I i b = I0 i b) ∧ (o.1.Perm ((List.range N).filterMap (kp I))) ∧ (∀ p, p < 12 → I 92 p = 0 ∨ I 92 p = 1) ∧ (∀ t ∈ o.1, PB (W + 1) o.2.2.1 t)
theorem RO.end {I0 I I' Ib : Nat → Nat → Int} {ord : Nat → Nat} {N j : Nat} {W : Int} {o fin : OS} {ru : Ru} {tn : Tn} {k : Nat} (h : RO I0 ord N W j o I) (hj : j ≤ N) (hN : N ≤ 12) (hperm : ((List.range N).map ord).Perm (List.range N)) (hend : o.2.2.2 = true ∨ j = N)
    (hf : ((((List.range N).map (fun q => rt (I0 89) (ord q))).drop j).foldl (of_step ru tn k) o) = fin) (hI' : I' = ab_u I 89 87 (I 89 87 + (if o.2.2.2 = true then 0 else 1))) (hpb : ∀ q, q < N → PB W (I0 89 85) (rt (I0 89) (ord q))) (hnx : I0 89 85 ≤ o.2.2.1)
    (hb : ∀ i b, i ≠ 91 → I0 i b = Ib i b) : RE Ib N W fin I' := by
  obtain ⟨⟨h1, h2, h3, h4⟩, h5, h6, h7, h8, h9, h10⟩ := h
  have hfin : fin.1 = ((List.range N).map ord).filterMap (kp I) ∧ fin.2 = o.2 ∧ (∀ t ∈ fin.1, PB (W + 1) o.2.2.1 t) := by
    rcases hend with ht | ht
    · rw [of_taken _ _ ht] at hf
      subst hf
      have hm : (((List.range N).map (fun q => rt (I0 89) (ord q))).drop j) = (((List.range N).drop j).map ord).filterMap (kp I) := by
        rw [← List.map_drop, List.filterMap_map, ← List.filterMap_eq_map]
        apply fm_congr
        intro q hq
        have hq1 : j ≤ q ∧ q < N := by
          obtain ⟨i, hi⟩ := List.getElem?_of_mem hq
          rw [List.getElem?_drop] at hi
          have := (List.getElem?_eq_some_iff.mp hi)
          obtain ⟨hl, e⟩ := this
          rw [List.getElem_range] at e
          rw [List.length_range] at hl
          omega
        have := h8 q hq1.1 hq1.2
        simp [kp, this.1, this.2]
      refine ⟨?_, ?_, fun t ht2 => ?_⟩
      · show o.1 ++ _ = _
        rw [hm, h7, ← List.filterMap_append, ← List.map_append]
        congr 2
        have : List.range j = (List.range N).take j := by rw [List.take_range, Nat.min_eq_left hj]
        rw [this, List.take_append_drop]
      · show (o.2.1, o.2.2.1, true) = o.2
        rw [← ht]
      · rcases List.mem_append.mp ht2 with e | e
        · exact h10 t e
        · have e2 := List.mem_of_mem_drop e
          obtain ⟨q, hq, rfl⟩ := List.mem_map.mp e2
          exact (hpb q (List.mem_range.mp hq)).mono (by omega) hnx
    · subst ht
      rw [List.drop_of_length_le (by simp)] at hf
      have hf : o = fin := hf
      subst hf
      exact ⟨h7, rfl, h10⟩
  obtain ⟨f1, f2, f3⟩ := hfin
  have e92 : I' 92 = I 92 := by rw [hI']; funext b; exact ab_u_i (by decide)
  have e89 : ∀ q, q < 12 → rt (I' 89) q = rt (I 89) q := fun q hq => by rw [hI']; exact rt_u (by omega) (by omega) (by omega) (by omega) (by omega)
  refine ⟨⟨?_, ?_, ?_, ?_⟩, fun w s hw hs => ?_, fun i b hi hi2 hi3 => ?_, ?_, ?_, ?_⟩
  · rw [hI', ab_u_j (by decide)]; exact h1
  · rw [hI', ab_u_j (by decide), h2, hb 89 86 (by decide)]
  · rw [hI', ab_u_s, h3, f2, hb 89 87 (by decide)]
  · rw [hI', ab_u_j (by decide), h4, f2]
  · rw [hI', ab_u_j (by omega), h5 w s hw hs, f2, hb _ _ (by decide)]
  · rw [hI', ab_u_i hi, h6 i b hi hi3, hb i b hi2]
  · have : (List.range N).filterMap (kp I') = (List.range N).filterMap (kp I) := by
      apply fm_congr
      intro q hq
      unfold kp; rw [e92, e89 q (by have := List.mem_range.mp hq; omega)]
    rw [this, f1]
    exact hperm.filterMap _
  · rw [e92]; exact h9
  · rw [f2]; exact f3
section RTs
variable {I : Nat → Nat → Int} {p s : Nat}
theorem RT_house (hp : p < 12) (hs : s < 4) (b d : Int) : RT p 1 I (ab_u (ab_u (ab_u (ab_u I 92 p 1) 89 (60 + s) (I 89 (60 + s) + 1)) 89 (64 + s) (I 89 (64 + s) + b)) 89 (68 + s) (I 89 (68 + s) + d)) (fun w x => if x = s then (if w = 0 then 1 else if w = 1 then b else if w = 2 then d else 0) else 0) (I 89 85) := by
  refine ⟨⟨?_, ?_, ?_, ?_⟩, fun w x hw hx => ?_, fun i b h1 h2 => ?_, fun q hq hqp => ⟨?_, ?_⟩, ?_, Int.le_refl _⟩
  · rw [ab_u_j (by omega), ab_u_j (by omega), ab_u_j (by omega), ab_u_i (by omega)]
  · rw [ab_u_j (by omega), ab_u_j (by omega), ab_u_j (by omega), ab_u_i (by omega)]
  · rw [ab_u_j (by omega), ab_u_j (by omega), ab_u_j (by omega), ab_u_i (by omega)]
  · rw [ab_u_j (by omega), ab_u_j (by omega), ab_u_j (by omega), ab_u_i (by omega)]
  · by_cases hxs : x = s
    · subst hxs
      match w, hw with
      | 0, _ => rw [ab_u_j (by omega), ab_u_j (by omega), show 60 + 4 * 0 + x = 60 + x by omega, ab_u_s]; simp
      | 1, _ => rw [ab_u_j (by omega), show 60 + 4 * 1 + x = 64 + x by omega, ab_u_s]; simp
      | 2, _ => rw [show 60 + 4 * 2 + x = 68 + x by omega, ab_u_s]; simp
      | 3, _ => rw [ab_u_j (by omega), ab_u_j (by omega), ab_u_j (by omega), ab_u_i (by omega)]; simp
      | 4, _ => rw [ab_u_j (by omega), ab_u_j (by omega), ab_u_j (by omega), ab_u_i (by omega)]; simp
      | 5, _ => rw [ab_u_j (by omega), ab_u_j (by omega), ab_u_j (by omega), ab_u_i (by omega)]; simp
    · rw [ab_u_j (by omega), ab_u_j (by omega), ab_u_j (by omega), ab_u_i (by omega)]; simp [hxs]
  · rw [ab_u_i h1, ab_u_i h1, ab_u_i h1, ab_u_i h2]
  · rw [rt_u (by omega) (by omega) (by omega) (by omega) (by omega), rt_u (by omega) (by omega) (by omega) (by omega) (by omega), rt_u (by omega) (by omega) (by omega) (by omega) (by omega), rt_ui (by decide)]
  · rw [ab_u_i (by decide), ab_u_i (by decide), ab_u_i (by decide), ab_u_j hqp]
  · rw [ab_u_i (by decide), ab_u_i (by decide), ab_u_i (by decide), ab_u_s]
theorem RT_no (hp : p < 12) (h9 : I 92 p = 0) (v : Int) : RT p 0 I (ab_u I 89 (36 + p) v) (fun _ _ => 0) (I 89 85) := by
  refine ⟨⟨?_, ?_, ?_, ?_⟩, fun w x hw hx => ?_, fun i b h1 h2 => ?_, fun q hq hqp => ⟨?_, ?_⟩, ?_, Int.le_refl _⟩
  · rw [ab_u_j (by omega)]
  · rw [ab_u_j (by omega)]
  · rw [ab_u_j (by omega)]
  · rw [ab_u_j (by omega)]
  · rw [ab_u_j (by omega)]; simp
  · rw [ab_u_i h1]
  · rw [rt_u (by omega) (by omega) (by omega) (by omega) (by omega)]
  · rw [ab_u_i (by decide)]
  · rw [ab_u_i (by decide)]; exact h9
theorem RT_gone (hp : p < 12) (hs : s < 4) (v : Int) : RT p 1 I (ab_u (ab_u (ab_u I 89 (36 + p) v) 92 p 1) 89 (72 + s) (I 89 (72 + s) + 1)) (fun w x => if w = 3 ∧ x = s then 1 else 0) (I 89 85) := by
  refine ⟨⟨?_, ?_, ?_, ?_⟩, fun w x hw hx => ?_, fun i b h1 h2 => ?_, fun q hq hqp => ⟨?_, ?_⟩, ?_, Int.le_refl _⟩
  · rw [ab_u_j (by omega), ab_u_i (by omega), ab_u_j (by omega)]
  · rw [ab_u_j (by omega), ab_u_i (by omega), ab_u_j (by omega)]
  · rw [ab_u_j (by omega), ab_u_i (by omega), ab_u_j (by omega)]
  · rw [ab_u_j (by omega), ab_u_i (by omega), ab_u_j (by omega)]
  · by_cases hw3 : w = 3 ∧ x = s
    · obtain ⟨rfl, rfl⟩ := hw3
      rw [show 60 + 4 * 3 + x = 72 + x by omega, ab_u_s]; simp
    · rw [ab_u_j (by omega), ab_u_i (by omega), ab_u_j (by omega)]; simp [hw3]
  · rw [ab_u_i h1, ab_u_i h2, ab_u_i h1]
  · rw [rt_u (by omega) (by omega) (by omega) (by omega) (by omega), rt_ui (by decide), rt_u (by omega) (by omega) (by omega) (by omega) (by omega)]
  · rw [ab_u_i (by decide), ab_u_j hqp, ab_u_i (by decide)]
  · rw [ab_u_i (by decide), ab_u_s]
theorem RT_back (hp : p < 12) (h9 : I 92 p = 0) (v : Int) : RT p 0 I (ab_u (ab_u (ab_u (ab_u (ab_u I 89 (36 + p) v) 89 (12 + p) (I 89 85)) 89 85 (I 89 85 + 1)) 89 (24 + p) 0) 89 (36 + p) 0) (fun _ _ => 0) (I 89 85 + 1) := by
  refine ⟨⟨?_, ?_, ?_, ?_⟩, fun w x hw hx => ?_, fun i b h1 h2 => ?_, fun q hq hqp => ⟨?_, ?_⟩, ?_, by omega⟩
  · rw [ab_u_j (by omega), ab_u_j (by omega), ab_u_j (by omega), ab_u_j (by omega), ab_u_j (by omega)]
  · rw [ab_u_j (by omega), ab_u_j (by omega), ab_u_j (by omega), ab_u_j (by omega), ab_u_j (by omega)]
  · rw [ab_u_j (by omega), ab_u_j (by omega), ab_u_j (by omega), ab_u_j (by omega), ab_u_j (by omega)]
  · rw [ab_u_j (by omega), ab_u_j (by omega), ab_u_s]
  · rw [ab_u_j (by omega), ab_u_j (by omega), ab_u_j (by omega), ab_u_j (by omega), ab_u_j (by omega)]; simp
  · rw [ab_u_i h1, ab_u_i h1, ab_u_i h1, ab_u_i h1, ab_u_i h1]
  · rw [rt_u (by omega) (by omega) (by omega) (by omega) (by omega), rt_u (by omega) (by omega) (by omega) (by omega) (by omega), rt_u (by omega) (by omega) (by omega) (by omega) (by omega), rt_u (by omega) (by omega) (by omega) (by omega) (by omega), rt_u (by omega) (by omega) (by omega) (by omega) (by omega)]
  · rw [ab_u_i (by decide), ab_u_i (by decide), ab_u_i (by decide), ab_u_i (by decide), ab_u_i (by decide)]
  · rw [ab_u_i (by decide), ab_u_i (by decide), ab_u_i (by decide), ab_u_i (by decide), ab_u_i (by decide)]; exact h9
theorem rt_no (hp : p < 12) (v : Int) : rt (ab_u I 89 (36 + p) v 89) p = (I 89 p, I 89 (12 + p), I 89 (24 + p), v, I 89 (48 + p)) := by
  unfold rt; rw [ab_u_j (by omega), ab_u_j (by omega), ab_u_j (by omega), ab_u_s, ab_u_j (by omega)]
theorem rt_back (hp : p < 12) (v : Int) : rt (ab_u (ab_u (ab_u (ab_u (ab_u I 89 (36 + p) v) 89 (12 + p) (I 89 85)) 89 85 (I 89 85 + 1)) 89 (24 + p) 0) 89 (36 + p) 0 89) p = (I 89 p, I 89 85, 0, 0, I 89 (48 + p)) := by
  unfold rt
  rw [ab_u_j (by omega), ab_u_j (by omega), ab_u_j (by omega), ab_u_j (by omega), ab_u_j (by omega)]
  rw [ab_u_j (by omega), ab_u_j (by omega), ab_u_j (by omega), ab_u_s]
  rw [ab_u_j (by omega), ab_u_s, ab_u_s]
  rw [ab_u_j (by omega), ab_u_j (by omega), ab_u_j (by omega), ab_u_j (by omega), ab_u_j (by omega)]
end RTs
section ROs
variable {I0 I : Nat → Nat → Int} {ord : Nat → Nat} {N j k s : Nat} {W : Int} {o : OS} {ru : Ru} {tn : Tn}
theorem RO_b {wv : Int} (h : RO I0 ord N W j o I) (hj : j < N) (hN : N ≤ 12) (hinj : ∀ a b, a < N → b < N → ord a = ord b → a = b) (hlt : ∀ a, a < N → ord a < N) (ht : o.2.2.2 = false) (hs : I 89 (ord j) = (s : Int)) (hs4 : s < 4) (hk : tk1 ru tn k (rt (I 89) (ord j)) = 1) (hw : tn.2 s k = wv) :
    RO I0 ord N W (j + 1) (of_step ru tn k o (rt (I 89) (ord j))) (ab_u (ab_u (ab_u (ab_u I 92 (ord j) 1) 89 (60 + s) (I 89 (60 + s) + 1)) 89 (64 + s) (I 89 (64 + s) + I 89 (48 + ord j))) 89 (68 + s) (I 89 (68 + s) + wv)) := by
  have h5 := h.1.2.2.2
  have e0 : (rt (I 89) (ord j)).1.toNat = s := by unfold rt; dsimp only; omega
  have := RO_turn (T' := ta (ta (ta o.2.1 0 s 1) 1 s (I 89 (48 + ord j))) 2 s wv) (tk := true) h hj hN hinj hlt (RT_house (by have := hlt j hj; omega) hs4 (I 89 (48 + ord j)) wv) (Or.inr rfl) (fun w x _ _ => by
    rw [ta_add, ta_add, ta_add]
    by_cases hx : x = s
    · subst hx
      by_cases w0 : w = 0
      · subst w0; simp
      by_cases w1 : w = 1
      · subst w1; simp
      by_cases w2 : w = 2
      · subst w2; simp
      simp [w0, w1, w2]
    · simp [hx]) (fun e => by omega)
  unfold of_step
  rw [if_neg (by rw [ht]; decide), if_pos hk, e0, hw]
  rw [h5, if_neg (by decide), List.append_nil] at this
  exact this
theorem RO_c (h : RO I0 ord N W j o I) (hj : j < N) (hN : N ≤ 12) (hinj : ∀ a b, a < N → b < N → ord a = ord b → a = b) (hlt : ∀ a, a < N → ord a < N) (ht : o.2.2.2 = false) (hs : I 89 (ord j) = (s : Int)) (hs4 : s < 4) (hk : ¬ tk1 ru tn k (rt (I 89) (ord j)) = 1) (h1 : ¬ I 89 (36 + ord j) + 1 ≤ ru.2.1) (h2 : ru.2.2.1 = 0) :
    RO I0 ord N W (j + 1) (of_step ru tn k o (rt (I 89) (ord j))) (ab_u (ab_u (ab_u I 89 (36 + ord j) (I 89 (36 + ord j) + 1)) 92 (ord j) 1) 89 (72 + s) (I 89 (72 + s) + 1)) := by
  have h5 := h.1.2.2.2
  have e0 : (rt (I 89) (ord j)).1.toNat = s := by unfold rt; dsimp only; omega
  have := RO_turn (T' := ta o.2.1 3 s 1) (tk := false) h hj hN hinj hlt (RT_gone (by have := hlt j hj; omega) hs4 (I 89 (36 + ord j) + 1)) (Or.inr rfl) (fun w x _ _ => by rw [ta_add]) (fun e => by omega)
  unfold of_step
  rw [if_neg (by rw [ht]; decide), if_neg hk, if_neg (show ¬ (rt (I 89) (ord j)).2.2.2.1 + 1 ≤ ru.2.1 from h1), if_pos h2, e0]
  rw [h5, if_neg (by decide), List.append_nil] at this
  exact this
theorem RO_d (h : RO I0 ord N W j o I) (hj : j < N) (hN : N ≤ 12) (hinj : ∀ a b, a < N → b < N → ord a = ord b → a = b) (hlt : ∀ a, a < N → ord a < N) (ht : o.2.2.2 = false) (hm : PB W (I 89 85) (rt (I 89) (ord j))) (hk : ¬ tk1 ru tn k (rt (I 89) (ord j)) = 1) (h1 : I 89 (36 + ord j) + 1 ≤ ru.2.1 ∨ (¬ ru.2.2.1 = 0 ∧ ¬ ru.2.2.1 = 1)) :
    RO I0 ord N W (j + 1) (of_step ru tn k o (rt (I 89) (ord j))) (ab_u I 89 (36 + ord j) (I 89 (36 + ord j) + 1)) := by
  have h5 := h.1.2.2.2
  have hp := hlt j hj
  have := RO_turn (T' := o.2.1) (tk := false) h hj hN hinj hlt (RT_no (by omega) (h.2.2.2.2.1 j (Nat.le_refl _) hj).2 (I 89 (36 + ord j) + 1)) (Or.inl rfl) (fun w s _ _ => by simp) (fun _ => by
    rw [rt_no (by omega)]; unfold PB rt at *; dsimp only at *; omega)
  rw [if_pos rfl, rt_no (by omega), h5] at this
  unfold of_step
  rw [if_neg (by rw [ht]; decide), if_neg hk]
  by_cases q : (rt (I 89) (ord j)).2.2.2.1 + 1 ≤ ru.2.1
  · rw [if_pos q]; exact this
  · have q2 := h1.resolve_left q
    rw [if_neg q, if_neg q2.1, if_neg q2.2]; exact this
theorem RO_e (h : RO I0 ord N W j o I) (hj : j < N) (hN : N ≤ 12) (hinj : ∀ a b, a < N → b < N → ord a = ord b → a = b) (hlt : ∀ a, a < N → ord a < N) (ht : o.2.2.2 = false) (hm : PB W (I 89 85) (rt (I 89) (ord j))) (hk : ¬ tk1 ru tn k (rt (I 89) (ord j)) = 1) (h1 : ¬ I 89 (36 + ord j) + 1 ≤ ru.2.1) (h2 : ru.2.2.1 = 1) (h4 : 0 ≤ I 89 85) :
    RO I0 ord N W (j + 1) (of_step ru tn k o (rt (I 89) (ord j))) (ab_u (ab_u (ab_u (ab_u (ab_u I 89 (36 + ord j) (I 89 (36 + ord j) + 1)) 89 (12 + ord j) (I 89 85)) 89 85 (I 89 85 + 1)) 89 (24 + ord j) 0) 89 (36 + ord j) 0) := by
  have h5 := h.1.2.2.2
  have hp := hlt j hj
  have := RO_turn (T' := o.2.1) (tk := false) h hj hN hinj hlt (RT_back (by omega) (h.2.2.2.2.1 j (Nat.le_refl _) hj).2 (I 89 (36 + ord j) + 1)) (Or.inl rfl) (fun w s _ _ => by simp) (fun _ => by
    rw [rt_back (by omega)]; unfold PB rt at *; dsimp only at *; omega)
  rw [if_pos rfl, rt_back (by omega)] at this
  unfold of_step
  rw [if_neg (by rw [ht]; decide), if_neg hk, if_neg (show ¬ (rt (I 89) (ord j)).2.2.2.1 + 1 ≤ ru.2.1 from h1), if_neg (by omega), if_pos h2, ← h5]
  exact this
theorem RO_pbw (h : RO I0 ord N W j o I) (hj : j < N) (hb : ∀ q, q < N → PB W (I0 89 85) (rt (I0 89) (ord q))) (hn : I0 89 85 ≤ I 89 85) : PB W (I 89 85) (rt (I 89) (ord j)) := by
  rw [(h.2.2.2.2.1 j (Nat.le_refl _) hj).1]
  exact (hb j hj).mono (Int.le_refl _) hn
end ROs
