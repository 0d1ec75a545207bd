/-- what comes in a week: of a row told, its cell, its items' cell -/
def kdX (I : Nat → Nat → Int) (r it : Nat) (wk : Int) : Int := if I r 1 = 0 then -1 else I it (wk % I r 1).toNat
def ofS (ru : Ru) (tn : Tn) (kd : Int) (L : List P5) (nx : Int) : OS := if kd = -1 then (L, fun _ _ => 0, nx, true) else (srt ru.1 tn.1 L).foldl (of_step ru tn kd.toNat) ([], fun _ _ => 0, nx, false)
/-- a week: who stands on the list behind it, the next number, what it brought, empty houses -/
def wkS (ru : Ru) (tn : Tn) (kd js : Int) (L : List P5) (nx : Int) : List P5 × Int × (Nat → Nat → Int) × Int :=
  let o := ofS ru tn kd L nx
  let L2 := if js = -1 then o.1 else arL o.1 o.2.2.1 js.toNat
  (L2.map (gr ru.2.2.2.1), if js = -1 then o.2.2.1 else arN o.1 o.2.2.1, fun w s => o.2.1 w s + (if js = -1 then 0 else arT o.1 js.toNat w s) + grT tn.1 L2 w s, if o.2.2.2 = true then 0 else 1)
def wkN (ru : Ru) (tn : Tn) (kd js : Int → Int) : Nat → Int → List P5 → Int → List P5 × Int × (Nat → Nat → Int) × Int
  | 0, _, L, nx => (L, nx, fun _ _ => 0, 0)
  | n + 1, wk, L, nx =>
    let a := wkS ru tn (kd wk) (js wk) L nx
    let b := wkN ru tn kd js n (wk + 1) a.1 a.2.1
    (b.1, b.2.1, fun w s => a.2.2.1 w s + b.2.2.1 w s, a.2.2.2 + b.2.2.2)
/-- the numbers are apart, and all below the next one -/
def Nq (L : List P5) (nx : Int) : Prop := (L.map (fun t => t.2.1)).Nodup ∧ ∀ t ∈ L, t.2.1 < nx
theorem Nq.nm {L : List P5} {nx : Int} (h : Nq L nx) : Nm L := by
  have h1 := h.1
  intro x hx y hy e
  obtain ⟨i, hi, hxi⟩ := List.getElem_of_mem hx
  obtain ⟨j, hj, hyj⟩ := List.getElem_of_mem hy
  have hij : i = j := by
    have := (List.getElem_inj (i := i) (j := j) (h₀ := by simpa using hi) (h₁ := by simpa using hj) h1).mp (by simp [hxi, hyj, e])
    exact this
  subst hij
  rw [← hxi, ← hyj]
theorem Nq.perm {L M : List P5} {nx : Int} (h : Nq L nx) (hp : L.Perm M) : Nq M nx := ⟨(hp.map _).nodup h.1, fun t ht => h.2 t (hp.mem_iff.mpr ht)⟩
theorem nodup_fresh {a b : List Int} {x y : Int} (h : (a ++ x :: b).Nodup) (hy : ∀ z ∈ a ++ x :: b, z < y) : (a ++ y :: b).Nodup := by
  have h1 : (x :: (a ++ b)).Nodup := List.perm_middle.nodup h
  refine List.perm_middle.symm.nodup (List.nodup_cons.mpr ⟨fun hm => ?_, (List.nodup_cons.mp h1).2⟩)
  have := hy y (by
    rcases List.mem_append.mp hm with e | e
    · exact List.mem_append_left _ e
    · exact List.mem_append_right _ (List.mem_cons_of_mem _ e))
  omega
theorem of_step_nq {ru : Ru} {tn : Tn} {k : Nat} {o : OS} {t : P5} {rest : List P5} (h : Nq (o.1 ++ t :: rest) o.2.2.1) : Nq ((of_step ru tn k o t).1 ++ rest) (of_step ru tn k o t).2.2.1 ∧ o.2.2.1 ≤ (of_step ru tn k o t).2.2.1 ∧ (of_step ru tn k o t).2.2.1 ≤ o.2.2.1 + 1 := by
  obtain ⟨h1, h2⟩ := h
  have hl : Nq (o.1 ++ rest) o.2.2.1 := by
    refine ⟨?_, fun x hx => h2 x ?_⟩
    · have hs : (o.1 ++ rest).Sublist (o.1 ++ t :: rest) := List.Sublist.append_left (List.sublist_cons_self _ _) _
      exact List.Pairwise.sublist (hs.map _) h1
    · rcases List.mem_append.mp hx with e | e
      · exact List.mem_append_left _ e
      · exact List.mem_append_right _ (List.mem_cons_of_mem _ e)
  have hst : ∀ t' : P5, t'.2.1 = t.2.1 → Nq (o.1 ++ [t'] ++ rest) o.2.2.1 := fun t' e => by
    refine ⟨?_, fun x hx => ?_⟩
    · have : (o.1 ++ [t'] ++ rest).map (fun t => t.2.1) = (o.1 ++ t :: rest).map (fun t => t.2.1) := by simp [e]
      rw [this]; exact h1
    · rw [List.append_assoc] at hx
      rcases List.mem_append.mp hx with q | q
      · exact h2 x (List.mem_append_left _ q)
      · rcases List.mem_cons.mp q with q | q
        · rw [q, e]; exact h2 t (List.mem_append_right _ List.mem_cons_self)
        · exact h2 x (List.mem_append_right _ (List.mem_cons_of_mem _ q))
  unfold of_step
  (repeat' split)
  · exact ⟨hst t rfl, by simp, by simp only []; omega⟩
  · exact ⟨hl, by simp, by simp only []; omega⟩
  · exact ⟨hst _ rfl, by simp, by simp only []; omega⟩
  · exact ⟨hl, by simp, by simp only []; omega⟩
  · refine ⟨⟨?_, fun x hx => ?_⟩, by simp only []; omega, by simp⟩
    · have hy : ∀ z ∈ o.1.map (fun t => t.2.1) ++ t.2.1 :: rest.map (fun t => t.2.1), z < o.2.2.1 := fun z hz => by
        have hz2 : z ∈ (o.1 ++ t :: rest).map (fun t => t.2.1) := by simpa using hz
        obtain ⟨u, hu, rfl⟩ := List.mem_map.mp hz2
        exact h2 u hu
      have := nodup_fresh (a := o.1.map (fun t => t.2.1)) (b := rest.map (fun t => t.2.1)) (by simpa using h1) hy
      simpa using this
    · rw [List.append_assoc] at hx
      show x.2.1 < o.2.2.1 + 1
      rcases List.mem_append.mp hx with q | q
      · have := h2 x (List.mem_append_left _ q); omega
      · rcases List.mem_cons.mp q with q | q
        · rw [q]; simp only []; omega
        · have := h2 x (List.mem_append_right _ (List.mem_cons_of_mem _ q)); omega
  · exact ⟨hst _ rfl, by simp, by simp only []; omega⟩
theorem of_fold_nq {ru : Ru} {tn : Tn} {k : Nat} : ∀ {rest : List P5} {o : OS}, Nq (o.1 ++ rest) o.2.2.1 → Nq (rest.foldl (of_step ru tn k) o).1 (rest.foldl (of_step ru tn k) o).2.2.1 ∧ o.2.2.1 ≤ (rest.foldl (of_step ru tn k) o).2.2.1 ∧ (rest.foldl (of_step ru tn k) o).2.2.1 ≤ o.2.2.1 + rest.length
  | [], o, h => by simpa using h
  | t :: rest, o, h => by
    obtain ⟨h1, h2, h3⟩ := of_step_nq (ru := ru) (tn := tn) (k := k) h
    obtain ⟨h4, h5, h6⟩ := of_fold_nq (ru := ru) (tn := tn) (k := k) h1
    rw [List.foldl_cons]
    refine ⟨h4, by omega, ?_⟩
    rw [List.length_cons]; omega
theorem ofS_nq {ru : Ru} {tn : Tn} {kd : Int} {L : List P5} {nx : Int} (h : Nq L nx) : Nq (ofS ru tn kd L nx).1 (ofS ru tn kd L nx).2.2.1 ∧ nx ≤ (ofS ru tn kd L nx).2.2.1 ∧ (ofS ru tn kd L nx).2.2.1 ≤ nx + L.length := by
  unfold ofS
  split
  · exact ⟨h, by simp, by simp only []; omega⟩
  · have hp := srt_perm ru.1 tn.1 L
    obtain ⟨h1, h2, h3⟩ := of_fold_nq (ru := ru) (tn := tn) (k := kd.toNat) (rest := srt ru.1 tn.1 L) (o := ([], fun _ _ => 0, nx, false)) (h.perm hp.symm)
    refine ⟨h1, h2, ?_⟩
    rw [hp.length_eq] at h3
    exact h3
theorem ar_nq {L : List P5} {nx : Int} {s : Nat} (h : Nq L nx) : Nq (arL L nx s) (arN L nx) ∧ nx ≤ arN L nx ∧ arN L nx ≤ nx + 1 := by
  unfold arL arN
  split
  · exact ⟨h, by omega, by omega⟩
  · refine ⟨⟨?_, fun t ht => ?_⟩, by omega, by omega⟩
    · rw [List.map_append, List.map_singleton]
      refine (List.perm_append_singleton _ _).symm.nodup (List.nodup_cons.mpr ⟨fun hm => ?_, h.1⟩)
      obtain ⟨u, hu, e⟩ := List.mem_map.mp hm
      have := h.2 u hu
      simp only [] at e
      omega
    · rcases List.mem_append.mp ht with q | q
      · have := h.2 t q; omega
      · rw [List.mem_singleton.mp q]; simp only []; omega
theorem gr_nq {L : List P5} {nx g : Int} (h : Nq L nx) : Nq (L.map (gr g)) nx := by
  refine ⟨?_, fun t ht => ?_⟩
  · rw [List.map_map]; exact h.1
  · obtain ⟨u, hu, rfl⟩ := List.mem_map.mp ht
    exact h.2 u hu
theorem wkS_nq {ru : Ru} {tn : Tn} {kd js : Int} {L : List P5} {nx : Int} (h : Nq L nx) : Nq (wkS ru tn kd js L nx).1 (wkS ru tn kd js L nx).2.1 ∧ nx ≤ (wkS ru tn kd js L nx).2.1 ∧ (wkS ru tn kd js L nx).2.1 ≤ nx + L.length + 1 := by
  obtain ⟨h1, h2, h3⟩ := ofS_nq (ru := ru) (tn := tn) (kd := kd) h
  unfold wkS
  dsimp only
  split
  · exact ⟨gr_nq h1, h2, by omega⟩
  · obtain ⟨h4, h5, h6⟩ := ar_nq (s := js.toNat) h1
    exact ⟨gr_nq h4, by omega, by omega⟩
theorem ruX_congr {I J : Nat → Nat → Int} {r : Nat} (he : ∀ i b, i ≤ r + 3 → J i b = I i b) : ruX J r = ruX I r := by
  unfold ruX
  rw [he r 0 (by omega), he r 1 (by omega), he r 2 (by omega), he r 3 (by omega), show J (r + 1) = I (r + 1) from funext fun b => he _ b (by omega), show J (r + 2) = I (r + 2) from funext fun b => he _ b (by omega), show J (r + 3) = I (r + 3) from funext fun b => he _ b (by omega)]
theorem tnX_congr {I J : Nat → Nat → Int} (he : ∀ i b, i ≤ 12 → J i b = I i b) : tnX J = tnX I := by
  unfold tnX
  rw [show J 8 = I 8 from funext fun b => he _ b (by omega)]
  congr 1
  funext s k
  split
  · rw [he _ _ (by omega)]
  · rfl
theorem kdX_congr {I J : Nat → Nat → Int} (he : ∀ i b, i ≤ 12 → J i b = I i b) {r it : Nat} (h1 : r ≤ 12) (h2 : it ≤ 12) (wk : Int) : kdX J r it wk = kdX I r it wk := by
  unfold kdX
  rw [he r 1 h1, he it _ h2]
theorem kd_bd {I : Nat → Nat → Int} (hT : TB I) {wk : Int} (hw : 0 ≤ wk) : (-1 ≤ kdX I 9 10 wk ∧ kdX I 9 10 wk ≤ 3) ∧ (-1 ≤ kdX I 11 12 wk ∧ kdX I 11 12 wk ≤ 3) := by
  unfold kdX
  refine ⟨?_, ?_⟩
  · split
    · omega
    · rename_i h
      have h1 := hT.2.2.1
      have h2 := Int.emod_lt_of_pos wk (show 0 < I 9 1 by omega)
      have h3 := Int.emod_nonneg wk (show I 9 1 ≠ 0 by omega)
      exact hT.2.2.2.1 _ (by omega)
  · split
    · omega
    · rename_i h
      have h1 := hT.2.2.2.2.1
      have h2 := Int.emod_lt_of_pos wk (show 0 < I 11 1 by omega)
      have h3 := Int.emod_nonneg wk (show I 11 1 ≠ 0 by omega)
      exact hT.2.2.2.2.2 _ (by omega)
