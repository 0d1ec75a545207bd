/-- the heap while a house is offered: the first j of the row have been asked -/
def OI (c : Nat) (I0 : Nat → Nat → Int) (F0 : Nat → Nat → Nat) (N : Nat) (wk : Int) (j : Nat) (o : OS) (I : Nat → Nat → Int) (F : Nat → Nat → Nat) : Prop :=
  (o.1.length ≤ j ∧ N ≤ 12) ∧ (I c 2 = N ∧ I c 3 = I0 c 3 ∧ I c 5 = I0 c 5 ∧ I c 4 = o.2.2.1) ∧ (∀ w s, w < 6 → s < 4 → I (c + 3 + w) s = I0 (c + 3 + w) s + o.2.1 w s) ∧
  (∀ i b, (i < c ∨ c + 20 < i) → I i b = I0 i b) ∧ (∀ i b, i ≠ c + 1 → F i b = F0 i b) ∧ (∀ i, i < 12 → c + 9 ≤ F (c + 1) i ∧ F (c + 1) i ≤ c + 20) ∧
  (∀ a b, a < 12 → b < 12 → F (c + 1) a = F (c + 1) b → a = b) ∧ (∀ i, i < o.1.length → o.1[i]? = some (tup I (F (c + 1) i))) ∧
  (∀ i, j ≤ i → i < 12 → F (c + 1) i = F0 (c + 1) i) ∧ (∀ i, j ≤ i → i < 12 → tup I (F0 (c + 1) i) = tup I0 (F0 (c + 1) i)) ∧
  (∀ t ∈ o.1, PB (wk + 1) o.2.2.1 t) ∧ (∀ p, c + 9 ≤ p → p ≤ c + 20 → PB 6000 100000 (tup I p))
/-- what one person's turn does to the cells -/
def OT (c : Nat) (wk : Int) (p : Nat) (I I' : Nat → Nat → Int) (δ : Nat → Nat → Int) (nx' : Int) : Prop :=
  (I' c 2 = I c 2 ∧ I' c 3 = I c 3 ∧ I' c 5 = I c 5 ∧ I' c 4 = nx') ∧ (∀ w s, w < 6 → s < 4 → I' (c + 3 + w) s = I (c + 3 + w) s + δ w s) ∧ (∀ i b, (i < c ∨ c + 20 < i) → I' i b = I i b) ∧
  (∀ q, c + 9 ≤ q → q ≤ c + 20 → q ≠ p → tup I' q = tup I q) ∧ PB (wk + 1) nx' (tup I' p) ∧ I c 4 ≤ nx' ∧ PB 6000 100000 (tup I' p)
theorem OI_leave {c : Nat} {I0 I I' : Nat → Nat → Int} {F0 F : Nat → Nat → Nat} {N j : Nat} {wk : Int} {o : OS} {δ : Nat → Nat → Int} {nx' : Int} {T' : Nat → Nat → Int} {tk : Bool} (h : OI c I0 F0 N wk j o I F) (hj : j < N)
    (ht : OT c wk (F (c + 1) j) I I' δ nx') (hT : ∀ w s, w < 6 → s < 4 → T' w s = o.2.1 w s + δ w s) : OI c I0 F0 N wk (j + 1) (o.1, T', nx', tk) I' F := by
  obtain ⟨⟨h1, h1'⟩, ⟨h2, h3, h4, h5⟩, h6, h7, h8, h9, h10, h11, h12, h13, h14, h15⟩ := h
  obtain ⟨⟨t1, t2, t3, t4⟩, t5, t6, t7, t8, t9, t10⟩ := ht
  have hne : ∀ i, i < 12 → i ≠ j → F (c + 1) i ≠ F (c + 1) j := fun i hi hij e => hij (h10 i j hi (by omega) e)
  refine ⟨⟨Nat.le_succ_of_le h1, h1'⟩, ⟨t1.trans h2, t2.trans h3, t3.trans h4, t4⟩, fun w s hw hs => ?_, fun i b hi => (t6 i b hi).trans (h7 i b hi), h8, h9, h10, fun i hi => ?_, fun i hi hi2 => h12 i (by omega) hi2, fun i hi hi2 => ?_, fun t ht => (h14 t ht).mono (Int.le_refl _) (by rw [← h5]; exact t9), fun q hq1 hq2 => ?_⟩
  · show I' (c + 3 + w) s = I0 (c + 3 + w) s + T' w s
    rw [t5 w s hw hs, h6 w s hw hs, hT w s hw hs]; omega
  · have hi' : i < o.1.length := hi
    rw [t7 _ (h9 i (by omega)).1 (h9 i (by omega)).2 (hne i (by omega) (by omega))]
    exact h11 i hi
  · rw [← h12 i (by omega) hi2, t7 _ (h9 i hi2).1 (h9 i hi2).2 (hne i hi2 (by omega)), h12 i (by omega) hi2]
    exact h13 i (by omega) hi2
  · by_cases hq : q = F (c + 1) j
    · rw [hq]; exact t10
    · rw [t7 q hq1 hq2 hq]
      exact h15 q hq1 hq2
theorem sw_inj {f : Nat → Nat} {m j : Nat} (hm : m < 12) (hj : j < 12) (h : ∀ a b, a < 12 → b < 12 → f a = f b → a = b) : ∀ a b, a < 12 → b < 12 → (if a = m then f j else if a = j then f m else f a) = (if b = m then f j else if b = j then f m else f b) → a = b := by
  intro a b ha hb e
  by_cases a1 : a = m <;> by_cases a2 : a = j <;> by_cases b1 : b = m <;> by_cases b2 : b = j <;> simp only [a1, a2, b1, b2, if_true, if_false] at e ⊢ <;> first | omega | (have := h _ _ (by omega) (by omega) e; omega) | skip
  all_goals (simp_all)
  all_goals (try (have := h _ _ (by omega) (by omega) e; omega))
theorem OI_stay {c : Nat} {I0 I I' : Nat → Nat → Int} {F0 F : Nat → Nat → Nat} {N j : Nat} {wk : Int} {o : OS} {δ : Nat → Nat → Int} {nx' : Int} {T' : Nat → Nat → Int} {tk : Bool} (h : OI c I0 F0 N wk j o I F) (hj : j < N)
    (ht : OT c wk (F (c + 1) j) I I' δ nx') (hT : ∀ w s, w < 6 → s < 4 → T' w s = o.2.1 w s + δ w s) : OI c I0 F0 N wk (j + 1) (o.1 ++ [tup I' (F (c + 1) j)], T', nx', tk) I' (ab_w (ab_w F (c + 1) j (F (c + 1) o.1.length)) (c + 1) o.1.length (F (c + 1) j)) := by
  obtain ⟨⟨h1, h1'⟩, ⟨h2, h3, h4, h5⟩, h6, h7, h8, h9, h10, h11, h12, h13, h14, h15⟩ := h
  obtain ⟨⟨t1, t2, t3, t4⟩, t5, t6, t7, t8, t9, t10⟩ := ht
  have hne : ∀ i, i < 12 → i ≠ j → F (c + 1) i ≠ F (c + 1) j := fun i hi hij e => hij (h10 i j hi (by omega) e)
  have hf : ∀ i, ab_w (ab_w F (c + 1) j (F (c + 1) o.1.length)) (c + 1) o.1.length (F (c + 1) j) (c + 1) i = if i = o.1.length then F (c + 1) j else if i = j then F (c + 1) o.1.length else F (c + 1) i := fun i => by
    unfold ab_w; simp
  refine ⟨⟨by simp; omega, h1'⟩, ⟨t1.trans h2, t2.trans h3, t3.trans h4, t4⟩, fun w s hw hs => ?_, fun i b hi => (t6 i b hi).trans (h7 i b hi), fun i b hi => ?_, fun i hi => ?_, fun a b ha hb e => ?_, fun i hi => ?_, fun i hi hi2 => ?_, fun i hi hi2 => ?_, fun t ht => ?_, fun q hq1 hq2 => ?_⟩
  · show I' (c + 3 + w) s = I0 (c + 3 + w) s + T' w s
    rw [t5 w s hw hs, h6 w s hw hs, hT w s hw hs]; omega
  · rw [ab_w_i hi, ab_w_i hi]; exact h8 i b hi
  · rw [hf]
    split
    · exact h9 j (by omega)
    · split
      · exact h9 _ (by omega)
      · exact h9 i hi
  · rw [hf, hf] at e
    exact sw_inj (f := F (c + 1)) (by omega) (by omega) h10 a b ha hb e
  · rw [List.length_append, List.length_singleton] at hi
    rw [hf]
    by_cases him : i = o.1.length
    · rw [if_pos him, him, List.getElem?_append_right (Nat.le_refl _), Nat.sub_self]; rfl
    · rw [if_neg him, if_neg (by omega), List.getElem?_append_left (by omega), t7 _ (h9 i (by omega)).1 (h9 i (by omega)).2 (hne i (by omega) (by omega))]
      exact h11 i (by omega)
  · rw [hf, if_neg (by omega), if_neg (by omega)]
    exact h12 i (by omega) hi2
  · rw [← h12 i (by omega) hi2, t7 _ (h9 i hi2).1 (h9 i hi2).2 (hne i hi2 (by omega)), h12 i (by omega) hi2]
    exact h13 i (by omega) hi2
  · rcases List.mem_append.mp ht with q | q
    · exact (h14 t q).mono (Int.le_refl _) (by rw [← h5]; exact t9)
    · rw [List.mem_singleton.mp q]; exact t8
  · by_cases hq : q = F (c + 1) j
    · rw [hq]; exact t10
    · rw [t7 q hq1 hq2 hq]
      exact h15 q hq1 hq2

theorem ta_add (T : Nat → Nat → Int) (w s : Nat) (v : Int) (a b : Nat) : ta T w s v a b = T a b + (if a = w ∧ b = s then v else 0) := by
  unfold ta; split <;> omega
theorem OT_same {c p : Nat} {wk : Int} {I : Nat → Nat → Int} (h : PB (wk + 1) (I c 4) (tup I p)) (hc : PB 6000 100000 (tup I p)) : OT c wk p I I (fun _ _ => 0) (I c 4) :=
  ⟨⟨rfl, rfl, rfl, rfl⟩, fun _ _ _ _ => by simp, fun _ _ _ => rfl, fun _ _ _ _ => rfl, h, Int.le_refl _, hc⟩
section OTs
variable {c p s : Nat} {wk : Int} {I : Nat → Nat → Int}
theorem OT_house (hp : c + 9 ≤ p ∧ p ≤ c + 20) (hs : s < 4) (h : PB (wk + 1) (I c 4) (tup I p)) (hc : PB 6000 100000 (tup I p)) (a b d : Int) : OT c wk p I (ab_u (ab_u (ab_u I (c + 3) s (I (c + 3) s + a)) (c + 4) s (I (c + 4) s + b)) (c + 5) s (I (c + 5) s + d)) (fun w x => if x = s then (if w = 0 then a else if w = 1 then b else if w = 2 then d else 0) else 0) (I c 4) := by
  refine ⟨⟨?_, ?_, ?_, ?_⟩, fun w x hw hx => ?_, fun i y hi => ?_, fun q h1 h2 h3 => ?_, ?_, Int.le_refl _, ?_⟩
  · rw [ab_u_i (by omega), ab_u_i (by omega), ab_u_i (by omega)]
  · rw [ab_u_i (by omega), ab_u_i (by omega), ab_u_i (by omega)]
  · rw [ab_u_i (by omega), ab_u_i (by omega), ab_u_i (by omega)]
  · rw [ab_u_i (by omega), ab_u_i (by omega), ab_u_i (by omega)]
  · by_cases hx2 : x = s
    · subst hx2
      match w, hw with
      | 0, _ => simp [ab_u]
      | 1, _ => simp [ab_u]
      | 2, _ => simp [ab_u]
      | 3, _ => simp [ab_u]
      | 4, _ => simp [ab_u]
      | 5, _ => simp [ab_u]
    · rw [ab_u_j hx2, ab_u_j hx2, ab_u_j hx2]; simp [hx2]
  · rw [ab_u_i (by omega), ab_u_i (by omega), ab_u_i (by omega)]
  · rw [tup_u (by omega), tup_u (by omega), tup_u (by omega)]
  · rw [tup_u (by omega), tup_u (by omega), tup_u (by omega)]; exact h
  · rw [tup_u (by omega), tup_u (by omega), tup_u (by omega)]; exact hc
theorem OT_no (hp : c + 9 ≤ p ∧ p ≤ c + 20) (h : PB wk (I c 4) (tup I p)) (hw6 : wk + 1 ≤ 6000) (hx6 : I c 4 + 1 ≤ 100000) : OT c wk p I (ab_u I p 3 (I p 3 + 1)) (fun _ _ => 0) (I c 4) := by
  refine ⟨⟨?_, ?_, ?_, ?_⟩, fun w x hw hx => ?_, fun i y hi => ?_, fun q h1 h2 h3 => ?_, ?_, Int.le_refl _, ?_⟩
  · rw [ab_u_i (by omega)]
  · rw [ab_u_i (by omega)]
  · rw [ab_u_i (by omega)]
  · rw [ab_u_i (by omega)]
  · rw [ab_u_i (by omega)]; simp
  · rw [ab_u_i (by omega)]
  · rw [tup_u h3]
  · rw [pt_u3, tup_pt]; unfold PB tup at *; dsimp only at *; omega
  · rw [pt_u3, tup_pt]; unfold PB tup at *; dsimp only at *; omega
theorem OT_gone (hp : c + 9 ≤ p ∧ p ≤ c + 20) (hs : s < 4) (h : PB wk (I c 4) (tup I p)) (hw6 : wk + 1 ≤ 6000) (hx6 : I c 4 + 1 ≤ 100000) : OT c wk p I (ab_u (ab_u I p 3 (I p 3 + 1)) (c + 6) s (I (c + 6) s + 1)) (fun w x => if w = 3 ∧ x = s then 1 else 0) (I c 4) := by
  refine ⟨⟨?_, ?_, ?_, ?_⟩, fun w x hw hx => ?_, fun i y hi => ?_, fun q h1 h2 h3 => ?_, ?_, Int.le_refl _, ?_⟩
  · rw [ab_u_i (by omega), ab_u_i (by omega)]
  · rw [ab_u_i (by omega), ab_u_i (by omega)]
  · rw [ab_u_i (by omega), ab_u_i (by omega)]
  · rw [ab_u_i (by omega), ab_u_i (by omega)]
  · by_cases h3 : w = 3
    · subst h3
      by_cases hx2 : x = s
      · subst hx2; simp [ab_u]
      · rw [ab_u_j hx2, ab_u_i (by omega)]; simp [hx2]
    · rw [ab_u_i (by omega), ab_u_i (by omega)]; simp [h3]
  · rw [ab_u_i (by omega), ab_u_i (by omega)]
  · rw [tup_u (by omega), tup_u h3]
  · rw [tup_u (by omega), pt_u3, tup_pt]; unfold PB tup at *; dsimp only at *; omega
  · rw [tup_u (by omega), pt_u3, tup_pt]; unfold PB tup at *; dsimp only at *; omega
theorem back_I (hp : c + 9 ≤ p ∧ p ≤ c + 20) : ab_u (ab_u (ab_u (ab_u (ab_u I p 3 (I p 3 + 1)) p 1 (I c 4)) c 4 (I c 4 + 1)) p 2 0) p 3 0 = pt (ab_u I c 4 (I c 4 + 1)) p (I p 0, I c 4, 0, 0, I p 4) := by
  funext a b
  by_cases ha : a = p
  · subst ha
    have hc : ¬ a = c := by omega
    by_cases h0 : b = 0
    · subst h0; simp [ab_u, pt]
    by_cases h1 : b = 1
    · subst h1; simp [ab_u, pt, hc]
    by_cases h2 : b = 2
    · subst h2; simp [ab_u, pt]
    by_cases h3 : b = 3
    · subst h3; simp [ab_u, pt]
    by_cases h4 : b = 4
    · subst h4; simp [ab_u, pt, hc]
    simp [ab_u, pt, h0, h1, h2, h3, h4, hc]
  · simp [ab_u, pt, ha]
theorem OT_back (hp : c + 9 ≤ p ∧ p ≤ c + 20) (h : PB wk (I c 4) (tup I p)) (h4 : 0 ≤ I c 4) (hw6 : wk + 1 ≤ 6000) (hx6 : I c 4 + 1 ≤ 100000) : OT c wk p I (pt (ab_u I c 4 (I c 4 + 1)) p (I p 0, I c 4, 0, 0, I p 4)) (fun _ _ => 0) (I c 4 + 1) := by
  refine ⟨⟨?_, ?_, ?_, ?_⟩, fun w x hw hx => ?_, fun i y hi => ?_, fun q h1 h2 h3 => ?_, ?_, by omega, ?_⟩
  · rw [pt_ne (by omega), ab_u_j (by omega)]
  · rw [pt_ne (by omega), ab_u_j (by omega)]
  · rw [pt_ne (by omega), ab_u_j (by omega)]
  · rw [pt_ne (by omega), ab_u_s]
  · rw [pt_ne (by omega), ab_u_i (by omega)]; simp
  · rw [pt_ne (by omega), ab_u_i (by omega)]
  · rw [tup_ne h3, tup_u (by omega)]
  · rw [tup_pt]; unfold PB tup at *; dsimp only at *; omega
  · rw [tup_pt]; unfold PB tup at *; dsimp only at *; omega
end OTs

section Steps
variable {c : Nat} {I0 I : Nat → Nat → Int} {F0 F : Nat → Nat → Nat} {N j k : Nat} {wk : Int} {o : OS} {ru : Ru} {tn : Tn}
theorem OI_pbw (h : OI c I0 F0 N wk j o I F) (hj : j < N) (hb : ∀ i, i < N → PB wk (I0 c 4) (tup I0 (F0 (c + 1) i))) (hn : I0 c 4 ≤ I c 4) : PB wk (I c 4) (tup I (F (c + 1) j)) := by
  obtain ⟨⟨h1, h1'⟩, ⟨h2, h3, h4, h5⟩, h6, h7, h8, h9, h10, h11, h12, h13, h14, h15⟩ := h
  rw [h12 j (Nat.le_refl _) (by omega), h13 j (Nat.le_refl _) (by omega)]
  exact (hb j hj).mono (Int.le_refl _) hn
theorem OI.pc (h : OI c I0 F0 N wk j o I F) (hj : j < N) : PB 6000 100000 (tup I (F (c + 1) j)) := by
  obtain ⟨⟨h1, h1'⟩, ⟨h2, h3, h4, h5⟩, h6, h7, h8, h9, h10, h11, h12, h13, h14, h15⟩ := h
  exact h15 _ (h9 j (by omega)).1 (h9 j (by omega)).2
theorem OI_a (h : OI c I0 F0 N wk j o I F) (hj : j < N) (hm : PB wk (I c 4) (tup I (F (c + 1) j))) (ht : o.2.2.2 = true) : OI c I0 F0 N wk (j + 1) (of_step ru tn k o (tup I (F (c + 1) j))) I (ab_w (ab_w F (c + 1) j (F (c + 1) o.1.length)) (c + 1) o.1.length (F (c + 1) j)) := by
  have h5 := h.2.1.2.2.2
  have := OI_stay (T' := o.2.1) (tk := true) h hj (OT_same (hm.mono (by omega) (Int.le_refl _)) (h.pc hj)) (fun w s _ _ => by simp)
  unfold of_step
  rw [if_pos ht]
  rw [h5] at this
  exact this
theorem OI_b {s : Nat} {wv : Int} (h : OI c I0 F0 N wk j o I F) (hj : j < N) (hm : PB wk (I c 4) (tup I (F (c + 1) j))) (ht : o.2.2.2 = false) (hs : I (F (c + 1) j) 0 = (s : Int)) (hs4 : s < 4) (hk : tk1 ru tn k (tup I (F (c + 1) j)) = 1) (hw : tn.2 s k = wv) :
    OI c I0 F0 N wk (j + 1) (of_step ru tn k o (tup I (F (c + 1) j))) (ab_u (ab_u (ab_u I (c + 3) s (I (c + 3) s + 1)) (c + 4) s (I (c + 4) s + I (F (c + 1) j) 4)) (c + 5) s (I (c + 5) s + wv)) F := by
  have h5 := h.2.1.2.2.2
  have h9 := h.2.2.2.2.2.1
  have e0 : (tup I (F (c + 1) j)).1.toNat = s := by unfold tup; dsimp only; omega
  unfold of_step
  rw [if_neg (by rw [ht]; decide), if_pos hk, e0]
  have := OI_leave (T' := ta (ta (ta o.2.1 0 s 1) 1 s (I (F (c + 1) j) 4)) 2 s wv) (tk := true) h hj (OT_house (h9 j (by have := h.1.2; omega)) hs4 (hm.mono (by omega) (Int.le_refl _)) (h.pc hj) 1 (I (F (c + 1) j) 4) wv) (fun w x _ _ => by
    rw [ta_add, ta_add, ta_add]
    by_cases hx : x = s
    · subst hx
      by_cases w0 : w = 0
      · subst w0; simp
      by_cases w1 : w = 1
      · subst w1; simp
      by_cases w2 : w = 2
      · subst w2; simp
      simp [w0, w1, w2]
    · simp [hx])
  rw [h5] at this
  rw [hw]
  exact this
theorem OI_c {s : Nat} (h : OI c I0 F0 N wk j o I F) (hj : j < N) (ht : o.2.2.2 = false) (hm : PB wk (I c 4) (tup I (F (c + 1) j))) (hw6 : wk + 1 ≤ 6000) (hx6 : I c 4 + 1 ≤ 100000) (hs : I (F (c + 1) j) 0 = (s : Int)) (hs4 : s < 4) (hk : ¬ tk1 ru tn k (tup I (F (c + 1) j)) = 1) (h1 : ¬ I (F (c + 1) j) 3 + 1 ≤ ru.2.1) (h2 : ru.2.2.1 = 0) :
    OI c I0 F0 N wk (j + 1) (of_step ru tn k o (tup I (F (c + 1) j))) (ab_u (ab_u I (F (c + 1) j) 3 (I (F (c + 1) j) 3 + 1)) (c + 6) s (I (c + 6) s + 1)) F := by
  have h5 := h.2.1.2.2.2
  have h9 := h.2.2.2.2.2.1
  have e0 : (tup I (F (c + 1) j)).1.toNat = s := by unfold tup; dsimp only; omega
  unfold of_step
  rw [if_neg (by rw [ht]; decide), if_neg hk, if_neg (show ¬ (tup I (F (c + 1) j)).2.2.2.1 + 1 ≤ ru.2.1 from h1), if_pos h2, e0]
  have := OI_leave (T' := ta o.2.1 3 s 1) (tk := false) h hj (OT_gone (h9 j (by have := h.1.2; omega)) hs4 hm hw6 hx6) (fun w x _ _ => by rw [ta_add])
  rw [h5] at this
  exact this
theorem OI_d (h : OI c I0 F0 N wk j o I F) (hj : j < N) (ht : o.2.2.2 = false) (hm : PB wk (I c 4) (tup I (F (c + 1) j))) (hw6 : wk + 1 ≤ 6000) (hx6 : I c 4 + 1 ≤ 100000) (hk : ¬ tk1 ru tn k (tup I (F (c + 1) j)) = 1) (h1 : I (F (c + 1) j) 3 + 1 ≤ ru.2.1 ∨ (¬ ru.2.2.1 = 0 ∧ ¬ ru.2.2.1 = 1)) :
    OI c I0 F0 N wk (j + 1) (of_step ru tn k o (tup I (F (c + 1) j))) (ab_u I (F (c + 1) j) 3 (I (F (c + 1) j) 3 + 1)) (ab_w (ab_w F (c + 1) j (F (c + 1) o.1.length)) (c + 1) o.1.length (F (c + 1) j)) := by
  have h5 := h.2.1.2.2.2
  have h9 := h.2.2.2.2.2.1
  have := OI_stay (T' := o.2.1) (tk := false) h hj (OT_no (h9 j (by have := h.1.2; omega)) hm hw6 hx6) (fun w s _ _ => by simp)
  rw [h5, show tup (ab_u I (F (c + 1) j) 3 (I (F (c + 1) j) 3 + 1)) (F (c + 1) j) = (I (F (c + 1) j) 0, I (F (c + 1) j) 1, I (F (c + 1) j) 2, I (F (c + 1) j) 3 + 1, I (F (c + 1) j) 4) by rw [pt_u3, tup_pt]] at this
  unfold of_step
  rw [if_neg (by rw [ht]; decide), if_neg hk]
  by_cases q : (tup I (F (c + 1) j)).2.2.2.1 + 1 ≤ ru.2.1
  · rw [if_pos q]; exact this
  · have q2 := h1.resolve_left q
    rw [if_neg q, if_neg q2.1, if_neg q2.2]; exact this
theorem OI_e (h : OI c I0 F0 N wk j o I F) (hj : j < N) (ht : o.2.2.2 = false) (hm : PB wk (I c 4) (tup I (F (c + 1) j))) (hw6 : wk + 1 ≤ 6000) (hx6 : I c 4 + 1 ≤ 100000) (hk : ¬ tk1 ru tn k (tup I (F (c + 1) j)) = 1) (h1 : ¬ I (F (c + 1) j) 3 + 1 ≤ ru.2.1) (h2 : ru.2.2.1 = 1) (h4 : 0 ≤ I c 4) :
    OI c I0 F0 N wk (j + 1) (of_step ru tn k o (tup I (F (c + 1) j))) (pt (ab_u I c 4 (I c 4 + 1)) (F (c + 1) j) (I (F (c + 1) j) 0, I c 4, 0, 0, I (F (c + 1) j) 4)) (ab_w (ab_w F (c + 1) j (F (c + 1) o.1.length)) (c + 1) o.1.length (F (c + 1) j)) := by
  have h5 := h.2.1.2.2.2
  have h9 := h.2.2.2.2.2.1
  have := OI_stay (T' := o.2.1) (tk := false) h hj (OT_back (h9 j (by have := h.1.2; omega)) hm h4 hw6 hx6) (fun w s _ _ => by simp)
  rw [tup_pt] at this
  unfold of_step
  rw [if_neg (by rw [ht]; decide), if_neg hk, if_neg (show ¬ (tup I (F (c + 1) j)).2.2.2.1 + 1 ≤ ru.2.1 from h1), if_neg (by omega), if_pos h2, ← h5]
  exact this
end Steps
