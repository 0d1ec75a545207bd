theorem ab_u_o {I : Nat → Nat → Int} {i j a b : Nat} {v : Int} (h : a ≠ i ∨ b ≠ j) : ab_u I i j v a b = I a b := by
  unfold ab_u; rw [if_neg (by omega)]
-- the two sides' numbers, held together
def IVt (I : Nat → Nat → Int) : Prop := (∀ s, s < 4 → I 8 s = I 86 s) ∧ (∀ s k, s < 4 → k < 4 → I (4 + s) k = I 85 (4 * s + k)) ∧ I 9 1 = I 84 2 ∧ (∀ j, j < 24 → I 10 j = I 87 j) ∧ I 11 1 = I 84 4 ∧ (∀ j, j < 24 → I 12 j = I 88 j)
def IVr (I : Nat → Nat → Int) : Prop := (I 13 0 = I 95 0 ∧ I 13 1 = I 95 1 ∧ I 13 2 = I 95 2 ∧ I 13 3 = I 95 3) ∧ ∀ s, s < 4 → I 14 s = I 95 (4 + 3 * s) ∧ I 15 s = I 95 (5 + 3 * s) ∧ I 16 s = I 95 (6 + 3 * s)
def IVx (I : Nat → Nat → Int) : Prop := (0 ≤ I 21 1 ∧ I 21 1 ≤ 160) ∧ I 84 10 = I 21 1 ∧ ∀ j : Nat, j < 160 → (j : Int) < I 21 1 → I 93 j = I 22 j ∧ 0 ≤ I 22 j ∧ I 22 j ≤ 255
def IVh (I : Nat → Nat → Int) : Prop := (0 ≤ I 76 3 ∧ I 76 3 ≤ 8) ∧ I 84 25 = I 76 3 ∧ ∀ j, j < 8 → (I 100 j = I 77 j ∧ I 101 j = I 78 j) ∧ (0 ≤ I 77 j ∧ I 77 j ≤ 3) ∧ (0 ≤ I 78 j ∧ I 78 j ≤ 3)
def IVy (I : Nat → Nat → Int) (F : Nat → Nat → Nat) : Prop := (∀ i, i < 12 → 53 ≤ F 45 i ∧ F 45 i ≤ 64) ∧ (∀ a b, a < 12 → b < 12 → F 45 a = F 45 b → a = b) ∧ (∀ p, 53 ≤ p → p ≤ 64 → PB 6000 100000 (tup I p))
def IVc (c : Nat) (I : Nat → Nat → Int) (F : Nat → Nat → Nat) (L M : List P5) (wk nx : Int) : Prop := CS 23 I F L wk nx (2 * wk) ∧ RS I M wk nx (2 * wk) ∧ L.Perm M ∧ Nq L nx ∧ (0 ≤ wk ∧ wk ≤ 2000) ∧ (0 ≤ nx ∧ nx ≤ 13 * wk + c) ∧ (∀ w s, w < 6 → s < 4 → I (26 + w) s = I 89 (60 + 4 * w + s)) ∧ I 23 5 = I 89 87
/-- the bars of a setting -/
def bq (q s : Nat) : Nat := q / 5 ^ s % 5
def ruQ (ru : Ru) (tn : Tn) (q : Nat) : Ru := (ru.1, ru.2.1, ru.2.2.1, ru.2.2.2.1, n4 (fun s => if bq q s = 0 then 0 else 1), n4 (fun s => if bq q s = 0 then 0 else tn.2 s (bq q s - 1)), n4 (fun _ => 0))
def gnQ (ru : Ru) (tn : Tn) (kd js : Int → Int) (n : Nat) (wk : Int) (L : List P5) (nx : Int) (q s : Nat) : Int := (wkN (ruQ ru tn q) tn kd js n wk L nx).2.2.1 2 s - (wkN (ruQ ru tn q) tn kd js n wk L nx).2.2.1 5 s
def arQ (g : Nat → Nat → Int) (q : Nat) : Bool := (List.range 4).all (fun s => (List.range 5).all (fun b => decide (g (q - bq q s * 5 ^ s + b * 5 ^ s) s ≤ g q s)))
def rsQ (g : Nat → Nat → Int) : List Nat := (List.range 625).filter (arQ g)
def gnM (I : Nat → Nat → Int) (n : Nat) (wk : Int) (M : List P5) (nx : Int) : Nat → Nat → Int := gnQ (ruM I) (tnM I) (kdM I 2 87) (kdM I 4 88) n wk M nx
def IVm (I : Nat → Nat → Int) (M : List P5) (wk nx : Int) : Prop := I 65 5 = 0 ∨ ∃ n : Nat, (1 ≤ n ∧ n ≤ 40) ∧ I 65 5 = n ∧ I 65 4 = (rsQ (gnM I n wk M nx)).length ∧ ∀ i, i < (rsQ (gnM I n wk M nx)).length → (rsQ (gnM I n wk M nx))[i]?.map (fun q => (q : Int)) = some (I 72 i)
def INV (c : Nat) (I : Nat → Nat → Int) (F : Nat → Nat → Nat) : Prop := ab_FB F ∧ TB I ∧ IVt I ∧ RB 13 I ∧ IVr I ∧ IVx I ∧ IVh I ∧ IVy I F ∧ ∃ (L M : List P5) (wk nx : Int), IVc c I F L M wk nx ∧ IVm I M wk nx
/-- a call on the one, and the same call on the other: the same answer -/
def Pair (G : ab_G) (d d2 : Nat) (Y1 Y2 : ab_Y) (as : List ab_V) (ret : Int → ab_V) (c : Nat) (I : Nat → Nat → Int) (F : Nat → Nat → Nat) : Prop :=
  Ct G d 0 0 Y1 (ab_r 1 :: as) (104, I, F) (fun q h => ∃ r I1 F1, q = some (ret r) ∧ h = (104, I1, F1) ∧ Ct G d2 0 0 Y2 (ab_r 84 :: as) (104, I1, F1) (fun q h => q = some (ret r) ∧ ∃ I2 F2, h = (104, I2, F2) ∧ INV (c + 1) I2 F2))
theorem TB.ofc {I J : Nat → Nat → Int} (h : TB I) (he : ∀ i b, 4 ≤ i → i ≤ 12 → J i b = I i b) : TB J := by
  refine ⟨fun s hs => ?_, fun s k hs hk => ?_, ?_, fun j hj => ?_, ?_, fun j hj => ?_⟩
  · rw [he 8 s (by omega) (by omega)]; exact h.1 s hs
  · rw [he (4 + s) k (by omega) (by omega)]; exact h.2.1 s k hs hk
  · rw [he 9 1 (by omega) (by omega)]; exact h.2.2.1
  · rw [he 10 j (by omega) (by omega)]; exact h.2.2.2.1 j hj
  · rw [he 11 1 (by omega) (by omega)]; exact h.2.2.2.2.1
  · rw [he 12 j (by omega) (by omega)]; exact h.2.2.2.2.2 j hj
theorem IVt.of {I J : Nat → Nat → Int} (h : IVt I) (he : ∀ i b, (4 ≤ i ∧ i ≤ 12) ∨ (i = 84 ∧ (b = 2 ∨ b = 4)) ∨ (85 ≤ i ∧ i ≤ 88) → J i b = I i b) : IVt J := by
  refine ⟨fun s hs => ?_, fun s k hs hk => ?_, ?_, fun j hj => ?_, ?_, fun j hj => ?_⟩
  · rw [he 8 s (by omega), he 86 s (by omega)]; exact h.1 s hs
  · rw [he (4 + s) k (by omega), he 85 _ (by omega)]; exact h.2.1 s k hs hk
  · rw [he 9 1 (by omega), he 84 2 (by omega)]; exact h.2.2.1
  · rw [he 10 j (by omega), he 87 j (by omega)]; exact h.2.2.2.1 j hj
  · rw [he 11 1 (by omega), he 84 4 (by omega)]; exact h.2.2.2.2.1
  · rw [he 12 j (by omega), he 88 j (by omega)]; exact h.2.2.2.2.2 j hj
theorem RB.ofc {r : Nat} {I J : Nat → Nat → Int} (h : RB r I) (he : ∀ i b, r ≤ i → i ≤ r + 3 → J i b = I i b) : RB r J := by
  unfold RB at *
  refine ⟨?_, ?_, ?_, ?_, fun s hs => ?_⟩
  · rw [he r 0 (by omega) (by omega)]; exact h.1
  · rw [he r 1 (by omega) (by omega)]; exact h.2.1
  · rw [he r 2 (by omega) (by omega)]; exact h.2.2.1
  · rw [he r 3 (by omega) (by omega)]; exact h.2.2.2.1
  · rw [he (r + 1) s (by omega) (by omega), he (r + 2) s (by omega) (by omega), he (r + 3) s (by omega) (by omega)]; exact h.2.2.2.2 s hs
theorem IVr.of {I J : Nat → Nat → Int} (h : IVr I) (he : ∀ i b, (13 ≤ i ∧ i ≤ 16) ∨ i = 95 → J i b = I i b) : IVr J := by
  refine ⟨?_, fun s hs => ?_⟩
  · rw [he 13 0 (by omega), he 13 1 (by omega), he 13 2 (by omega), he 13 3 (by omega), he 95 0 (by omega), he 95 1 (by omega), he 95 2 (by omega), he 95 3 (by omega)]; exact h.1
  · rw [he 14 s (by omega), he 15 s (by omega), he 16 s (by omega), he 95 _ (by omega), he 95 _ (by omega), he 95 _ (by omega)]; exact h.2 s hs
theorem IVx.of {I J : Nat → Nat → Int} (h : IVx I) (he : ∀ i b, (i = 21 ∧ b = 1) ∨ i = 22 ∨ (i = 84 ∧ b = 10) ∨ i = 93 → J i b = I i b) : IVx J := by
  refine ⟨?_, ?_, fun j hj hj2 => ?_⟩
  · rw [he 21 1 (by omega)]; exact h.1
  · rw [he 84 10 (by omega), he 21 1 (by omega)]; exact h.2.1
  · rw [he 21 1 (by omega)] at hj2
    rw [he 93 j (by omega), he 22 j (by omega)]; exact h.2.2 j hj hj2
theorem IVh.of {I J : Nat → Nat → Int} (h : IVh I) (he : ∀ i b, (76 ≤ i ∧ i ≤ 78) ∨ (i = 84 ∧ b = 25) ∨ i = 100 ∨ i = 101 → J i b = I i b) : IVh J := by
  refine ⟨?_, ?_, fun j hj => ?_⟩
  · rw [he 76 3 (by omega)]; exact h.1
  · rw [he 84 25 (by omega), he 76 3 (by omega)]; exact h.2.1
  · rw [he 100 j (by omega), he 77 j (by omega), he 101 j (by omega), he 78 j (by omega)]; exact h.2.2 j hj
theorem IVy.of {I J : Nat → Nat → Int} {F : Nat → Nat → Nat} (h : IVy I F) (he : ∀ i b, 53 ≤ i ∧ i ≤ 64 → J i b = I i b) : IVy J F :=
  ⟨h.1, h.2.1, fun p h1 h2 => by rw [tup_congr (fun b => he p b ⟨h1, h2⟩)]; exact h.2.2 p h1 h2⟩
theorem CS.ofc {c : Nat} {I J : Nat → Nat → Int} {F : Nat → Nat → Nat} {L : List P5} {wk nx W : Int} (h : CS c I F L wk nx W) (he : ∀ i b, c ≤ i ∧ i ≤ c + 20 → J i b = I i b) : CS c J F L wk nx W := by
  obtain ⟨h1, ⟨h2, h3, h4⟩, h5, h6, h7, h8, h9⟩ := h
  refine ⟨h1, ⟨by rw [he c 2 (by omega)]; exact h2, by rw [he c 3 (by omega)]; exact h3, by rw [he c 4 (by omega)]; exact h4⟩, h5, h6, fun i hi => ?_, h8, fun p p1 p2 => ?_⟩
  · have := h5 i (by omega)
    rw [tup_congr (fun b => he _ b (by omega))]; exact h7 i hi
  · rw [tup_congr (fun b => he _ b (by omega))]; exact h9 p p1 p2
theorem rt_congr {f g : Nat → Int} {p : Nat} (h : ∀ b, b < 60 → f b = g b) (hp : p < 12) : rt f p = rt g p := by
  unfold rt; rw [h _ (by omega), h _ (by omega), h _ (by omega), h _ (by omega), h _ (by omega)]
theorem RS.ofc {I J : Nat → Nat → Int} {L : List P5} {wk nx W : Int} (h : RS I L wk nx W) (he : ∀ b, b < 88 → J 89 b = I 89 b) : RS J L wk nx W := by
  obtain ⟨h1, ⟨h2, h3, h4⟩, h5, h6⟩ := h
  refine ⟨h1, ⟨by rw [he 84 (by omega)]; exact h2, by rw [he 86 (by omega)]; exact h3, by rw [he 85 (by omega)]; exact h4⟩, fun i hi => ?_, h6⟩
  rw [rt_congr (fun b hb => he b (by omega)) (by omega)]; exact h5 i hi
theorem IVc.of {c c' : Nat} {I J : Nat → Nat → Int} {F : Nat → Nat → Nat} {L M : List P5} {wk nx : Int} (h : IVc c I F L M wk nx) (hc : c ≤ c') (he : ∀ i b, (23 ≤ i ∧ i ≤ 43) ∨ (i = 89 ∧ b < 88) → J i b = I i b) : IVc c' J F L M wk nx := by
  obtain ⟨h1, h2, h3, h4, h5, h6, h7, h8⟩ := h
  refine ⟨h1.ofc (fun i b hi => he i b (by omega)), h2.ofc (fun b hb => he 89 b (by omega)), h3, h4, h5, ⟨h6.1, by omega⟩, fun w s hw hs => ?_, ?_⟩
  · rw [he (26 + w) s (by omega), he 89 _ (by omega)]; exact h7 w s hw hs
  · rw [he 23 5 (by omega), he 89 87 (by omega)]; exact h8
theorem CS.F {c : Nat} {I : Nat → Nat → Int} {F F2 : Nat → Nat → Nat} {L : List P5} {wk nx W : Int} (h : CS c I F L wk nx W) (he : ∀ b, F2 (c + 1) b = F (c + 1) b) : CS c I F2 L wk nx W := by
  obtain ⟨h1, h2, h5, h6, h7, h8, h9⟩ := h
  refine ⟨h1, h2, fun i hi => ?_, fun a b ha hb => ?_, fun i hi => ?_, h8, h9⟩
  · rw [he]; exact h5 i hi
  · rw [he, he]; exact h6 a b ha hb
  · rw [he]; exact h7 i hi
theorem gnM_congr {I J : Nat → Nat → Int} (he : ∀ i b, (i = 84 ∧ (b = 2 ∨ b = 4)) ∨ (85 ≤ i ∧ i ≤ 88) ∨ i = 95 → J i b = I i b) (n : Nat) (wk : Int) (M : List P5) (nx : Int) : gnM J n wk M nx = gnM I n wk M nx := by
  unfold gnM
  have e1 : ruM J = ruM I := ruM_congr (funext fun b => he 95 b (by omega))
  have e2 : tnM J = tnM I := by
    unfold tnM; rw [show J 86 = I 86 from funext fun b => he 86 b (by omega), show J 85 = I 85 from funext fun b => he 85 b (by omega)]
  have e3 : kdM J 2 87 = kdM I 2 87 := by
    funext w; unfold kdM; rw [he 84 2 (by omega), he 87 _ (by omega)]
  have e4 : kdM J 4 88 = kdM I 4 88 := by
    funext w; unfold kdM; rw [he 84 4 (by omega), he 88 _ (by omega)]
  rw [e1, e2, e3, e4]
theorem IVm.of {I J : Nat → Nat → Int} {M : List P5} {wk nx : Int} (h : IVm I M wk nx) (he : ∀ i b, (i = 65 ∧ (b = 4 ∨ b = 5)) ∨ i = 72 ∨ (i = 84 ∧ (b = 2 ∨ b = 4)) ∨ (85 ≤ i ∧ i ≤ 88) ∨ i = 95 → J i b = I i b) : IVm J M wk nx := by
  unfold IVm at *
  rw [he 65 5 (by omega), he 65 4 (by omega)]
  rcases h with h | ⟨n, h1, h2, h3, h4⟩
  · exact Or.inl h
  · refine Or.inr ⟨n, h1, h2, ?_, ?_⟩
    · rw [gnM_congr (I := I) (fun i b hi => he i b (by omega))]; exact h3
    · rw [gnM_congr (I := I) (fun i b hi => he i b (by omega))]
      intro i hi
      rw [he 72 i (by omega)]; exact h4 i hi
/-- what a call that tells nothing new leaves as it was -/
def Keep (I J : Nat → Nat → Int) : Prop := ∀ i b, (i ≤ 16 ∨ (i = 21 ∧ b = 1) ∨ i = 22 ∨ (23 ≤ i ∧ i ≤ 43) ∨ (i = 65 ∧ (b = 4 ∨ b = 5)) ∨ i = 72 ∨ (76 ≤ i ∧ i ≤ 78) ∨ (i = 84 ∧ (b = 2 ∨ b = 4 ∨ b = 10 ∨ b = 25)) ∨ (85 ≤ i ∧ i ≤ 88) ∨ (i = 89 ∧ b < 88) ∨ i = 93 ∨ i = 95 ∨ i = 100 ∨ i = 101) → J i b = I i b
theorem Keep.rf {I : Nat → Nat → Int} : Keep I I := fun _ _ _ => rfl
theorem Keep.trans {I J K : Nat → Nat → Int} (h : Keep I J) (h' : Keep J K) : Keep I K := fun i b hi => (h' i b hi).trans (h i b hi)
theorem INV.keep {c c' : Nat} {I J : Nat → Nat → Int} {F F2 : Nat → Nat → Nat} (h : INV c I F) (hc : c ≤ c') (he : Keep I J) (hF : ∀ i b, i ≠ 45 → F2 i b = F i b) (hy : IVy J F2) : INV c' J F2 := by
  obtain ⟨h1, h2, h3, h4, h5, h6, h7, h8, L, M, wk, nx, h9, h10⟩ := h
  refine ⟨fun i j q1 q2 => (hF i j q2).trans (h1 i j q1 q2), h2.ofc (fun i b q1 q2 => he i b (by omega)), h3.of (fun i b q => he i b (by omega)), h4.ofc (fun i b q1 q2 => he i b (by omega)), h5.of (fun i b q => he i b (by omega)), h6.of (fun i b q => he i b (by omega)), h7.of (fun i b q => he i b (by omega)), hy, L, M, wk, nx, ?_, h10.of (fun i b q => he i b (by omega))⟩
  have := h9.of (J := J) hc (fun i b q => he i b (by omega))
  exact ⟨this.1.F (fun b => hF 24 b (by decide)), this.2⟩
theorem INV.up {c c' : Nat} {I : Nat → Nat → Int} {F : Nat → Nat → Nat} (h : INV c I F) (hc : c ≤ c') : INV c' I F := h.keep hc Keep.rf (fun _ _ _ => rfl) h.2.2.2.2.2.2.2.1
theorem INV.tbm {c : Nat} {I : Nat → Nat → Int} {F : Nat → Nat → Nat} (h : INV c I F) : TBM I := by
  have h1 := h.2.1; have h2 := h.2.2.1
  refine ⟨fun s hs => ?_, fun s k hs hk => ?_, ?_, fun j hj => ?_, ?_, fun j hj => ?_⟩
  · rw [← h2.1 s hs]; exact h1.1 s hs
  · rw [← h2.2.1 s k hs hk]; exact h1.2.1 s k hs hk
  · rw [← h2.2.2.1]; exact h1.2.2.1
  · rw [← h2.2.2.2.1 j hj]; exact h1.2.2.2.1 j hj
  · rw [← h2.2.2.2.2.1]; exact h1.2.2.2.2.1
  · rw [← h2.2.2.2.2.2 j hj]; exact h1.2.2.2.2.2 j hj
theorem INV.rbm {c : Nat} {I : Nat → Nat → Int} {F : Nat → Nat → Nat} (h : INV c I F) : RBM I := by
  have h1 := h.2.2.2.1; have h2 := h.2.2.2.2.1
  unfold RB at h1
  refine ⟨?_, ?_, ?_, ?_, fun s hs => ?_⟩
  · rw [← h2.1.1]; exact h1.1
  · rw [← h2.1.2.1]; exact h1.2.1
  · rw [← h2.1.2.2.1]; exact h1.2.2.1
  · rw [← h2.1.2.2.2]; exact h1.2.2.2.1
  · rw [← (h2.2 s hs).1, ← (h2.2 s hs).2.1, ← (h2.2 s hs).2.2]; exact h1.2.2.2.2 s hs
theorem n4_congr {f g : Nat → Int} (h : ∀ s, s < 4 → f s = g s) : n4 f = n4 g := by
  funext s; unfold n4; split
  · rename_i hs; exact h s hs
  · rfl
theorem INV.ru {c : Nat} {I : Nat → Nat → Int} {F : Nat → Nat → Nat} (h : INV c I F) : ruX I 13 = ruM I := by
  have h2 := h.2.2.2.2.1
  unfold ruX ruM
  rw [h2.1.1, h2.1.2.1, h2.1.2.2.1, h2.1.2.2.2, n4_congr (f := I (13 + 1)) (fun s hs => (h2.2 s hs).1), n4_congr (f := I (13 + 2)) (fun s hs => (h2.2 s hs).2.1), n4_congr (f := I (13 + 3)) (fun s hs => (h2.2 s hs).2.2)]
theorem IVt.tn {I : Nat → Nat → Int} (h2 : IVt I) : tnX I = tnM I := by
  unfold tnX tnM
  rw [n4_congr (f := I 8) (fun s hs => h2.1 s hs)]
  congr 1
  funext s k
  split
  · rename_i hs; exact h2.2.1 s k hs.1 hs.2
  · rfl
theorem IVt.kd {I : Nat → Nat → Int} (h2 : IVt I) (hT : TB I) : kdX I 9 10 = kdM I 2 87 ∧ kdX I 11 12 = kdM I 4 88 := by
  refine ⟨funext fun w => ?_, funext fun w => ?_⟩
  · unfold kdX kdM
    rw [← h2.2.2.1]
    split
    · rfl
    · have h1 := hT.2.2.1
      have q2 := Int.emod_lt_of_pos w (show 0 < I 9 1 by omega)
      have q3 := Int.emod_nonneg w (show I 9 1 ≠ 0 by omega)
      exact h2.2.2.2.1 _ (by omega)
  · unfold kdX kdM
    rw [← h2.2.2.2.2.1]
    split
    · rfl
    · have h1 := hT.2.2.2.2.1
      have q2 := Int.emod_lt_of_pos w (show 0 < I 11 1 by omega)
      have q3 := Int.emod_nonneg w (show I 11 1 ≠ 0 by omega)
      exact h2.2.2.2.2.2 _ (by omega)
theorem INV.town {c : Nat} {I J : Nat → Nat → Int} {F : Nat → Nat → Nat} (h : INV c I F) (hT : TB J) (hI : IVt J) (h0 : J 65 5 = 0) (he : ∀ i b, (13 ≤ i ∧ i ≤ 16) ∨ (i = 21 ∧ b = 1) ∨ i = 22 ∨ (23 ≤ i ∧ i ≤ 43) ∨ (53 ≤ i ∧ i ≤ 64) ∨ (76 ≤ i ∧ i ≤ 78) ∨ (i = 84 ∧ (b = 10 ∨ b = 25)) ∨ i = 89 ∨ i = 93 ∨ i = 95 ∨ i = 100 ∨ i = 101 → J i b = I i b) : INV (c + 1) J F := by
  obtain ⟨h1, h2, h3, h4, h5, h6, h7, h8, L, M, wk, nx, h9, h10⟩ := h
  exact ⟨h1, hT, hI, h4.ofc (fun i b q1 q2 => he i b (by omega)), h5.of (fun i b q => he i b (by omega)), h6.of (fun i b q => he i b (by omega)), h7.of (fun i b q => he i b (by omega)), h8.of (fun i b q => he i b (by omega)), L, M, wk, nx, h9.of (by omega) (fun i b q => he i b (by omega)), Or.inl h0⟩
theorem INV.course {c : Nat} {I J : Nat → Nat → Int} {F F2 : Nat → Nat → Nat} {L M : List P5} {wk nx : Int} (h : INV c I F) (hC : IVc (c + 1) J F2 L M wk nx) (h0 : J 65 5 = 0) (hF : ∀ i b, i ≠ 24 → F2 i b = F i b) (he : ∀ i b, i ≤ 16 ∨ (i = 21 ∧ b = 1) ∨ i = 22 ∨ (53 ≤ i ∧ i ≤ 64) ∨ (76 ≤ i ∧ i ≤ 78) ∨ (84 ≤ i ∧ i ≤ 88) ∨ i = 93 ∨ i = 95 ∨ i = 100 ∨ i = 101 → J i b = I i b) : INV (c + 1) J F2 := by
  obtain ⟨h1, h2, h3, h4, h5, h6, h7, h8, _⟩ := h
  refine ⟨fun i j q1 q2 => (hF i j q1).trans (h1 i j q1 q2), h2.ofc (fun i b q1 q2 => he i b (by omega)), h3.of (fun i b q => he i b (by omega)), h4.ofc (fun i b q1 q2 => he i b (by omega)), h5.of (fun i b q => he i b (by omega)), h6.of (fun i b q => he i b (by omega)), h7.of (fun i b q => he i b (by omega)), ?_, L, M, wk, nx, hC, Or.inl h0⟩
  have h8' := h8.of (J := J) (fun i b q => he i b (by omega))
  exact ⟨fun i hi => by rw [hF 45 i (by decide)]; exact h8'.1 i hi, fun a b ha hb => by rw [hF 45 a (by decide), hF 45 b (by decide)]; exact h8'.2.1 a b ha hb, h8'.2.2⟩
/-- the list may be laid in another order by the one -/
theorem INV.order {c : Nat} {I J : Nat → Nat → Int} {F F2 : Nat → Nat → Nat} (h : INV c I F) (hK : Keep I J) (hy : IVy J F) (hF : ∀ i b, i ≠ 24 → F2 i b = F i b) (hL : ∀ L wk nx W, CS 23 I F L wk nx W → Nq L nx → ∃ L', L'.Perm L ∧ CS 23 I F2 L' wk nx W) : INV (c + 1) J F2 := by
  obtain ⟨h1, h2, h3, h4, h5, h6, h7, h8, L, M, wk, nx, h9, h10⟩ := h
  obtain ⟨L', hp, hC⟩ := hL L wk nx _ h9.1 h9.2.2.2.1
  have h9' : IVc (c + 1) I F2 L' M wk nx := by
    obtain ⟨c1, c2, c3, c4, c5, c6, c7, c8⟩ := h9
    exact ⟨hC, c2, hp.trans c3, c4.perm hp.symm, c5, ⟨c6.1, by omega⟩, c7, c8⟩
  refine ⟨fun i j q1 q2 => (hF i j q1).trans (h1 i j q1 q2), h2.ofc (fun i b q1 q2 => hK i b (by omega)), h3.of (fun i b q => hK i b (by omega)), h4.ofc (fun i b q1 q2 => hK i b (by omega)), h5.of (fun i b q => hK i b (by omega)), h6.of (fun i b q => hK i b (by omega)), h7.of (fun i b q => hK i b (by omega)), ?_, L', M, wk, nx, h9'.of (Nat.le_refl _) (fun i b q => hK i b (by omega)), h10.of (fun i b q => hK i b (by omega))⟩
  exact ⟨fun i hi => by rw [hF 45 i (by decide)]; exact hy.1 i hi, fun a b ha hb => by rw [hF 45 a (by decide), hF 45 b (by decide)]; exact hy.2.1 a b ha hb, hy.2.2⟩
theorem INV.text {c : Nat} {I J : Nat → Nat → Int} {F : Nat → Nat → Nat} (h : INV c I F) (hX : IVx J) (he : ∀ i b, i ≤ 16 ∨ (23 ≤ i ∧ i ≤ 43) ∨ (53 ≤ i ∧ i ≤ 64) ∨ (i = 65 ∧ (b = 4 ∨ b = 5)) ∨ i = 72 ∨ (76 ≤ i ∧ i ≤ 78) ∨ (i = 84 ∧ (b = 2 ∨ b = 4 ∨ b = 25)) ∨ (85 ≤ i ∧ i ≤ 88) ∨ (i = 89 ∧ b < 88) ∨ i = 95 ∨ i = 100 ∨ i = 101 → J i b = I i b) : INV (c + 1) J F := by
  obtain ⟨h1, h2, h3, h4, h5, h6, h7, h8, L, M, wk, nx, h9, h10⟩ := h
  exact ⟨h1, h2.ofc (fun i b q1 q2 => he i b (by omega)), h3.of (fun i b q => he i b (by omega)), h4.ofc (fun i b q1 q2 => he i b (by omega)), h5.of (fun i b q => he i b (by omega)), hX, h7.of (fun i b q => he i b (by omega)), h8.of (fun i b q => he i b (by omega)), L, M, wk, nx, h9.of (by omega) (fun i b q => he i b (by omega)), h10.of (fun i b q => he i b (by omega))⟩
theorem INV.hold {c : Nat} {I J : Nat → Nat → Int} {F : Nat → Nat → Nat} (h : INV c I F) (hX : IVh J) (he : ∀ i b, i ≤ 16 ∨ (i = 21 ∧ b = 1) ∨ i = 22 ∨ (23 ≤ i ∧ i ≤ 43) ∨ (53 ≤ i ∧ i ≤ 64) ∨ (i = 65 ∧ (b = 4 ∨ b = 5)) ∨ i = 72 ∨ (i = 84 ∧ (b = 2 ∨ b = 4 ∨ b = 10)) ∨ (85 ≤ i ∧ i ≤ 88) ∨ (i = 89 ∧ b < 88) ∨ i = 93 ∨ i = 95 → J i b = I i b) : INV (c + 1) J F := by
  obtain ⟨h1, h2, h3, h4, h5, h6, h7, h8, L, M, wk, nx, h9, h10⟩ := h
  exact ⟨h1, h2.ofc (fun i b q1 q2 => he i b (by omega)), h3.of (fun i b q => he i b (by omega)), h4.ofc (fun i b q1 q2 => he i b (by omega)), h5.of (fun i b q => he i b (by omega)), h6.of (fun i b q => he i b (by omega)), hX, h8.of (fun i b q => he i b (by omega)), L, M, wk, nx, h9.of (by omega) (fun i b q => he i b (by omega)), h10.of (fun i b q => he i b (by omega))⟩
