-- texts: tokens, words and numbers
def lkT (z : Int) : Nat := if 97 ≤ z ∧ z ≤ 122 then 1 else if 48 ≤ z ∧ z ≤ 57 then 2 else 0
def skT (f : Nat → Int) (n : Nat) : Nat → Nat → Nat
  | 0, p => p
  | u + 1, p => if p < n ∧ f p = 32 then skT f n u (p + 1) else p
def rnT (f : Nat → Int) (n l : Nat) : Nat → Nat → Nat
  | 0, p => p
  | u + 1, p => if p < n ∧ lkT (f p) = l then rnT f n l u (p + 1) else p
def tsT (f : Nat → Int) (n p : Nat) : Nat := skT f n (n - p) p
def tlT (f : Nat → Int) (n p : Nat) : Nat := if tsT f n p < n then lkT (f (tsT f n p)) else 0
def teT (f : Nat → Int) (n p : Nat) : Nat := if tsT f n p < n then (if tlT f n p = 0 then tsT f n p + 1 else rnT f n (tlT f n p) (n - (tsT f n p + 1)) (tsT f n p + 1)) else tsT f n p
def vlT (f : Nat → Int) (s : Nat) : Nat → Int
  | 0 => 0
  | k + 1 => 27 * vlT f s k + f (s + k) - 96
def nvT (f : Nat → Int) (s : Nat) : Nat → Int
  | 0 => 0
  | k + 1 => 10 * nvT f s k + f (s + k) - 48
def tkT (f : Nat → Int) (n p : Nat) : Int :=
  if tsT f n p < n then (if tlT f n p = 1 then (if teT f n p - tsT f n p ≤ 9 then vlT f (tsT f n p) (teT f n p - tsT f n p) else -4) else if tlT f n p = 2 then (if teT f n p - tsT f n p ≤ 2 then -1 else -4) else if f (tsT f n p) = 59 then -3 else -4) else -2
def nmT (f : Nat → Int) (n p : Nat) : Int := nvT f (tsT f n p) (teT f n p - tsT f n p)
section TX
variable {f : Nat → Int} {n : Nat}
theorem lk_le (z : Int) : lkT z ≤ 2 := by unfold lkT; split <;> (try split) <;> omega
theorem lk_1 {z : Int} : lkT z = 1 ↔ 97 ≤ z ∧ z ≤ 122 := by unfold lkT; split <;> (try split) <;> omega
theorem lk_2 {z : Int} : lkT z = 2 ↔ 48 ≤ z ∧ z ≤ 57 := by unfold lkT; split <;> (try split) <;> omega
theorem sk_bd : ∀ (u p : Nat), p ≤ skT f n u p ∧ skT f n u p ≤ p + u
  | 0, p => ⟨Nat.le_refl _, Nat.le_refl _⟩
  | u + 1, p => by
    have := sk_bd u (p + 1)
    rw [skT]; split <;> omega
theorem rn_bd {l : Nat} : ∀ (u p : Nat), p ≤ rnT f n l u p ∧ rnT f n l u p ≤ p + u
  | 0, p => ⟨Nat.le_refl _, Nat.le_refl _⟩
  | u + 1, p => by
    have := rn_bd (l := l) u (p + 1)
    rw [rnT]; split <;> omega
theorem rn_all {l : Nat} : ∀ (u p i : Nat), p ≤ i → i < rnT f n l u p → lkT (f i) = l
  | 0, p, i, h1, h2 => by rw [rnT] at h2; omega
  | u + 1, p, i, h1, h2 => by
    rw [rnT] at h2
    by_cases e : p < n ∧ lkT (f p) = l
    · rw [if_pos e] at h2
      by_cases e2 : i = p
      · rw [e2]; exact e.2
      · exact rn_all u (p + 1) i (by omega) h2
    · rw [if_neg e] at h2; omega
theorem ts_bd {p : Nat} (hp : p ≤ n) : p ≤ tsT f n p ∧ tsT f n p ≤ n := by
  have := sk_bd (f := f) (n := n) (n - p) p
  unfold tsT; omega
theorem te_bd {p : Nat} (hp : p ≤ n) : tsT f n p ≤ teT f n p ∧ teT f n p ≤ n := by
  have h1 := ts_bd (f := f) hp
  unfold teT
  split
  · split
    · omega
    · have := rn_bd (f := f) (n := n) (l := tlT f n p) (n - (tsT f n p + 1)) (tsT f n p + 1)
      omega
  · omega
theorem te_lt {p : Nat} (h : tsT f n p < n) : tsT f n p < teT f n p := by
  unfold teT
  rw [if_pos h]
  split
  · omega
  · have := rn_bd (f := f) (n := n) (l := tlT f n p) (n - (tsT f n p + 1)) (tsT f n p + 1)
    omega
theorem tok_all {p i : Nat} (hl : tlT f n p ≠ 0) (hi : i < teT f n p - tsT f n p) : lkT (f (tsT f n p + i)) = tlT f n p := by
  have hlt : tsT f n p < n := by
    rcases Nat.lt_or_ge (tsT f n p) n with h | h
    · exact h
    · exfalso; apply hl; unfold tlT; rw [if_neg (by omega)]
  by_cases e : i = 0
  · rw [e, Nat.add_zero]; unfold tlT; rw [if_pos hlt]
  · unfold teT at hi
    rw [if_pos hlt, if_neg hl] at hi
    exact rn_all (n := n) (n - (tsT f n p + 1)) (tsT f n p + 1) (tsT f n p + i) (by omega) (by omega)
theorem tok_0 {p : Nat} (hlt : tsT f n p < n) (hl : tlT f n p = 0) : teT f n p = tsT f n p + 1 := by
  unfold teT; rw [if_pos hlt, if_pos hl]
theorem vl_pos {f : Nat → Int} {s : Nat} : ∀ (k : Nat), (∀ i, i < k → 97 ≤ f (s + i)) → 0 ≤ vlT f s k ∧ (0 < k → 0 < vlT f s k)
  | 0, _ => ⟨Int.le_refl _, fun h => by omega⟩
  | k + 1, h => by
    have h1 := vl_pos k (fun i hi => h i (by omega))
    have h2 := h k (by omega)
    rw [vlT]
    exact ⟨by omega, fun _ => by omega⟩
theorem vl_inj {f g : Nat → Int} {s : Nat} : ∀ (k l : Nat), (∀ i, i < k → 97 ≤ f (s + i) ∧ f (s + i) ≤ 122) → (∀ i, i < l → 97 ≤ g i ∧ g i ≤ 122) → (vlT f s k = vlT g 0 l ↔ k = l ∧ ∀ i, i < k → f (s + i) = g i)
  | 0, 0, _, _ => ⟨fun _ => ⟨rfl, fun i hi => by omega⟩, fun _ => rfl⟩
  | 0, l + 1, _, hg => by
    have h1 := (vl_pos (f := g) (s := 0) (l + 1) (fun i hi => by rw [Nat.zero_add]; exact (hg i hi).1)).2 (by omega)
    constructor
    · intro e; rw [← e] at h1; simp [vlT] at h1
    · rintro ⟨e, _⟩; omega
  | k + 1, 0, hf, _ => by
    have h1 := (vl_pos (f := f) (s := s) (k + 1) (fun i hi => (hf i hi).1)).2 (by omega)
    constructor
    · intro e; rw [e] at h1; simp [vlT] at h1
    · rintro ⟨e, _⟩; omega
  | k + 1, l + 1, hf, hg => by
    have ih := vl_inj k l (fun i hi => hf i (by omega)) (fun i hi => hg i (by omega))
    have h1 := hf k (by omega)
    have h2 := hg l (by omega)
    rw [vlT, vlT, Nat.zero_add]
    constructor
    · intro e
      have e1 : vlT f s k = vlT g 0 l := by omega
      obtain ⟨e2, e3⟩ := ih.mp e1
      subst e2
      refine ⟨rfl, fun i hi => ?_⟩
      by_cases q : i = k
      · rw [q]; omega
      · exact e3 i (by omega)
    · rintro ⟨e, e3⟩
      have e : k = l := by omega
      subst e
      have := ih.mpr ⟨rfl, fun i hi => e3 i (by omega)⟩
      have := e3 k (by omega)
      omega
theorem vl_bd {f : Nat → Int} {s : Nat} : ∀ (k : Nat), (∀ i, i < k → 97 ≤ f (s + i) ∧ f (s + i) ≤ 122) → 0 ≤ vlT f s k ∧ vlT f s k < 27 ^ k
  | 0, _ => by simp [vlT]
  | k + 1, h => by
    have h1 := vl_bd k (fun i hi => h i (by omega))
    have h2 := h k (by omega)
    rw [vlT, Int.pow_succ]
    omega
theorem pow27 {k : Nat} (hk : k ≤ 9) : (27 : Int) ^ k ≤ 7625597484987 := by
  have : ∀ k : Fin 10, (27 : Int) ^ k.val ≤ 7625597484987 := by decide +kernel
  exact this ⟨k, by omega⟩
theorem nv_bd {f : Nat → Int} {s : Nat} : ∀ (k : Nat), (∀ i, i < k → 48 ≤ f (s + i) ∧ f (s + i) ≤ 57) → 0 ≤ nvT f s k ∧ nvT f s k < 10 ^ k
  | 0, _ => by simp [nvT]
  | k + 1, h => by
    have h1 := nv_bd k (fun i hi => h i (by omega))
    have h2 := h k (by omega)
    rw [nvT, Int.pow_succ]
    omega
theorem tk_bd (p : Nat) : -4 ≤ tkT f n p ∧ tkT f n p < 7625597484987 := by
  unfold tkT
  split
  · split
    · rename_i h1 h2
      split
      · rename_i h3
        have := vl_bd (f := f) (s := tsT f n p) (teT f n p - tsT f n p) (fun i hi => lk_1.mp (by rw [tok_all (by omega) hi]; exact h2))
        have := pow27 h3
        omega
      · omega
    · split
      · split <;> omega
      · split <;> omega
  · omega
/-- what a word counts as -/
def pcT (i : Nat) : Int := if i = 14 then -3 else vlT (wcT i) 0 (wlT i)
theorem wd_let : ∀ i : Fin 14, (3 ≤ wlT i.val) ∧ ∀ j : Fin 6, j.val < wlT i.val → 97 ≤ wcT i.val j.val ∧ wcT i.val j.val ≤ 122 := by decide +kernel
theorem wd_14 : wlT 14 = 1 ∧ wcT 14 0 = 59 := by decide +kernel
theorem pc_lit : pcT 0 = 8328978 ∧ pcT 1 = 400577 ∧ pcT 2 = 279346 ∧ pcT 3 = 237742039 ∧ pcT 4 = 286651 ∧ pcT 5 = 399641 ∧ pcT 6 = 4027 ∧ pcT 7 = 40187 ∧ pcT 8 = 388609 ∧ pcT 9 = 151331 ∧ pcT 10 = 16819 ∧ pcT 11 = 1132 ∧ pcT 12 = 1503 ∧ pcT 13 = 119163 ∧ pcT 14 = -3 := by decide +kernel
theorem pass_tk {p i : Nat} (hi : i < 15) : ((teT f n p - tsT f n p = wlT i ∧ ∀ j, j < wlT i → f (tsT f n p + j) = wcT i j) ↔ tkT f n p = pcT i) := by
  by_cases h14 : i = 14
  · subst h14
    rw [wd_14.1, pc_lit.2.2.2.2.2.2.2.2.2.2.2.2.2.2]
    constructor
    · rintro ⟨h1, h2⟩
      have h3 := h2 0 (by omega)
      rw [wd_14.2, Nat.add_zero] at h3
      have hlt : tsT f n p < n := by
        rcases Nat.lt_or_ge (tsT f n p) n with h | h
        · exact h
        · unfold teT at h1; rw [if_neg (by omega)] at h1; omega
      have hl : tlT f n p = 0 := by unfold tlT lkT; rw [if_pos hlt, h3]; decide
      unfold tkT
      rw [if_pos hlt, hl, if_neg (by decide), if_neg (by decide), if_pos h3]
    · intro h
      unfold tkT at h
      by_cases hlt : tsT f n p < n
      · rw [if_pos hlt] at h
        by_cases h1 : tlT f n p = 1
        · rw [if_pos h1] at h
          exfalso
          split at h
          · have := vl_bd (f := f) (s := tsT f n p) (teT f n p - tsT f n p) (fun i hi => lk_1.mp (by rw [tok_all (by omega) hi]; exact h1))
            omega
          · omega
        · rw [if_neg h1] at h
          by_cases h2 : tlT f n p = 2
          · rw [if_pos h2] at h
            exfalso
            split at h <;> omega
          · rw [if_neg h2] at h
            have h0 : tlT f n p = 0 := by
              have := lk_le (f (tsT f n p))
              unfold tlT at h1 h2 ⊢
              rw [if_pos hlt] at h1 h2 ⊢
              omega
            by_cases h3 : f (tsT f n p) = 59
            · refine ⟨by rw [tok_0 hlt h0]; omega, fun j hj => ?_⟩
              rw [show j = 0 by omega, Nat.add_zero, h3, wd_14.2]
            · rw [if_neg h3] at h; omega
      · rw [if_neg hlt] at h; omega
  · have hw := wd_let ⟨i, by omega⟩
    have hl6 := wl_all ⟨i, hi⟩
    simp only [] at hw hl6
    have hg : ∀ j, j < wlT i → 97 ≤ wcT i j ∧ wcT i j ≤ 122 := fun j hj => hw.2 ⟨j, by omega⟩ hj
    have hpc : pcT i = vlT (wcT i) 0 (wlT i) := by unfold pcT; rw [if_neg h14]
    have hpos := (vl_pos (f := wcT i) (s := 0) (wlT i) (fun j hj => by rw [Nat.zero_add]; exact (hg j hj).1)).2 (by omega)
    rw [hpc]
    by_cases hlt : tsT f n p < n
    · by_cases h1 : tlT f n p = 1
      · have hf : ∀ j, j < teT f n p - tsT f n p → 97 ≤ f (tsT f n p + j) ∧ f (tsT f n p + j) ≤ 122 := fun j hj => lk_1.mp (by rw [tok_all (by omega) hj]; exact h1)
        have hv := vl_inj (f := f) (g := wcT i) (s := tsT f n p) (teT f n p - tsT f n p) (wlT i) hf hg
        unfold tkT
        rw [if_pos hlt, if_pos h1]
        by_cases h9 : teT f n p - tsT f n p ≤ 9
        · rw [if_pos h9, hv]
          constructor
          · rintro ⟨e, e2⟩; exact ⟨e, fun j hj => e2 j (by omega)⟩
          · rintro ⟨e, e2⟩; exact ⟨e, fun j hj => e2 j (by omega)⟩
        · rw [if_neg h9]
          constructor
          · rintro ⟨e, _⟩; omega
          · intro e; omega
      · have hne : tkT f n p < 0 := by
          unfold tkT
          rw [if_pos hlt, if_neg h1]
          split
          · split <;> omega
          · split <;> omega
        constructor
        · rintro ⟨e, e2⟩
          exfalso
          have h3 := e2 0 (by omega)
          have h4 := hg 0 (by omega)
          rw [← h3, Nat.add_zero] at h4
          apply h1
          unfold tlT
          rw [if_pos hlt]
          exact lk_1.mpr h4
        · intro e; omega
    · have hne : tkT f n p = -2 := by unfold tkT; rw [if_neg hlt]
      constructor
      · rintro ⟨e, _⟩
        unfold teT at e; rw [if_neg hlt] at e; omega
      · intro e; omega
theorem tk_end {p : Nat} (hp : p ≤ n) : tkT f n p = -2 ↔ tsT f n p = n := by
  have hb := ts_bd (f := f) hp
  unfold tkT
  by_cases hlt : tsT f n p < n
  · rw [if_pos hlt]
    constructor
    · intro h
      exfalso
      split at h
      · rename_i h1
        split at h
        · have := vl_bd (f := f) (s := tsT f n p) (teT f n p - tsT f n p) (fun i hi => lk_1.mp (by rw [tok_all (by omega) hi]; exact h1))
          omega
        · omega
      · split at h
        · split at h <;> omega
        · split at h <;> omega
    · intro h; omega
  · rw [if_neg hlt]
    exact ⟨fun _ => by omega, fun _ => rfl⟩
theorem tk_num {p : Nat} : tkT f n p = -1 ↔ tlT f n p = 2 ∧ teT f n p - tsT f n p ≤ 2 := by
  unfold tkT
  by_cases hlt : tsT f n p < n
  · rw [if_pos hlt]
    by_cases h1 : tlT f n p = 1
    · rw [if_pos h1]
      constructor
      · intro h
        exfalso
        split at h
        · have := vl_bd (f := f) (s := tsT f n p) (teT f n p - tsT f n p) (fun i hi => lk_1.mp (by rw [tok_all (by omega) hi]; exact h1))
          omega
        · omega
      · rintro ⟨h, _⟩; omega
    · rw [if_neg h1]
      by_cases h2 : tlT f n p = 2
      · rw [if_pos h2]
        by_cases h3 : teT f n p - tsT f n p ≤ 2
        · rw [if_pos h3]; exact ⟨fun _ => ⟨h2, h3⟩, fun _ => rfl⟩
        · rw [if_neg h3]; exact ⟨fun h => by omega, fun h => by omega⟩
      · rw [if_neg h2]
        constructor
        · intro h; exfalso; split at h <;> omega
        · rintro ⟨h, _⟩; omega
  · rw [if_neg hlt]
    constructor
    · intro h; omega
    · rintro ⟨h, _⟩; unfold tlT at h; rw [if_neg hlt] at h; omega
theorem nm_bd {p : Nat} (h : tkT f n p = -1) : 0 ≤ nmT f n p ∧ nmT f n p ≤ 99 := by
  obtain ⟨h1, h2⟩ := tk_num.mp h
  have := nv_bd (f := f) (s := tsT f n p) (teT f n p - tsT f n p) (fun i hi => lk_2.mp (by rw [tok_all (by omega) hi]; exact h1))
  have h3 : (10 : Int) ^ (teT f n p - tsT f n p) ≤ 100 := by
    rcases (show teT f n p - tsT f n p = 0 ∨ teT f n p - tsT f n p = 1 ∨ teT f n p - tsT f n p = 2 by omega) with e | e | e <;> rw [e] <;> decide
  unfold nmT
  omega
end TX
-- the reader: an element of the left says where the fault is
abbrev RdT : Type := Nat ⊕ (Nat × (Nat → Int))
def upR (r : Nat → Int) (k : Nat) (v : Int) : Nat → Int := fun j => if j = k then v else r j
def chT (f : Nat → Int) (n p : Nat) (a b c : Int) : Int := if tkT f n p = a then 0 else if tkT f n p = b then 1 else if tkT f n p = c then 2 else -1
def nuT (f : Nat → Int) (n p : Nat) (most : Int) : Int := if tkT f n p = -1 ∧ nmT f n p ≤ most then nmT f n p else -1
def oneT (f : Nat → Int) (n p : Nat) (r : Nat → Int) (k : Nat) (v : Int) : RdT := if v = -1 then .inl (tsT f n p) else .inr (teT f n p, upR r k v)
def up3 (r : Nat → Int) (s : Nat) (a b c : Int) : Nat → Int := upR (upR (upR r (4 + 3 * s) a) (4 + 3 * s + 1) b) (4 + 3 * s + 2) c
def wyD (f : Nat → Int) (n p : Nat) (r : Nat → Int) (s : Nat) (b : Int) (v : Int) : RdT := if v = -1 then .inl (tsT f n p) else .inr (teT f n p, up3 r s 2 b v)
def wyC (f : Nat → Int) (n p : Nat) (r : Nat → Int) (s : Nat) (c v : Int) : RdT := if v = -1 then .inl (tsT f n p) else if c = 1 then .inr (teT f n p, up3 r s 1 v 0) else wyD f n (teT f n p) r s v (nuT f n (teT f n p) 9)
def wyB (f : Nat → Int) (n p : Nat) (r : Nat → Int) (s : Nat) (c : Int) : RdT := if c = -1 then .inl (tsT f n p) else if c = 0 then .inr (teT f n p, up3 r s 0 0 0) else wyC f n (teT f n p) r s c (nuT f n (teT f n p) 99)
def wyA (f : Nat → Int) (n p : Nat) (r : Nat → Int) (s : Int) : RdT := if s = -1 then .inl (tsT f n p) else wyB f n (teT f n p) r s.toNat (chT f n (teT f n p) (pcT 11) (pcT 12) (pcT 13))
def lnT (f : Nat → Int) (n p : Nat) (r : Nat → Int) : RdT :=
  if tkT f n p = pcT 0 then oneT f n (teT f n p) r 0 (chT f n (teT f n p) (pcT 1) (pcT 2) (pcT 3))
  else if tkT f n p = pcT 4 then oneT f n (teT f n p) r 1 (nuT f n (teT f n p) 9)
  else if tkT f n p = pcT 5 then oneT f n (teT f n p) r 2 (chT f n (teT f n p) (pcT 6) (pcT 7) (pcT 8))
  else if tkT f n p = pcT 9 then oneT f n (teT f n p) r 3 (nuT f n (teT f n p) 9)
  else if tkT f n p = pcT 10 then wyA f n (teT f n p) r (nuT f n (teT f n p) 3)
  else .inl (tsT f n p)
def goT (f : Nat → Int) (n k : Nat) (next : Nat → (Nat → Int) → RdT) : RdT → RdT
  | .inl q => .inl q
  | .inr (p, r) => if tkT f n p = -2 then .inr (k, r) else if k = 12 ∨ tkT f n p ≠ -3 then .inl (tsT f n p) else next (teT f n p) r
def rdT (f : Nat → Int) (n : Nat) : Nat → Nat → Nat → (Nat → Int) → RdT
  | 0, _, p, _ => .inl (tsT f n p)
  | u + 1, k, p, r => goT f n k (rdT f n u (k + 1)) (lnT f n p r)
def r0T : Nat → Int := fun k => if k = 1 then 2 else if k = 3 then 1 else 0
/-- a text read from its beginning -/
def allT (f : Nat → Int) (n : Nat) : RdT := rdT f n 12 1 0 r0T
section TY
variable {f : Nat → Int} {n : Nat}
theorem ch_bd (p : Nat) (a b c : Int) : -1 ≤ chT f n p a b c ∧ chT f n p a b c ≤ 2 := by unfold chT; split <;> (try split) <;> (try split) <;> omega
theorem nu_bd {p : Nat} {most : Int} (hm : 0 ≤ most) : -1 ≤ nuT f n p most ∧ nuT f n p most ≤ most ∧ nuT f n p most ≤ 99 := by
  unfold nuT
  split
  · rename_i h
    have := nm_bd h.1
    omega
  · omega
/-- rules that may stand -/
def RBr (r : Nat → Int) : Prop := (0 ≤ r 0 ∧ r 0 ≤ 2) ∧ (0 ≤ r 1 ∧ r 1 ≤ 9) ∧ (0 ≤ r 2 ∧ r 2 ≤ 2) ∧ (0 ≤ r 3 ∧ r 3 ≤ 9) ∧ ∀ s, s < 4 → (0 ≤ r (4 + 3 * s) ∧ r (4 + 3 * s) ≤ 2) ∧ (0 ≤ r (5 + 3 * s) ∧ r (5 + 3 * s) ≤ 99) ∧ (0 ≤ r (6 + 3 * s) ∧ r (6 + 3 * s) ≤ 9)
theorem RBr.up {r : Nat → Int} (h : RBr r) {k : Nat} {v : Int} (hk : k < 4) (hv : 0 ≤ v ∧ v ≤ 9) (h2 : k = 0 ∨ k = 2 → v ≤ 2) : RBr (upR r k v) := by
  obtain ⟨a, b, c, d, e⟩ := h
  have hu : ∀ j, upR r k v j = if j = k then v else r j := fun _ => rfl
  refine ⟨?_, ?_, ?_, ?_, fun s hs => ?_⟩
  · rw [hu]; split <;> omega
  · rw [hu]; split <;> omega
  · rw [hu]; split <;> omega
  · rw [hu]; split <;> omega
  · rw [hu, hu, hu, if_neg (by omega), if_neg (by omega), if_neg (by omega)]; exact e s hs
theorem up3_at (r : Nat → Int) (s : Nat) (a b c : Int) : up3 r s a b c (4 + 3 * s) = a ∧ up3 r s a b c (5 + 3 * s) = b ∧ up3 r s a b c (6 + 3 * s) = c ∧ ∀ k, (k < 4 + 3 * s ∨ 6 + 3 * s < k) → up3 r s a b c k = r k := by
  have hu : ∀ (r : Nat → Int) (k : Nat) (v : Int) (j : Nat), upR r k v j = if j = k then v else r j := fun _ _ _ _ => rfl
  unfold up3
  refine ⟨?_, ?_, ?_, fun k hk => ?_⟩
  · rw [hu, if_neg (by omega), hu, if_neg (by omega), hu, if_pos rfl]
  · rw [hu, if_neg (by omega), hu, if_pos (by omega)]
  · rw [hu, if_pos (by omega)]
  · rw [hu, if_neg (by omega), hu, if_neg (by omega), hu, if_neg (by omega)]
theorem RBr.up3 {r : Nat → Int} (h : RBr r) {s : Nat} {a b c : Int} (hs : s < 4) (ha : 0 ≤ a ∧ a ≤ 2) (hb : 0 ≤ b ∧ b ≤ 99) (hc : 0 ≤ c ∧ c ≤ 9) : RBr (up3 r s a b c) := by
  obtain ⟨h1, h2, h3, h4, h5⟩ := h
  obtain ⟨e1, e2, e3, e4⟩ := up3_at r s a b c
  refine ⟨by rw [e4 0 (by omega)]; exact h1, by rw [e4 1 (by omega)]; exact h2, by rw [e4 2 (by omega)]; exact h3, by rw [e4 3 (by omega)]; exact h4, fun s' hs' => ?_⟩
  by_cases q : s' = s
  · rw [q, e1, e2, e3]; exact ⟨ha, hb, hc⟩
  · rw [e4 _ (by omega), e4 _ (by omega), e4 _ (by omega)]; exact h5 s' hs'
theorem RBr.zero : RBr r0T := by
  refine ⟨by decide, by decide, by decide, by decide, fun s hs => ?_⟩
  have e : ∀ j, 4 ≤ j → r0T j = 0 := fun j hj => by
    show (if j = 1 then 2 else if j = 3 then 1 else 0 : Int) = 0
    rw [if_neg (by omega), if_neg (by omega)]
  rw [e _ (by omega), e _ (by omega), e _ (by omega)]
  decide
end TY
