abbrev P5 : Type := Int × Int × Int × Int × Int
/-- a person's cell: sort, number, points, noes, waited -/
def tup (I : Nat → Nat → Int) (p : Nat) : P5 := (I p 0, I p 1, I p 2, I p 3, I p 4)
def pt (I : Nat → Nat → Int) (p : Nat) (t : P5) : Nat → Nat → Int := fun a b => if a = p then (if b = 0 then t.1 else if b = 1 then t.2.1 else if b = 2 then t.2.2.1 else if b = 3 then t.2.2.2.1 else if b = 4 then t.2.2.2.2 else I a b) else I a b
theorem pt_u0 (I : Nat → Nat → Int) (p : Nat) (v : Int) : ab_u I p 0 v = pt I p (v, I p 1, I p 2, I p 3, I p 4) := by
  funext a b; unfold ab_u pt; (repeat' split) <;> first | rfl | (exfalso; omega) | (subst_vars; rfl)
theorem pt_u1 (I : Nat → Nat → Int) (p : Nat) (v : Int) : ab_u I p 1 v = pt I p (I p 0, v, I p 2, I p 3, I p 4) := by
  funext a b; unfold ab_u pt; (repeat' split) <;> first | rfl | (exfalso; omega) | (subst_vars; rfl)
theorem pt_u2 (I : Nat → Nat → Int) (p : Nat) (v : Int) : ab_u I p 2 v = pt I p (I p 0, I p 1, v, I p 3, I p 4) := by
  funext a b; unfold ab_u pt; (repeat' split) <;> first | rfl | (exfalso; omega) | (subst_vars; rfl)
theorem pt_u3 (I : Nat → Nat → Int) (p : Nat) (v : Int) : ab_u I p 3 v = pt I p (I p 0, I p 1, I p 2, v, I p 4) := by
  funext a b; unfold ab_u pt; (repeat' split) <;> first | rfl | (exfalso; omega) | (subst_vars; rfl)
theorem pt_u4 (I : Nat → Nat → Int) (p : Nat) (v : Int) : ab_u I p 4 v = pt I p (I p 0, I p 1, I p 2, I p 3, v) := by
  funext a b; unfold ab_u pt; (repeat' split) <;> first | rfl | (exfalso; omega) | (subst_vars; rfl)
theorem pt_pt (I : Nat → Nat → Int) (p : Nat) (t u : P5) : pt (pt I p t) p u = pt I p u := by
  funext a b; unfold pt; (repeat' split) <;> first | rfl | (exfalso; omega)
theorem pt_0 (I : Nat → Nat → Int) (p : Nat) (t : P5) : pt I p t p 0 = t.1 := by simp [pt]
theorem pt_1 (I : Nat → Nat → Int) (p : Nat) (t : P5) : pt I p t p 1 = t.2.1 := by simp [pt]
theorem pt_2 (I : Nat → Nat → Int) (p : Nat) (t : P5) : pt I p t p 2 = t.2.2.1 := by simp [pt]
theorem pt_3 (I : Nat → Nat → Int) (p : Nat) (t : P5) : pt I p t p 3 = t.2.2.2.1 := by simp [pt]
theorem pt_4 (I : Nat → Nat → Int) (p : Nat) (t : P5) : pt I p t p 4 = t.2.2.2.2 := by simp [pt]
theorem pt_ne {I : Nat → Nat → Int} {p a b : Nat} {t : P5} (h : a ≠ p) : pt I p t a b = I a b := by unfold pt; rw [if_neg h]
theorem tup_pt (I : Nat → Nat → Int) (p : Nat) (t : P5) : tup (pt I p t) p = t := by unfold tup; rw [pt_0, pt_1, pt_2, pt_3, pt_4]
theorem tup_ne {I : Nat → Nat → Int} {p q : Nat} {t : P5} (h : q ≠ p) : tup (pt I p t) q = tup I q := by unfold tup; rw [pt_ne h, pt_ne h, pt_ne h, pt_ne h, pt_ne h]
theorem tup_u {I : Nat → Nat → Int} {i j q : Nat} {v : Int} (h : q ≠ i) : tup (ab_u I i j v) q = tup I q := by unfold tup; rw [ab_u_i h, ab_u_i h, ab_u_i h, ab_u_i h, ab_u_i h]
theorem pt_comm {I : Nat → Nat → Int} {p i j : Nat} {t : P5} {v : Int} (h : i ≠ p) : ab_u (pt I p t) i j v = pt (ab_u I i j v) p t := by
  funext a b
  by_cases h1 : a = i
  · subst h1
    by_cases h2 : b = j <;> simp [ab_u, pt, h, h2]
  · have h3 : ¬ p = i := fun e => h e.symm
    by_cases h2 : a = p <;> simp [ab_u, pt, h1, h2, h3]
/-- a row of references, replaced -/
def rw_ (F : Nat → Nat → Nat) (i : Nat) (g : Nat → Nat) : Nat → Nat → Nat := fun a b => if a = i then g b else F a b
theorem rw_s (F : Nat → Nat → Nat) (i : Nat) (g : Nat → Nat) (b : Nat) : rw_ F i g i b = g b := if_pos rfl
theorem rw_n {F : Nat → Nat → Nat} {i a b : Nat} {g : Nat → Nat} (h : a ≠ i) : rw_ F i g a b = F a b := if_neg h
theorem rw_rw (F : Nat → Nat → Nat) (i : Nat) (g g' : Nat → Nat) : rw_ (rw_ F i g) i g' = rw_ F i g' := by
  funext a b; unfold rw_; split <;> rfl
theorem rw_id (F : Nat → Nat → Nat) (i : Nat) : rw_ F i (F i) = F := by
  funext a b; unfold rw_; split
  · rename_i h; rw [h]
  · rfl
theorem rw_w (F : Nat → Nat → Nat) (i k v : Nat) (g : Nat → Nat) : ab_w (rw_ F i g) i k v = rw_ F i (fun j => if j = k then v else g j) := by
  funext a b
  by_cases h1 : a = i <;> by_cases h2 : b = k <;> simp [ab_w, rw_, h1, h2]
theorem ab_FB.rw {F : Nat → Nat → Nat} (h : ab_FB F) (i : Nat) (g : Nat → Nat) (hi : i = 24 ∨ i = 45) : ab_FB (rw_ F i g) := fun a b h1 h2 => by
  rw [rw_n (by omega)]; exact h a b h1 h2
def n4 (f : Nat → Int) : Nat → Int := fun s => if s < 4 then f s else 0
theorem n4_lt {f : Nat → Int} {s : Nat} (h : s < 4) : n4 f s = f s := if_pos h
/-- ahead on the list -/
def ah (ord : Int) (nd : Nat → Int) (a b : P5) : Bool :=
  let m := if ord = 1 then nd a.1.toNat - nd b.1.toNat else if ord = 2 then a.2.2.1 - b.2.2.1 else 0
  decide (0 < m) || (decide (m = 0) && decide (a.2.1 < b.2.1))
theorem ah_iff {ord : Int} {nd : Nat → Int} {a b : P5} : ah ord nd a b = true ↔ (ord = 1 ∧ (nd b.1.toNat < nd a.1.toNat ∨ nd a.1.toNat = nd b.1.toNat ∧ a.2.1 < b.2.1)) ∨ (¬ ord = 1 ∧ ord = 2 ∧ (b.2.2.1 < a.2.2.1 ∨ a.2.2.1 = b.2.2.1 ∧ a.2.1 < b.2.1)) ∨ (¬ ord = 1 ∧ ¬ ord = 2 ∧ a.2.1 < b.2.1) := by
  unfold ah
  by_cases h1 : ord = 1
  · simp only [h1, if_true, Bool.or_eq_true, Bool.and_eq_true, decide_eq_true_eq, true_and, not_true, false_and, or_false]
    omega
  · by_cases h2 : ord = 2
    · subst h2
      simp only [Bool.or_eq_true, Bool.and_eq_true, decide_eq_true_eq, show ¬ ((2 : Int) = 1) by omega, if_false, if_true, false_and, not_false_eq_true, true_and, not_true, or_false, false_or]
      omega
    · simp only [h1, h2, if_false, Bool.or_eq_true, Bool.and_eq_true, decide_eq_true_eq, false_and, not_false_eq_true, true_and, false_or]
      omega
/-- what a person's numbers may be -/
def PB (wk nx : Int) (t : P5) : Prop := (0 ≤ t.1 ∧ t.1 ≤ 3) ∧ (0 ≤ t.2.1 ∧ t.2.1 ≤ nx) ∧ (0 ≤ t.2.2.1 ∧ t.2.2.1 ≤ 99) ∧ (0 ≤ t.2.2.2.1 ∧ t.2.2.2.1 ≤ wk) ∧ (0 ≤ t.2.2.2.2 ∧ t.2.2.2.2 ≤ wk)
theorem PB.mono {wk nx wk' nx' : Int} {t : P5} (h : PB wk nx t) (h1 : wk ≤ wk') (h2 : nx ≤ nx') : PB wk' nx' t := by
  unfold PB at *; omega
/-- the place that one finds among the first p, going back from there -/
def sd_f (R : Nat → Nat → Bool) (f : Nat → Nat) (one : Nat) : Nat → Nat
  | 0 => 0
  | p + 1 => if R one (f p) = true then sd_f R f one p else p + 1
def sd_s (f : Nat → Nat) (p i one : Nat) : Nat → Nat := fun j => if j < p then f j else if j = p then one else if j ≤ i then f (j - 1) else f j
def sd_g (f : Nat → Nat) (p i : Nat) : Nat → Nat := fun j => if j ≤ p then f j else if j ≤ i then f (j - 1) else f j
/-- the list put in order, up to place n -/
def sd (R : Nat → Nat → Bool) (f : Nat → Nat) : Nat → Nat → Nat
  | 0 => f
  | 1 => f
  | n + 2 => sd_s (sd R f (n + 1)) (sd_f R (sd R f (n + 1)) (sd R f (n + 1) (n + 1)) (n + 1)) (n + 1) (sd R f (n + 1) (n + 1))
theorem sd_s_lt {f : Nat → Nat} {p i one j : Nat} (hj : i < j) (hp : p ≤ i) : sd_s f p i one j = f j := by unfold sd_s; rw [if_neg (by omega), if_neg (by omega), if_neg (by omega)]
theorem sd_f_le (R : Nat → Nat → Bool) (f : Nat → Nat) (one : Nat) : ∀ p, sd_f R f one p ≤ p
  | 0 => Nat.le_refl _
  | p + 1 => by
    unfold sd_f; split
    · have := sd_f_le R f one p; omega
    · omega
theorem sd_g_i (f : Nat → Nat) (i : Nat) : sd_g f i i = f := by
  funext j; unfold sd_g; (repeat' split) <;> first | rfl | (exfalso; omega)
theorem sd_g_dn (f : Nat → Nat) {p i : Nat} (hp : p + 1 ≤ i) : (fun j => if j = p + 1 then sd_g f (p + 1) i p else sd_g f (p + 1) i j) = sd_g f p i := by
  funext j; unfold sd_g; (repeat' split) <;> first | rfl | (exfalso; omega) | (congr 1; omega)
theorem sd_g_put (f : Nat → Nat) {p i one : Nat} (hp : p ≤ i) : (fun j => if j = p then one else sd_g f p i j) = sd_s f p i one := by
  funext j; unfold sd_g sd_s; (repeat' split) <;> first | rfl | (exfalso; omega)
/-- a property of all places' references -/
theorem sd_allN (R : Nat → Nat → Bool) (P : Nat → Prop) (M : Nat) {f : Nat → Nat} (h : ∀ j, j < M → P (f j)) : ∀ n, n ≤ M → ∀ j, j < M → P (sd R f n j)
  | 0, _ => h
  | 1, _ => h
  | n + 2, hn => fun j hj => by
    have ih := sd_allN R P M h (n + 1) (by omega)
    show P (sd_s _ _ _ _ j)
    unfold sd_s
    (repeat' split)
    · exact ih _ hj
    · exact ih _ (by omega)
    · exact ih _ (by omega)
    · exact ih _ hj
theorem sd_all (R : Nat → Nat → Bool) (P : Nat → Prop) {f : Nat → Nat} (h : ∀ j, j < 12 → P (f j)) : ∀ n, n ≤ 12 → ∀ j, j < 12 → P (sd R f n j) := sd_allN R P 12 h
theorem sd_succ (R : Nat → Nat → Bool) (f : Nat → Nat) {k : Nat} (h : 1 ≤ k) : sd R f (k + 1) = sd_s (sd R f k) (sd_f R (sd R f k) (sd R f k k) k) k (sd R f k k) := by
  obtain ⟨k9, rfl⟩ : ∃ k9, k = k9 + 1 := ⟨k - 1, by omega⟩
  rfl
theorem sd_le1 (R : Nat → Nat → Bool) (f : Nat → Nat) {k : Nat} (h : k ≤ 1) : sd R f k = f := by
  match k, h with
  | 0, _ => rfl
  | 1, _ => rfl
theorem sd_g_dn2 (f : Nat → Nat) {p i : Nat} (hp : p + 1 ≤ i) : (fun j => if j = p + 1 then f p else sd_g f (p + 1) i j) = sd_g f p i := by
  rw [← sd_g_dn f hp]
  funext j
  have e : sd_g f (p + 1) i p = f p := by unfold sd_g; rw [if_pos (by omega)]
  rw [e]
