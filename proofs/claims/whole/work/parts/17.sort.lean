-- the row put in order: a permutation, sorted
def rot (p i j : Nat) : Nat := if j < p then j else if j = p then i else if j ≤ i then j - 1 else j
theorem sd_s_rot (g : Nat → Nat) (p i j : Nat) : sd_s g p i (g i) j = g (rot p i j) := by
  unfold sd_s rot; (repeat' split) <;> rfl
theorem sd_inj (R : Nat → Nat → Bool) {f : Nat → Nat} (h : ∀ a b, a < 12 → b < 12 → f a = f b → a = b) : ∀ n, n ≤ 12 → ∀ a b, a < 12 → b < 12 → sd R f n a = sd R f n b → a = b
  | 0, _ => h
  | 1, _ => h
  | n + 2, hn => fun a b ha hb e => by
    have ih := sd_inj R h (n + 1) (by omega)
    rw [sd_succ R f (by omega), sd_s_rot, sd_s_rot] at e
    have hp := sd_f_le R (sd R f (n + 1)) (sd R f (n + 1) (n + 1)) (n + 1)
    have := ih _ _ (by unfold rot; (repeat' split) <;> omega) (by unfold rot; (repeat' split) <;> omega) e
    unfold rot at this
    (repeat' split at this) <;> omega
theorem sd_out (R : Nat → Nat → Bool) (f : Nat → Nat) : ∀ n j, n ≤ j → sd R f n j = f j
  | 0, j, _ => rfl
  | 1, j, _ => rfl
  | n + 2, j, hj => by
    rw [sd_succ R f (by omega), sd_s_lt (by omega) (sd_f_le _ _ _ _)]
    exact sd_out R f (n + 1) j (by omega)
theorem rot_list (p i : Nat) (hp : p ≤ i) : (List.range (i + 1)).map (rot p i) = List.range p ++ (i :: List.range' p (i - p)) := by
  apply List.ext_getElem?
  intro j
  by_cases h1 : j < p
  · rw [List.getElem?_append_left (by simpa using h1), List.getElem?_map, List.getElem?_range (by omega), List.getElem?_range h1]
    simp [rot, h1]
  · by_cases h2 : j = p
    · subst h2
      rw [List.getElem?_append_right (by simp), List.getElem?_map, List.getElem?_range (by omega)]
      simp [rot]
    · by_cases h3 : j ≤ i
      · rw [List.getElem?_append_right (by simp; omega), List.getElem?_map, List.getElem?_range (by omega)]
        obtain ⟨q, rfl⟩ : ∃ q, j = p + 1 + q := ⟨j - p - 1, by omega⟩
        rw [List.length_range, show p + 1 + q - p = q + 1 by omega, List.getElem?_cons_succ, List.getElem?_range' (by omega)]
        simp [rot]
        rw [if_neg (by omega), if_neg (by omega), if_pos (by omega)]
        try omega
      · rw [List.getElem?_eq_none (by simp; omega), List.getElem?_eq_none (by simp; omega)]
theorem range_split (p i : Nat) (hp : p ≤ i) : List.range (i + 1) = List.range p ++ (List.range' p (i - p) ++ [i]) := by
  have h := rot_list i i (Nat.le_refl _)
  apply List.ext_getElem?
  intro j
  by_cases h1 : j < p
  · rw [List.getElem?_append_left (by simpa using h1), List.getElem?_range (by omega), List.getElem?_range h1]
  · rw [List.getElem?_append_right (by simp; omega), List.length_range]
    by_cases h3 : j < i
    · rw [List.getElem?_append_left (by simp; omega), List.getElem?_range (by omega), List.getElem?_range' (by omega)]
      congr 1; omega
    · by_cases h4 : j = i
      · subst h4
        rw [List.getElem?_append_right (by simp), List.getElem?_range (by omega)]
        simp
      · rw [List.getElem?_eq_none (by simp; omega), List.getElem?_eq_none (by simp; omega)]
theorem rot_perm (p i : Nat) (hp : p ≤ i) : ((List.range (i + 1)).map (rot p i)).Perm (List.range (i + 1)) := by
  rw [rot_list p i hp, range_split p i hp]
  exact List.Perm.append_left _ (List.perm_append_singleton i _).symm
theorem sd_perm (R : Nat → Nat → Bool) (f : Nat → Nat) : ∀ n, ((List.range n).map (sd R f n)).Perm ((List.range n).map f)
  | 0 => List.Perm.refl _
  | 1 => List.Perm.refl _
  | n + 2 => by
    have ih := sd_perm R f (n + 1)
    have hp := sd_f_le R (sd R f (n + 1)) (sd R f (n + 1) (n + 1)) (n + 1)
    have e1 : (List.range (n + 2)).map (sd R f (n + 2)) = ((List.range (n + 2)).map (rot (sd_f R (sd R f (n + 1)) (sd R f (n + 1) (n + 1)) (n + 1)) (n + 1))).map (sd R f (n + 1)) := by
      rw [List.map_map]
      apply List.map_congr_left
      intro j _
      rw [sd_succ R f (by omega)]
      exact sd_s_rot _ _ _ _
    rw [e1]
    refine ((rot_perm _ (n + 1) hp).map _).trans ?_
    rw [List.range_succ, List.map_append, List.map_append, List.map_singleton, List.map_singleton, sd_out R f (n + 1) (n + 1) (Nat.le_refl _)]
    exact ih.append_right _
theorem sd_f_lo (R : Nat → Nat → Bool) (f : Nat → Nat) (one : Nat) : ∀ n q, sd_f R f one n ≤ q → q < n → R one (f q) = true
  | 0, q, _, h => by omega
  | n + 1, q, h, h2 => by
    unfold sd_f at h
    split at h
    · rename_i hr
      by_cases hq : q = n
      · rw [hq]; exact hr
      · exact sd_f_lo R f one n q h (by omega)
    · omega
theorem sd_f_hi (R : Nat → Nat → Bool) (f : Nat → Nat) (one : Nat) : ∀ n, 0 < sd_f R f one n → ¬ R one (f (sd_f R f one n - 1)) = true
  | 0, h => by simp [sd_f] at h
  | n + 1, h => by
    unfold sd_f at h ⊢
    split at h
    · rename_i hr
      rw [if_pos hr]
      exact sd_f_hi R f one n h
    · rename_i hr
      rw [if_neg hr]
      exact hr
theorem sd_sorted (R : Nat → Nat → Bool) (f : Nat → Nat) (has : ∀ a b, R a b = true → ¬ R b a = true) (htr : ∀ a b c, ¬ R b a = true → ¬ R c b = true → ¬ R c a = true) : ∀ n i j, i < j → j < n → ¬ R (sd R f n j) (sd R f n i) = true
  | 0, i, j, _, h => by omega
  | 1, i, j, _, h => by omega
  | n + 2, i, j, hij, hj => by
    have ih := sd_sorted R f has htr (n + 1)
    rw [sd_succ R f (by omega)]
    generalize hg : sd R f (n + 1) = g at *
    have hp := sd_f_le R g (g (n + 1)) (n + 1)
    have hlo := sd_f_lo R g (g (n + 1)) (n + 1)
    have hhi := sd_f_hi R g (g (n + 1)) (n + 1)
    generalize sd_f R g (g (n + 1)) (n + 1) = p at *
    have hbelow : ∀ q, q < p → ¬ R (g (n + 1)) (g q) = true := fun q hq => by
      by_cases e : q = p - 1
      · rw [e]; exact hhi (by omega)
      · exact htr _ _ _ (ih q (p - 1) (by omega) (by omega)) (hhi (by omega))
    unfold sd_s
    by_cases a1 : i < p
    · rw [if_pos a1]
      by_cases b1 : j < p
      · rw [if_pos b1]; exact ih i j hij (by omega)
      · rw [if_neg b1]
        by_cases b2 : j = p
        · rw [if_pos b2]; exact hbelow i a1
        · rw [if_neg b2, if_pos (by omega)]; exact ih i (j - 1) (by omega) (by omega)
    · rw [if_neg a1, if_neg (show ¬ j < p by omega), if_neg (show ¬ j = p by omega), if_pos (show j ≤ n + 1 by omega)]
      by_cases a2 : i = p
      · rw [if_pos a2]; exact has _ _ (hlo (j - 1) (by omega) (by omega))
      · rw [if_neg a2, if_pos (by omega)]; exact ih (i - 1) (j - 1) (by omega) (by omega)
theorem ah_asymm {ord : Int} {nd : Nat → Int} {a b : P5} (h : ah ord nd a b = true) : ¬ ah ord nd b a = true := by
  rw [ah_iff] at *; omega
theorem ah_trans {ord : Int} {nd : Nat → Int} {a b c : P5} (h : ¬ ah ord nd b a = true) (h2 : ¬ ah ord nd c b = true) : ¬ ah ord nd c a = true := by
  rw [ah_iff] at *; omega
theorem ah_total {ord : Int} {nd : Nat → Int} {a b : P5} (h : ¬ ah ord nd b a = true) (h2 : ¬ ah ord nd a b = true) : a.2.1 = b.2.1 := by
  rw [ah_iff] at *; omega
/-- the list in order -/
def srt (ord : Int) (nd : Nat → Int) (L : List P5) : List P5 := L.mergeSort (fun a b => !ah ord nd b a)
theorem srt_perm (ord : Int) (nd : Nat → Int) (L : List P5) : (srt ord nd L).Perm L := List.mergeSort_perm _ _
theorem srt_sorted (ord : Int) (nd : Nat → Int) (L : List P5) : (srt ord nd L).Pairwise (fun a b => ¬ ah ord nd b a = true) := by
  have := List.pairwise_mergeSort (le := fun a b => !ah ord nd b a) (fun a b c h1 h2 => by
    simp only [Bool.not_eq_true', Bool.not_eq_true] at *
    have := ah_trans (ord := ord) (nd := nd) (a := a) (b := b) (c := c) (by simp [h1]) (by simp [h2])
    simpa using this) (fun a b => by
    simp only [Bool.or_eq_true, Bool.not_eq_true']
    cases h : ah ord nd b a with
    | false => left; rfl
    | true => right; simpa using ah_asymm h) L
  unfold srt
  exact this.imp (fun h => by simpa using h)
/-- numbers tell persons apart -/
def Nm (L : List P5) : Prop := ∀ x ∈ L, ∀ y ∈ L, x.2.1 = y.2.1 → x = y
theorem sorted_unique {ord : Int} {nd : Nat → Int} : ∀ {l1 l2 : List P5}, l1.Perm l2 → l1.Pairwise (fun a b => ¬ ah ord nd b a = true) → l2.Pairwise (fun a b => ¬ ah ord nd b a = true) → Nm l1 → l1 = l2
  | [], l2, hp, _, _, _ => by rw [List.nil_perm.mp hp]
  | a :: t1, [], hp, _, _, _ => by have := hp.length_eq; simp at this
  | a :: t1, b :: t2, hp, h1, h2, hn => by
    have hab : a = b := by
      rcases List.mem_cons.mp (hp.mem_iff.mp (List.mem_cons_self (a := a) (l := t1))) with e | e
      · exact e
      · rcases List.mem_cons.mp (hp.mem_iff.mpr (List.mem_cons_self (a := b) (l := t2))) with e2 | e2
        · exact e2.symm
        · have q1 := (List.pairwise_cons.mp h1).1 b e2
          have q2 := (List.pairwise_cons.mp h2).1 a e
          exact hn a List.mem_cons_self b (List.mem_cons_of_mem _ e2) (ah_total q1 q2)
    subst hab
    rw [sorted_unique (List.Perm.cons_inv hp) (List.pairwise_cons.mp h1).2 (List.pairwise_cons.mp h2).2 (fun x hx y hy => hn x (List.mem_cons_of_mem _ hx) y (List.mem_cons_of_mem _ hy))]
theorem Nm.perm {l1 l2 : List P5} (h : Nm l1) (hp : l1.Perm l2) : Nm l2 := fun x hx y hy => h x (hp.mem_iff.mpr hx) y (hp.mem_iff.mpr hy)
theorem srt_congr {ord : Int} {nd : Nat → Int} {l1 l2 : List P5} (hp : l1.Perm l2) (hn : Nm l1) : srt ord nd l1 = srt ord nd l2 :=
  sorted_unique (((srt_perm ord nd l1).trans hp).trans (srt_perm ord nd l2).symm) (srt_sorted ord nd l1) (srt_sorted ord nd l2) (hn.perm (srt_perm ord nd l1).symm)
theorem pairwise_range {α : Type} {P : α → α → Prop} (f : Nat → α) (n : Nat) (h : ∀ i j, i < j → j < n → P (f i) (f j)) : ((List.range n).map f).Pairwise P := by
  rw [List.pairwise_map]
  refine List.Pairwise.imp_of_mem (fun {a b} ha hb hab => h a b hab (List.mem_range.mp hb)) List.pairwise_lt_range
/-- the row that the class puts in order is the list in order -/
theorem sd_srt {ord : Int} {nd : Nat → Int} {t : Nat → P5} {f : Nat → Nat} {N : Nat} (hn : Nm ((List.range N).map (fun i => t (f i)))) :
    (List.range N).map (fun i => t (sd (fun a b => ah ord nd (t a) (t b)) f N i)) = srt ord nd ((List.range N).map (fun i => t (f i))) := by
  have h1 : ((List.range N).map (fun i => t (sd (fun a b => ah ord nd (t a) (t b)) f N i))).Perm ((List.range N).map (fun i => t (f i))) := by
    have := (sd_perm (fun a b => ah ord nd (t a) (t b)) f N).map t
    rw [List.map_map, List.map_map] at this
    exact this
  refine sorted_unique (h1.trans (srt_perm ord nd _).symm) (pairwise_range _ N (fun i j hij hj => ?_)) (srt_sorted ord nd _) (hn.perm h1.symm)
  exact sd_sorted (fun a b => ah ord nd (t a) (t b)) f (fun a b h => ah_asymm h) (fun a b c h h2 => ah_trans h h2) N i j hij hj
