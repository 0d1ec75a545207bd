-- swaps: who points to whom, rings, and that it doesn't matter in which order rings are closed
section SW
variable {wh : Nat → Nat → Int} {N : Nat}
def sptc (wh : Nat → Nat → Int) (S : Nat → Bool) (h : Nat) : Nat → Nat
  | 0 => h
  | j + 1 => if S j = true ∧ wh h (sptc wh S h j) < wh h j then j else sptc wh S h j
def spt (wh : Nat → Nat → Int) (N : Nat) (S : Nat → Bool) (h : Nat) : Nat := sptc wh S h N
def PtS (wh : Nat → Nat → Int) (S : Nat → Bool) (h j b : Nat) : Prop := (∀ o, o < j → S o = true → wh h o ≤ wh h b) ∧ wh h h ≤ wh h b ∧ (b = h ∨ (S b = true ∧ b < j ∧ wh h h < wh h b ∧ ∀ o, o < b → S o = true → wh h o < wh h b))
theorem sptc_spec (S : Nat → Bool) (h : Nat) : ∀ j, PtS wh S h j (sptc wh S h j)
  | 0 => ⟨fun o ho => by omega, Int.le_refl _, Or.inl rfl⟩
  | j + 1 => by
    obtain ⟨h1, h2, h3⟩ := sptc_spec S h j
    rw [sptc]
    by_cases e : S j = true ∧ wh h (sptc wh S h j) < wh h j
    · rw [if_pos e]
      refine ⟨fun o ho hS => ?_, by omega, Or.inr ⟨e.1, by omega, by omega, fun o ho hS => ?_⟩⟩
      · by_cases e2 : o = j
        · rw [e2]; exact Int.le_refl _
        · have := h1 o (by omega) hS; omega
      · have := h1 o ho hS; omega
    · rw [if_neg e]
      refine ⟨fun o ho hS => ?_, h2, ?_⟩
      · by_cases e2 : o = j
        · subst e2
          by_cases e3 : wh h (sptc wh S h o) < wh h o
          · exact absurd ⟨hS, e3⟩ e
          · omega
        · exact h1 o (by omega) hS
      · rcases h3 with h3 | ⟨h4, h5, h6, h7⟩
        · exact Or.inl h3
        · exact Or.inr ⟨h4, by omega, h6, h7⟩
theorem PtS.uniq {S : Nat → Bool} {h j b c : Nat} (hb : PtS wh S h j b) (hc : PtS wh S h j c) : b = c := by
  obtain ⟨b1, b2, b3⟩ := hb
  obtain ⟨c1, c2, c3⟩ := hc
  have e1 : wh h b ≤ wh h c := by
    rcases b3 with b3 | b3
    · rw [b3]; exact c2
    · exact c1 b b3.2.1 b3.1
  have e2 : wh h c ≤ wh h b := by
    rcases c3 with c3 | c3
    · rw [c3]; exact b2
    · exact b1 c c3.2.1 c3.1
  rcases b3 with b3 | b3
  · rcases c3 with c3 | c3
    · rw [b3, c3]
    · rw [b3] at e1 e2; omega
  · rcases c3 with c3 | c3
    · rw [c3] at e1 e2; omega
    · rcases Nat.lt_trichotomy b c with q | q | q
      · have := c3.2.2.2 b q b3.1; omega
      · exact q
      · have := b3.2.2.2 c q c3.1; omega
theorem spt_in {S : Nat → Bool} {h : Nat} (hS : S h = true) : S (spt wh N S h) = true := by
  rcases (sptc_spec (wh := wh) S h N).2.2 with e | e
  · show S (sptc wh S h N) = true; rw [e]; exact hS
  · exact e.1
theorem spt_lt {S : Nat → Bool} {h : Nat} (hh : h < N) : spt wh N S h < N := by
  rcases (sptc_spec (wh := wh) S h N).2.2 with e | e
  · show sptc wh S h N < N; rw [e]; exact hh
  · exact e.2.1
/-- with fewer there, who is still there is still pointed to -/
theorem spt_less {S T : Nat → Bool} {h : Nat} (hTS : ∀ o, T o = true → S o = true) (hp : T (spt wh N S h) = true) : spt wh N T h = spt wh N S h := by
  apply PtS.uniq (sptc_spec T h N)
  obtain ⟨h1, h2, h3⟩ := sptc_spec (wh := wh) S h N
  refine ⟨fun o ho hT => h1 o ho (hTS o hT), h2, ?_⟩
  rcases h3 with h3 | ⟨h4, h5, h6, h7⟩
  · exact Or.inl h3
  · exact Or.inr ⟨hp, h5, h6, fun o ho hT => h7 o ho (hTS o hT)⟩
def itp (f : Nat → Nat) : Nat → Nat → Nat
  | 0, x => x
  | n + 1, x => f (itp f n x)
theorem itp_add (f : Nat → Nat) (a : Nat) : ∀ (b x : Nat), itp f (b + a) x = itp f b (itp f a x)
  | 0, x => by rw [Nat.zero_add]; rfl
  | b + 1, x => by rw [show b + 1 + a = b + a + 1 by omega, itp, itp, itp_add f a b x]
theorem itp_mul {f : Nat → Nat} {n x : Nat} (h : itp f n x = x) : ∀ k, itp f (k * n) x = x
  | 0 => by rw [Nat.zero_mul]; rfl
  | k + 1 => by rw [show (k + 1) * n = n + k * n by rw [Nat.succ_mul]; omega, itp_add, itp_mul h k, h]
theorem itp_mod {f : Nat → Nat} {n x : Nat} (h : itp f n x = x) (j : Nat) : itp f j x = itp f (j % n) x := by
  have e : j = j % n + j / n * n := by have := Nat.mod_add_div j n; rw [Nat.mul_comm] at this; omega
  rw [show itp f j x = itp f (j % n + j / n * n) x by rw [← e], itp_add, itp_mul h]
theorem itp_in {S : Nat → Bool} {x : Nat} (hS : S x = true) : ∀ k, S (itp (spt wh N S) k x) = true
  | 0 => hS
  | k + 1 => by rw [itp]; exact spt_in (itp_in hS k)
theorem itp_lt {S : Nat → Bool} {x : Nat} (hx : x < N) : ∀ k, itp (spt wh N S) k x < N
  | 0 => hx
  | k + 1 => by rw [itp]; exact spt_lt (itp_lt hx k)
/-- the set C is a ring of those that are there -/
def Ring (wh : Nat → Nat → Int) (N : Nat) (S C : Nat → Bool) : Prop := ∃ x n, 0 < n ∧ itp (spt wh N S) n x = x ∧ S x = true ∧ ∀ h, (C h = true ↔ ∃ k, itp (spt wh N S) k x = h)
def sdf (S C : Nat → Bool) : Nat → Bool := fun h => S h && !C h
def Svr (C : Nat → Bool) : Prop := ∃ a b, C a = true ∧ C b = true ∧ a ≠ b
theorem Ring.sub {S C : Nat → Bool} (h : Ring wh N S C) : ∀ o, C o = true → S o = true := by
  obtain ⟨x, n, hn, hx, hS, hC⟩ := h
  intro o ho
  obtain ⟨k, rfl⟩ := (hC o).mp ho
  exact itp_in hS k
theorem Ring.step {S C : Nat → Bool} (h : Ring wh N S C) {o : Nat} (ho : C o = true) : C (spt wh N S o) = true := by
  obtain ⟨x, n, hn, hx, hS, hC⟩ := h
  obtain ⟨k, rfl⟩ := (hC o).mp ho
  exact (hC _).mpr ⟨k + 1, rfl⟩
/-- a ring is the way of each of its own -/
theorem Ring.from {S C : Nat → Bool} (h : Ring wh N S C) {y : Nat} (hy : C y = true) : ∃ n, 0 < n ∧ itp (spt wh N S) n y = y ∧ ∀ h, (C h = true ↔ ∃ k, itp (spt wh N S) k y = h) := by
  obtain ⟨x, n, hn, hx, hS, hC⟩ := h
  obtain ⟨k, rfl⟩ := (hC y).mp hy
  have hnk : itp (spt wh N S) n (itp (spt wh N S) k x) = itp (spt wh N S) k x := by
    rw [← itp_add, Nat.add_comm, itp_add, hx]
  have hback : itp (spt wh N S) (k * n - k) (itp (spt wh N S) k x) = x := by
    have hkn : k ≤ k * n := Nat.le_mul_of_pos_right k hn
    rw [← itp_add, show k * n - k + k = k * n by omega, itp_mul hx]
  refine ⟨n, hn, hnk, fun h => ⟨fun hh => ?_, fun ⟨j, hj⟩ => ?_⟩⟩
  · obtain ⟨j, hj⟩ := (hC h).mp hh
    exact ⟨j + (k * n - k), by rw [itp_add, hback, hj]⟩
  · exact (hC h).mpr ⟨j + k, by rw [itp_add, hj]⟩
theorem Ring.less {S T C : Nat → Bool} (h : Ring wh N S C) (hTS : ∀ o, T o = true → S o = true) (hC : ∀ o, C o = true → T o = true) : Ring wh N T C ∧ ∀ o, C o = true → spt wh N T o = spt wh N S o := by
  have hp : ∀ o, C o = true → spt wh N T o = spt wh N S o := fun o ho => spt_less hTS (hC _ (h.step ho))
  refine ⟨?_, hp⟩
  obtain ⟨x, n, hn, hx, hS, hCx⟩ := h
  have hi : ∀ k, itp (spt wh N T) k x = itp (spt wh N S) k x := by
    intro k
    induction k with
    | zero => rfl
    | succ k ih => rw [itp, itp, ih]; exact hp _ ((hCx _).mpr ⟨k, rfl⟩)
  exact ⟨x, n, hn, by rw [hi]; exact hx, hC x ((hCx x).mpr ⟨0, rfl⟩), fun h => by rw [hCx h]; exact ⟨fun ⟨k, hk⟩ => ⟨k, by rw [hi]; exact hk⟩, fun ⟨k, hk⟩ => ⟨k, by rw [← hi]; exact hk⟩⟩⟩
theorem Ring.eq {S C D : Nat → Bool} (h : Ring wh N S C) (h' : Ring wh N S D) {y : Nat} (hC : C y = true) (hD : D y = true) : C = D := by
  obtain ⟨_, _, _, h1⟩ := h.from hC
  obtain ⟨_, _, _, h2⟩ := h'.from hD
  funext o
  have : (C o = true ↔ D o = true) := by rw [h1 o, h2 o]
  cases hc : C o <;> cases hd : D o <;> simp_all
/-- g is what comes out of closing rings, r of them of several -/
def Out (wh : Nat → Nat → Int) (N : Nat) : Nat → (Nat → Bool) → (Nat → Nat) → Nat → Prop
  | 0, S, _, r => (∀ h, S h = false) ∧ r = 0
  | u + 1, S, g, r => ∃ C r', Ring wh N S C ∧ (∀ h, C h = true → g h = spt wh N S h) ∧ Out wh N u (sdf S C) g r' ∧ ((Svr C ∧ r = r' + 1) ∨ (¬ Svr C ∧ r = r'))
theorem sdf_true {S C : Nat → Bool} {o : Nat} : sdf S C o = true ↔ S o = true ∧ C o = false := by
  unfold sdf; cases S o <;> cases C o <;> simp
theorem Out.exch : ∀ {u : Nat} {S C : Nat → Bool} {g : Nat → Nat} {r : Nat}, Out wh N u S g r → Ring wh N S C → ∃ u' r', u = u' + 1 ∧ (∀ h, C h = true → g h = spt wh N S h) ∧ Out wh N u' (sdf S C) g r' ∧ ((Svr C ∧ r = r' + 1) ∨ (¬ Svr C ∧ r = r'))
  | 0, S, C, g, r, h, hC => by
    obtain ⟨x, n, hn, hx, hS, _⟩ := hC
    rw [h.1 x] at hS; cases hS
  | u + 1, S, C, g, r, h, hC => by
    obtain ⟨D, r1, hD, hgD, hO, hr⟩ := h
    by_cases e : ∃ y, C y = true ∧ D y = true
    · obtain ⟨y, hy1, hy2⟩ := e
      have := hC.eq hD hy1 hy2
      subst this
      exact ⟨u, r1, rfl, hgD, hO, hr⟩
    · have hdis : ∀ o, C o = true → D o = false := fun o ho => by
        cases hd : D o with
        | false => rfl
        | true => exact absurd ⟨o, ho, hd⟩ e
      have hdis' : ∀ o, D o = true → C o = false := fun o ho => by
        cases hd : C o with
        | false => rfl
        | true => exact absurd ⟨o, hd, ho⟩ e
      obtain ⟨hC', hpC⟩ := hC.less (T := sdf S D) (fun o ho => (sdf_true.mp ho).1) (fun o ho => sdf_true.mpr ⟨hC.sub o ho, hdis o ho⟩)
      obtain ⟨hD', hpD⟩ := hD.less (T := sdf S C) (fun o ho => (sdf_true.mp ho).1) (fun o ho => sdf_true.mpr ⟨hD.sub o ho, hdis' o ho⟩)
      obtain ⟨u', r2, rfl, hgC, hO2, hr2⟩ := Out.exch hO hC'
      have hco : sdf (sdf S D) C = sdf (sdf S C) D := by
        funext o; unfold sdf; cases S o <;> cases C o <;> cases D o <;> rfl
      rw [hco] at hO2
      rcases hr with ⟨hs, hr⟩ | ⟨hs, hr⟩
      · refine ⟨u' + 1, r2 + 1, rfl, fun o ho => by rw [hgC o ho, hpC o ho], ⟨D, r2, hD', fun o ho => by rw [hgD o ho, hpD o ho], hO2, Or.inl ⟨hs, rfl⟩⟩, ?_⟩
        rcases hr2 with ⟨q, e2⟩ | ⟨q, e2⟩
        · exact Or.inl ⟨q, by omega⟩
        · exact Or.inr ⟨q, by omega⟩
      · refine ⟨u' + 1, r2, rfl, fun o ho => by rw [hgC o ho, hpC o ho], ⟨D, r2, hD', fun o ho => by rw [hgD o ho, hpD o ho], hO2, Or.inr ⟨hs, rfl⟩⟩, ?_⟩
        rcases hr2 with ⟨q, e2⟩ | ⟨q, e2⟩
        · exact Or.inl ⟨q, by omega⟩
        · exact Or.inr ⟨q, by omega⟩
theorem Out.uniq : ∀ {u v : Nat} {S : Nat → Bool} {g g' : Nat → Nat} {r r' : Nat}, Out wh N u S g r → Out wh N v S g' r' → (∀ h, S h = true → g h = g' h) ∧ r = r'
  | 0, 0, S, g, g', r, r', h, h' => ⟨fun o ho => (by rw [h.1 o] at ho; cases ho), by rw [h.2, h'.2]⟩
  | 0, v + 1, S, g, g', r, r', h, h' => by
    obtain ⟨D, r1, hD, _⟩ := h'
    obtain ⟨x, n, hn, hx, hS, _⟩ := hD
    rw [h.1 x] at hS; cases hS
  | u + 1, v, S, g, g', r, r', h, h' => by
    obtain ⟨C, r1, hC, hg, hO, hr⟩ := h
    obtain ⟨v', r2, rfl, hg', hO', hr'⟩ := Out.exch h' hC
    obtain ⟨e1, e2⟩ := Out.uniq hO hO'
    refine ⟨fun o ho => ?_, ?_⟩
    · cases hc : C o with
      | true => rw [hg o hc, hg' o hc]
      | false => exact e1 o (sdf_true.mpr ⟨ho, hc⟩)
    · rcases hr with ⟨q, e3⟩ | ⟨q, e3⟩ <;> rcases hr' with ⟨q', e4⟩ | ⟨q', e4⟩
      · omega
      · exact absurd q q'
      · exact absurd q' q
      · omega
/-- some two of many steps among few stand on the same -/
theorem pigeon : ∀ (n : Nat) (f : Nat → Nat), (∀ k, k ≤ n → f k < n) → ∃ i j, i < j ∧ j ≤ n ∧ f i = f j
  | 0, f, h => absurd (h 0 (Nat.le_refl 0)) (by omega)
  | n + 1, f, h => by
    by_cases e : ∃ i, i < n + 1 ∧ f i = f (n + 1)
    · obtain ⟨i, hi, he⟩ := e
      exact ⟨i, n + 1, hi, Nat.le_refl _, he⟩
    · have hn := h (n + 1) (Nat.le_refl _)
      -- values above f (n+1) move down by one
      obtain ⟨i, j, hij, hj, he⟩ := pigeon n (fun k => if f (n + 1) < f k then f k - 1 else f k) (fun k hk => by
        have h1 := h k (by omega)
        have h2 : ¬ f k = f (n + 1) := fun q => e ⟨k, by omega, q⟩
        show (if f (n + 1) < f k then f k - 1 else f k) < n
        split <;> omega)
      refine ⟨i, j, hij, by omega, ?_⟩
      have h1 : ¬ f i = f (n + 1) := fun q => e ⟨i, by omega, q⟩
      have h2 : ¬ f j = f (n + 1) := fun q => e ⟨j, by omega, q⟩
      split at he <;> split at he <;> omega
/-- after as many steps as there are holders one stands in a ring -/
theorem itp_cyc {S : Nat → Bool} {x : Nat} (hx : x < N) {k : Nat} (hk : N ≤ k) : ∃ n, 0 < n ∧ n ≤ N ∧ itp (spt wh N S) n (itp (spt wh N S) k x) = itp (spt wh N S) k x := by
  obtain ⟨i, j, hij, hj, he⟩ := pigeon N (fun k => itp (spt wh N S) k x) (fun k _ => itp_lt hx k)
  refine ⟨j - i, by omega, by omega, ?_⟩
  rw [← itp_add, show j - i + k = k - i + j by omega, itp_add, ← he, ← itp_add, show k - i + i = k by omega]
end SW
