theorem or_nat {a b : Nat} (ha : a < 256) (hb : b < 256) : ab_or (a : Int) (b : Int) = ((a ||| b : Nat) : Int) := by
  have h2 : a ||| b < 2 ^ 8 := Nat.or_lt_two_pow (by omega) (by omega)
  have e : Int32.ofInt (a : Int) ||| Int32.ofInt (b : Int) = Int32.ofInt ((a ||| b : Nat) : Int) := by
    rw [Int32.ofInt_eq_ofNat, Int32.ofInt_eq_ofNat, Int32.ofInt_eq_ofNat]
    apply Int32.toBitVec_inj.1
    show BitVec.ofNat 32 a ||| BitVec.ofNat 32 b = BitVec.ofNat 32 (a ||| b)
    apply BitVec.eq_of_getLsbD_eq
    intro i hi
    simp [hi]
  unfold ab_or
  rw [e, ab_to ⟨by omega, by omega⟩]
/-- those of a that aren't of b -/
def difb (a b : Nat) : Nat := a &&& (255 ^^^ b)
theorem difb_bit {a b : Nat} (ha : a < 256) (hb : b < 256) (o : Nat) : (difb a b).testBit o = (a.testBit o && !b.testBit o) := by
  unfold difb
  rw [Nat.testBit_and, Nat.testBit_xor, show (255 : Nat) = 2 ^ 8 - 1 from rfl, Nat.testBit_two_pow_sub_one]
  by_cases h : o < 8
  · simp [h]
  · have : a.testBit o = false := Nat.testBit_lt_two_pow (Nat.lt_of_lt_of_le (show a < 2 ^ 8 by omega) (Nat.pow_le_pow_right (by decide) (by omega)))
    rw [this]; simp
theorem difb_le {a b : Nat} : difb a b ≤ a := Nat.and_le_left
theorem dif_nat {a b : Nat} (ha : a < 256) (hb : b < 256) : ab_and (a : Int) (ab_xor (b : Int) (-1)) = ((difb a b : Nat) : Int) := by
  have h2 : difb a b ≤ a := difb_le
  have e : Int32.ofInt (a : Int) &&& (Int32.ofInt (b : Int) ^^^ Int32.ofInt (-1)) = Int32.ofInt ((difb a b : Nat) : Int) := by
    rw [Int32.ofInt_eq_ofNat, Int32.ofInt_eq_ofNat, Int32.ofInt_eq_ofNat]
    apply Int32.toBitVec_inj.1
    show BitVec.ofNat 32 a &&& (BitVec.ofNat 32 b ^^^ BitVec.allOnes 32) = BitVec.ofNat 32 (difb a b)
    apply BitVec.eq_of_getLsbD_eq
    intro i hi
    rw [BitVec.getLsbD_and, BitVec.getLsbD_xor, BitVec.getLsbD_ofNat, BitVec.getLsbD_ofNat, BitVec.getLsbD_ofNat, BitVec.getLsbD_allOnes, difb_bit ha hb]
    simp [hi]
  unfold ab_and ab_xor
  rw [Int32.ofInt_toInt, e, ab_to ⟨by omega, by omega⟩]
def clrb (m h : Nat) : Nat := if m.testBit h = true then m - 2 ^ h else m
theorem clr_all : ∀ m : Fin 256, ∀ h : Fin 8, ab_and (m.val : Int) (ab_xor (ab_sl 1 (h.val : Int)) (-1)) = (clrb m.val h.val : Int) ∧ clrb m.val h.val ≤ m.val ∧ (m.val.testBit h.val = true → pc8 (clrb m.val h.val) + 1 = pc8 m.val) := by decide +kernel
theorem clr_bit : ∀ m : Fin 256, ∀ h : Fin 8, ∀ o : Fin 8, (clrb m.val h.val).testBit o.val = (m.val.testBit o.val && !decide (h.val = o.val)) := by decide +kernel
theorem sl_all : ∀ h : Fin 8, ab_sl 1 (h.val : Int) = ((2 ^ h.val : Nat) : Int) ∧ 2 ^ h.val < 256 := by decide +kernel
theorem pc_0 : ∀ m : Fin 256, pc8 m.val = 0 → m.val = 0 := by decide +kernel
theorem pc_N : ∀ N : Fin 9, pc8 (2 ^ N.val - 1) = N.val := by decide +kernel
def tz8 (m : Nat) : Nat := if m % 2 = 1 then 0 else if m / 2 % 2 = 1 then 1 else if m / 4 % 2 = 1 then 2 else if m / 8 % 2 = 1 then 3 else if m / 16 % 2 = 1 then 4 else if m / 32 % 2 = 1 then 5 else if m / 64 % 2 = 1 then 6 else 7
theorem tz_all : ∀ m : Fin 256, m.val ≠ 0 → ab_and (ab_xor (m.val : Int) (-1)) ((m.val : Int) - 1) = ((2 ^ tz8 m.val - 1 : Nat) : Int) ∧ tz8 m.val < 8 ∧ m.val.testBit (tz8 m.val) = true := by decide +kernel
def tbS (m : Nat) : Nat → Bool := fun o => m.testBit o
theorem tb_lt {N m h : Nat} (hm : m < 2 ^ N) (hb : m.testBit h = true) : h < N := by
  rcases Nat.lt_or_ge h N with e | e
  · exact e
  · rw [Nat.testBit_lt_two_pow (Nat.lt_of_lt_of_le hm (Nat.pow_le_pow_right (by decide) e))] at hb; cases hb
theorem tb_all {N h : Nat} (hh : h < N) : tbS (2 ^ N - 1) h = true := by
  unfold tbS; rw [Nat.testBit_two_pow_sub_one]; simp [hh]
theorem clr_tb {m h o : Nat} (hm : m < 256) (hh : h < 8) : ((clrb m h).testBit o = true ↔ m.testBit o = true ∧ h ≠ o) := by
  by_cases e : o < 8
  · have := clr_bit ⟨m, hm⟩ ⟨h, hh⟩ ⟨o, e⟩
    simp only [] at this
    rw [this]; simp
  · have h1 : m.testBit o = false := Nat.testBit_lt_two_pow (Nat.lt_of_lt_of_le (show m < 2 ^ 8 by omega) (Nat.pow_le_pow_right (by decide) (by omega)))
    have h3 := (clr_all ⟨m, hm⟩ ⟨h, hh⟩).2.1
    simp only [] at h3
    have h2 : (clrb m h).testBit o = false := Nat.testBit_lt_two_pow (Nat.lt_of_lt_of_le (show clrb m h < 2 ^ 8 by omega) (Nat.pow_le_pow_right (by decide) (by omega)))
    rw [h1, h2]; simp
theorem tb_sdf {lf m : Nat} {C : Nat → Bool} (h : ∀ o, lf.testBit o = true ↔ m.testBit o = true ∧ C o = false) : tbS lf = sdf (tbS m) C := by
  funext o
  have := h o
  show lf.testBit o = (m.testBit o && !C o)
  cases e1 : lf.testBit o <;> cases e2 : m.testBit o <;> cases e3 : C o <;> simp_all
theorem tb_or {g g2 ring : Nat} {C : Nat → Bool} (hg : g ||| ring = g2) (h : ∀ o, ring.testBit o = true ↔ C o = true) : tbS g2 = fun o => tbS g o || C o := by
  funext o
  have := h o
  show g2.testBit o = (g.testBit o || C o)
  rw [← hg, Nat.testBit_or]
  cases e1 : ring.testBit o <;> cases e3 : C o <;> simp_all
section SW2
variable {wh : Nat → Nat → Int} {N : Nat}
theorem sptc_lt {S : Nat → Bool} {h j : Nat} (hh : h < N) (hj : j ≤ N) : sptc wh S h j < N := by
  rcases (sptc_spec (wh := wh) S h j).2.2 with e | e
  · rw [e]; exact hh
  · have := e.2.1; omega
theorem sptc_no {S : Nat → Bool} {h j : Nat} (hn : S j = false ∨ ¬ wh h (sptc wh S h j) < wh h j) : sptc wh S h (j + 1) = sptc wh S h j := by
  rw [sptc, if_neg]
  intro q
  rcases hn with e | e
  · rw [e] at q; cases q.1
  · exact e q.2
theorem sptc_yes {S : Nat → Bool} {h j : Nat} (h1 : S j = true) (h2 : wh h (sptc wh S h j) < wh h j) : sptc wh S h (j + 1) = j := by
  rw [sptc, if_pos ⟨h1, h2⟩]
theorem itp_clo1 {f : Nat → Nat} {y l i : Nat} (hi : i < l) (he : itp f l y = itp f i y) : ∀ k, ∃ i, i < l ∧ itp f k y = itp f i y
  | 0 => ⟨0, by omega, rfl⟩
  | k + 1 => by
    obtain ⟨j, hj, e⟩ := itp_clo1 hi he k
    by_cases q : j + 1 = l
    · exact ⟨i, hi, by rw [itp, e, ← he, ← q]; rfl⟩
    · exact ⟨j + 1, by omega, by rw [itp, e]; rfl⟩
theorem itp_clo2 {f : Nat → Nat} {y l n : Nat} (hn : 0 < n) (hl : n ≤ l) (he : itp f n y = y) (k : Nat) : ∃ i, i < l ∧ itp f k y = itp f i y :=
  ⟨k % n, by have := Nat.mod_lt k hn; omega, itp_mod he k⟩
/-- the first l of the way from y -/
def vis (f : Nat → Nat) (y l : Nat) : Nat → Bool := fun o => (List.range l).any (fun i => itp f i y == o)
theorem vis_true {f : Nat → Nat} {y l o : Nat} : vis f y l o = true ↔ ∃ i, i < l ∧ itp f i y = o := by
  unfold vis; simp
theorem vis_ring {S : Nat → Bool} {y l n : Nat} (hn : 0 < n) (he : itp (spt wh N S) n y = y) (hS : S y = true) (hc : ∀ k, ∃ i, i < l ∧ itp (spt wh N S) k y = itp (spt wh N S) i y) : Ring wh N S (vis (spt wh N S) y l) := by
  refine ⟨y, n, hn, he, hS, fun o => ?_⟩
  rw [vis_true]
  constructor
  · rintro ⟨i, _, e⟩; exact ⟨i, e⟩
  · rintro ⟨k, e⟩
    obtain ⟨i, hi, e2⟩ := hc k
    exact ⟨i, hi, by rw [← e2, e]⟩
theorem vis_svr {f : Nat → Nat} {y l : Nat} (h1 : 1 < l) (hne : itp f 1 y ≠ y) : Svr (vis f y l) :=
  ⟨y, itp f 1 y, vis_true.mpr ⟨0, by omega, rfl⟩, vis_true.mpr ⟨1, h1, rfl⟩, fun e => hne e.symm⟩
theorem vis_one {f : Nat → Nat} {y l : Nat} (h1 : l ≤ 1) : ¬ Svr (vis f y l) := by
  rintro ⟨a, b, ha, hb, hab⟩
  obtain ⟨i, hi, rfl⟩ := vis_true.mp ha
  obtain ⟨j, hj, rfl⟩ := vis_true.mp hb
  rw [show i = 0 by omega, show j = 0 by omega] at hab
  exact hab rfl
/-- the best of the first j, as the other counts it -/
def RPt (wh : Nat → Nat → Int) (S : Nat → Bool) (h j : Nat) (b : Int) : Prop := (b = -1 ∧ ∀ o, o < j → S o = false) ∨ ∃ c : Nat, b = c ∧ c < j ∧ S c = true ∧ (∀ o, o < j → S o = true → wh h o ≤ wh h c) ∧ (c = h ∨ ((∀ o, o < c → S o = true → wh h o < wh h c) ∧ (h < j → wh h h < wh h c)))
theorem RPt.no {S : Nat → Bool} {h j : Nat} {b : Int} (hh : S h = true) (hp : RPt wh S h j b) (hj : S j = false) : RPt wh S h (j + 1) b := by
  have hne : h ≠ j := fun e => by rw [e, hj] at hh; cases hh
  rcases hp with ⟨e, hn⟩ | ⟨c, e, hc, hS, hm, hs⟩
  · refine Or.inl ⟨e, fun o ho => ?_⟩
    by_cases q : o = j
    · rw [q]; exact hj
    · exact hn o (by omega)
  · refine Or.inr ⟨c, e, by omega, hS, fun o ho hSo => ?_, ?_⟩
    · by_cases q : o = j
      · rw [q, hj] at hSo; cases hSo
      · exact hm o (by omega) hSo
    · rcases hs with hs | ⟨h1, h2⟩
      · exact Or.inl hs
      · exact Or.inr ⟨h1, fun q => h2 (by omega)⟩
theorem RPt.first {S : Nat → Bool} {h j : Nat} (hh : S h = true) (hp : RPt wh S h j (-1)) (hj : S j = true) : RPt wh S h (j + 1) (j : Int) := by
  rcases hp with ⟨_, hn⟩ | ⟨c, e, _⟩
  · refine Or.inr ⟨j, rfl, by omega, hj, fun o ho hSo => ?_, ?_⟩
    · by_cases q : o = j
      · rw [q]; exact Int.le_refl _
      · rw [hn o (by omega)] at hSo; cases hSo
    · by_cases q : j = h
      · exact Or.inl q
      · refine Or.inr ⟨fun o ho hSo => ?_, fun ho => ?_⟩
        · rw [hn o ho] at hSo; cases hSo
        · rw [hn h (by omega)] at hh; cases hh
  · omega
theorem RPt.yes {S : Nat → Bool} {h j c : Nat} (hp : RPt wh S h j (c : Int)) (hj : S j = true) (hv : wh h c < wh h j ∨ (wh h j = wh h c ∧ j = h)) : RPt wh S h (j + 1) (j : Int) := by
  rcases hp with ⟨e, _⟩ | ⟨c', e, hc, hS, hm, hs⟩
  · omega
  · have e : c = c' := by omega
    subst e
    refine Or.inr ⟨j, rfl, by omega, hj, fun o ho hSo => ?_, ?_⟩
    · by_cases q : o = j
      · rw [q]; exact Int.le_refl _
      · have := hm o (by omega) hSo; omega
    · rcases hv with hv | hv
      · by_cases q : j = h
        · exact Or.inl q
        · refine Or.inr ⟨fun o ho hSo => ?_, fun ho => ?_⟩
          · have := hm o ho hSo; omega
          · rcases hs with hs | hs
            · rw [hs] at hv; exact hv
            · have := hs.2 (by omega); omega
      · exact Or.inl hv.2
theorem RPt.keep {S : Nat → Bool} {h j c : Nat} (hh : S h = true) (hp : RPt wh S h j (c : Int)) (hv : ¬ (wh h c < wh h j ∨ (wh h j = wh h c ∧ j = h))) : RPt wh S h (j + 1) (c : Int) := by
  rcases hp with ⟨e, _⟩ | ⟨c', e, hc, hS, hm, hs⟩
  · omega
  · have e : c = c' := by omega
    subst e
    refine Or.inr ⟨c, rfl, by omega, hS, fun o ho hSo => ?_, ?_⟩
    · by_cases q : o = j
      · rw [q]; omega
      · exact hm o (by omega) hSo
    · rcases hs with hs | ⟨h1, h2⟩
      · exact Or.inl hs
      · refine Or.inr ⟨h1, fun ho => ?_⟩
        by_cases q : h = j
        · have : ¬ (wh h j = wh h c) := fun e => hv (Or.inr ⟨e, q.symm⟩)
          rw [q] at this hv ⊢; omega
        · exact h2 (by omega)
theorem RPt.bd {S : Nat → Bool} {h j : Nat} {b : Int} (hp : RPt wh S h j b) : b = -1 ∨ ∃ c : Nat, b = c ∧ c < j := by
  rcases hp with ⟨e, _⟩ | ⟨c, e, hc, _⟩
  · exact Or.inl e
  · exact Or.inr ⟨c, e, hc⟩
theorem RPt.fin {S : Nat → Bool} {h : Nat} {b : Int} (hh : S h = true) (hN : h < N) (hp : RPt wh S h N b) : b = (spt wh N S h : Int) := by
  rcases hp with ⟨_, hn⟩ | ⟨c, e, hc, hS, hm, hs⟩
  · rw [hn h hN] at hh; cases hh
  · rw [e]
    congr 1
    refine PtS.uniq (wh := wh) (S := S) (h := h) (j := N) ?_ (sptc_spec S h N)
    refine ⟨hm, hm h hN hh, ?_⟩
    rcases hs with hs | ⟨h1, h2⟩
    · exact Or.inl hs
    · exact Or.inr ⟨hS, hc, h2 hN, h1⟩
/-- rings closed so far, D all that stand in them -/
def GIv (wh : Nat → Nat → Int) (N : Nat) (S : Nat → Bool) (h : Nat) (D : Nat → Bool) (r : Nat) : Prop :=
  (∀ o, D o = true → ∃ C, Ring wh N S C ∧ C o = true ∧ ∀ p, C p = true → D p = true) ∧
  (∀ h', h' < h → S h' = true → (∃ n, 0 < n ∧ n ≤ N ∧ itp (spt wh N S) n h' = h') → D h' = true) ∧
  (∀ (v : Nat) (g : Nat → Nat) (r2 : Nat), (∀ o, D o = true → g o = spt wh N S o) → Out wh N v (sdf S D) g r2 → ∃ w, Out wh N w S g (r + r2))
theorem GIv.zero {S : Nat → Bool} : GIv wh N S 0 (fun _ => false) 0 := by
  refine ⟨fun o ho => (by cases ho), fun h' hh => (by omega), fun v g r2 _ ho => ⟨v, ?_⟩⟩
  have : sdf S (fun _ => false) = S := by funext o; unfold sdf; simp
  rw [this] at ho
  rw [Nat.zero_add]; exact ho
theorem GIv.skip {S D : Nat → Bool} {h r : Nat} (hg : GIv wh N S h D r) (hq : S h = false ∨ D h = true ∨ ∀ n, 0 < n → n ≤ N → itp (spt wh N S) n h ≠ h) : GIv wh N S (h + 1) D r := by
  refine ⟨hg.1, fun h' hh hS hc => ?_, hg.2.2⟩
  by_cases e : h' = h
  · subst e
    rcases hq with q | q | q
    · rw [q] at hS; cases hS
    · exact q
    · obtain ⟨n, h1, h2, h3⟩ := hc
      exact absurd h3 (q n h1 h2)
  · exact hg.2.1 h' (by omega) hS hc
theorem GIv.ring {S D C : Nat → Bool} {h r r' : Nat} (hg : GIv wh N S h D r) (hD : D h = false) (hC : Ring wh N S C) (hh : C h = true) (hr : (Svr C ∧ r' = r + 1) ∨ (¬ Svr C ∧ r' = r)) : GIv wh N S (h + 1) (fun o => D o || C o) r' := by
  have hdis : ∀ o, C o = true → D o = false := fun o ho => by
    cases hd : D o with
    | false => rfl
    | true =>
      obtain ⟨C', h1, h2, h3⟩ := hg.1 o hd
      have := hC.eq h1 ho h2
      subst this
      rw [h3 h hh] at hD; cases hD
  refine ⟨fun o ho => ?_, fun h' h1 hS hc => ?_, fun v g r2 hgo ho => ?_⟩
  · simp only [Bool.or_eq_true] at ho
    rcases ho with ho | ho
    · obtain ⟨C', h1, h2, h3⟩ := hg.1 o ho
      exact ⟨C', h1, h2, fun p hp => by simp [h3 p hp]⟩
    · exact ⟨C, hC, ho, fun p hp => by simp [hp]⟩
  · by_cases e : h' = h
    · subst e; simp [hh]
    · simp [hg.2.1 h' (by omega) hS hc]
  · have hsd : sdf S (fun o => D o || C o) = sdf (sdf S D) C := by
      funext o
      show (S o && !(D o || C o)) = (S o && !D o && !C o)
      cases S o <;> cases D o <;> cases C o <;> rfl
    rw [hsd] at ho
    obtain ⟨hC', hp⟩ := hC.less (T := sdf S D) (fun o ho => (sdf_true.mp ho).1) (fun o ho => sdf_true.mpr ⟨hC.sub o ho, hdis o ho⟩)
    have hg1 : ∀ o, D o = true → g o = spt wh N S o := fun o ho => hgo o (by simp [ho])
    have hg2 : ∀ o, C o = true → g o = spt wh N (sdf S D) o := fun o ho => by rw [hp o ho]; exact hgo o (by simp [ho])
    rcases hr with ⟨q, e⟩ | ⟨q, e⟩
    · obtain ⟨w, hw⟩ := hg.2.2 (v + 1) g (r2 + 1) hg1 ⟨C, r2, hC', hg2, ho, Or.inl ⟨q, rfl⟩⟩
      exact ⟨w, by rw [show r' + r2 = r + (r2 + 1) by omega]; exact hw⟩
    · obtain ⟨w, hw⟩ := hg.2.2 (v + 1) g r2 hg1 ⟨C, r2, hC', hg2, ho, Or.inr ⟨q, rfl⟩⟩
      exact ⟨w, by rw [e]; exact hw⟩
theorem GIv.some {S D : Nat → Bool} {r x : Nat} (hg : GIv wh N S N D r) (hx : x < N) (hS : S x = true) : ∃ y, S y = true ∧ D y = true := by
  obtain ⟨n, h1, h2, h3⟩ := itp_cyc (wh := wh) (S := S) (N := N) hx (Nat.le_refl N)
  exact ⟨_, itp_in hS N, hg.2.1 _ (itp_lt hx N) (itp_in hS N) ⟨n, h1, h2, h3⟩⟩
end SW2
def whX (I : Nat → Nat → Int) (h o : Nat) : Int := if h < 8 ∧ o < 8 then I (4 + (I 77 h).toNat) (I 78 o).toNat else 0
def whM (I : Nat → Nat → Int) (h o : Nat) : Int := if h < 8 ∧ o < 8 then I 85 (4 * (I 100 h).toNat + (I 101 o).toNat) else 0
theorem INV.wh {c : Nat} {I : Nat → Nat → Int} {F : Nat → Nat → Nat} (h : INV c I F) : whX I = whM I := by
  have hh := h.2.2.2.2.2.2.1.2.2
  have ht := h.2.2.1.2.1
  funext x y
  unfold whX whM
  by_cases e : x < 8 ∧ y < 8
  · rw [if_pos e, if_pos e]
    have h1 := hh x e.1
    have h2 := hh y e.2
    rw [h1.1.1, h2.1.2, ← ht _ _ (by omega) (by omega)]
  · rw [if_neg e, if_neg e]
theorem whX_at {I : Nat → Nat → Int} {h o s k : Nat} (hh : h < 8) (ho : o < 8) (hs : I 77 h = (s : Int)) (hk : I 78 o = (k : Int)) : whX I h o = I (4 + s) k := by
  unfold whX; rw [if_pos ⟨hh, ho⟩, hs, hk]; rfl
theorem whM_at {I : Nat → Nat → Int} {h o s k : Nat} (hh : h < 8) (ho : o < 8) (hs : I 100 h = (s : Int)) (hk : I 101 o = (k : Int)) : whM I h o = I 85 (4 * s + k) := by
  unfold whM; rw [if_pos ⟨hh, ho⟩, hs, hk]; rfl
def SFX (I0 I : Nat → Nat → Int) : Prop := ∀ i b, i ≠ 80 → ¬ (i = 79 ∧ b = 2) → I i b = I0 i b
def SFM (I0 I : Nat → Nat → Int) : Prop := ∀ i b, i ≠ 102 → i ≠ 103 → ¬ (i = 84 ∧ b = 30) → I i b = I0 i b
def SWP (wh : Nat → Nat → Int) (N m : Nat) (f f' : Nat → Int) (q q' : Int) : Prop := ∃ (v r : Nat), Out wh N v (tbS m) (fun h => (f' h).toNat) r ∧ q' = q + (r : Int) ∧ (∀ h, tbS m h = true → 0 ≤ f' h) ∧ ∀ h, tbS m h = false → f' h = f h
theorem SWP.zero {wh : Nat → Nat → Int} {N : Nat} {f : Nat → Int} {q : Int} : SWP wh N 0 f f q q :=
  ⟨0, 0, ⟨fun h => by unfold tbS; simp, rfl⟩, by simp, fun h hh => by unfold tbS at hh; simp at hh, fun _ _ => rfl⟩
theorem SWP.step {wh : Nat → Nat → Int} {N m m2 : Nat} {C : Nat → Bool} {f f1 f2 : Nat → Int} {q q1 q2 : Int} (hC : Ring wh N (tbS m) C) (hm : tbS m2 = sdf (tbS m) C) (h1 : ∀ h, C h = true → f1 h = (spt wh N (tbS m) h : Int)) (h2 : ∀ h, C h = false → f1 h = f h) (hr : (Svr C ∧ q1 = q + 1) ∨ (¬ Svr C ∧ q1 = q)) (hn : SWP wh N m2 f1 f2 q1 q2) : SWP wh N m f f2 q q2 := by
  obtain ⟨v, r, hO, hq, hp, hk⟩ := hn
  have hfC : ∀ h, C h = true → f2 h = (spt wh N (tbS m) h : Int) := fun h hh => by
    rw [hk h (by rw [hm]; unfold sdf; simp [hh]), h1 h hh]
  rw [hm] at hO
  have hpos : ∀ h, tbS m h = true → 0 ≤ f2 h := fun h hh => by
    cases hc : C h with
    | true => rw [hfC h hc]; omega
    | false => exact hp h (by rw [hm]; exact sdf_true.mpr ⟨hh, hc⟩)
  have hkeep : ∀ h, tbS m h = false → f2 h = f h := fun h hh => by
    have hc : C h = false := by
      cases hc : C h with
      | false => rfl
      | true => rw [hC.sub h hc] at hh; cases hh
    rw [hk h (by rw [hm]; unfold sdf; simp [hh]), h2 h hc]
  rcases hr with ⟨e, e2⟩ | ⟨e, e2⟩
  · exact ⟨v + 1, r + 1, ⟨C, r, hC, fun h hh => by show (f2 h).toNat = _; rw [hfC h hh]; rfl, hO, Or.inl ⟨e, rfl⟩⟩, by omega, hpos, hkeep⟩
  · exact ⟨v + 1, r, ⟨C, r, hC, fun h hh => by show (f2 h).toNat = _; rw [hfC h hh]; rfl, hO, Or.inr ⟨e, rfl⟩⟩, by omega, hpos, hkeep⟩
theorem SWP.all {wh : Nat → Nat → Int} {N m m2 r1 : Nat} {D : Nat → Bool} {f f1 f2 : Nat → Int} {q q1 q2 : Int} (hG : GIv wh N (tbS m) N D r1) (hm : tbS m2 = sdf (tbS m) D) (h1 : ∀ h, D h = true → f1 h = (spt wh N (tbS m) h : Int)) (h2 : ∀ h, D h = false → f1 h = f h) (hr : q1 = q + (r1 : Int)) (hn : SWP wh N m2 f1 f2 q1 q2) : SWP wh N m f f2 q q2 := by
  obtain ⟨v, r, hO, hq, hp, hk⟩ := hn
  have hfC : ∀ h, D h = true → f2 h = (spt wh N (tbS m) h : Int) := fun h hh => by
    rw [hk h (by rw [hm]; unfold sdf; simp [hh]), h1 h hh]
  rw [hm] at hO
  obtain ⟨w, hw⟩ := hG.2.2 v _ r (fun o ho => by show (f2 o).toNat = _; rw [hfC o ho]; rfl) hO
  refine ⟨w, r1 + r, hw, by omega, fun h hh => ?_, fun h hh => ?_⟩
  · cases hc : D h with
    | true => rw [hfC h hc]; omega
    | false => exact hp h (by rw [hm]; exact sdf_true.mpr ⟨hh, hc⟩)
  · have hc : D h = false := by
      cases hc : D h with
      | false => rfl
      | true =>
        obtain ⟨C, c1, c2, _⟩ := hG.1 h hc
        rw [c1.sub h c2] at hh; cases hh
    rw [hk h (by rw [hm]; unfold sdf; simp [hh]), h2 h hc]
