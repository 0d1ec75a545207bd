-- a lot: who takes what, one after the other; all rows counted
def amK (w c : Nat → Int) : Nat → Int
  | 0 => -1
  | k + 1 => if c k = 0 then amK w c k else if amK w c k = -1 ∨ w (amK w c k).toNat < w k then (k : Int) else amK w c k
def AmS (w c : Nat → Int) (n : Nat) (b : Int) : Prop := (b = -1 ∧ ∀ j, j < n → c j = 0) ∨ ∃ k : Nat, b = k ∧ k < n ∧ c k ≠ 0 ∧ ∀ j, j < n → c j ≠ 0 → w j < w k ∨ (w j = w k ∧ k ≤ j)
theorem amK_spec (w c : Nat → Int) : ∀ n, AmS w c n (amK w c n)
  | 0 => Or.inl ⟨rfl, fun j hj => by omega⟩
  | n + 1 => by
    have ih := amK_spec w c n
    rw [amK]
    by_cases e : c n = 0
    · rw [if_pos e]
      rcases ih with ⟨h1, h2⟩ | ⟨k, h1, h2, h3, h4⟩
      · refine Or.inl ⟨h1, fun j hj => ?_⟩
        by_cases q : j = n
        · rw [q]; exact e
        · exact h2 j (by omega)
      · refine Or.inr ⟨k, h1, by omega, h3, fun j hj hc => ?_⟩
        by_cases q : j = n
        · rw [q] at hc; exact absurd e hc
        · exact h4 j (by omega) hc
    · rw [if_neg e]
      rcases ih with ⟨h1, h2⟩ | ⟨k, h1, h2, h3, h4⟩
      · rw [if_pos (Or.inl h1)]
        refine Or.inr ⟨n, rfl, by omega, e, fun j hj hc => ?_⟩
        by_cases q : j = n
        · rw [q]; exact Or.inr ⟨rfl, Nat.le_refl _⟩
        · exact absurd (h2 j (by omega)) hc
      · by_cases q9 : amK w c n = -1 ∨ w (amK w c n).toNat < w n
        · rw [if_pos q9]
          have hlt : w k < w n := by
            rcases q9 with q9 | q9
            · omega
            · rw [h1] at q9; exact q9
          refine Or.inr ⟨n, rfl, by omega, e, fun j hj hc => ?_⟩
          by_cases q : j = n
          · rw [q]; exact Or.inr ⟨rfl, Nat.le_refl _⟩
          · have := h4 j (by omega) hc; omega
        · rw [if_neg q9]
          have hle : w n ≤ w k := by
            have q8 : ¬ w (amK w c n).toNat < w n := fun q => q9 (Or.inr q)
            rw [h1] at q8
            exact Int.not_lt.mp q8
          refine Or.inr ⟨k, h1, by omega, h3, fun j hj hc => ?_⟩
          by_cases q : j = n
          · rw [q]; omega
          · exact h4 j (by omega) hc
theorem AmS.uniq {w c : Nat → Int} {n : Nat} {a b : Int} (ha : AmS w c n a) (hb : AmS w c n b) : a = b := by
  rcases ha with ⟨a1, a2⟩ | ⟨k, a1, a2, a3, a4⟩
  · rcases hb with ⟨b1, b2⟩ | ⟨l, b1, b2, b3, b4⟩
    · rw [a1, b1]
    · exact absurd (a2 l b2) b3
  · rcases hb with ⟨b1, b2⟩ | ⟨l, b1, b2, b3, b4⟩
    · exact absurd (b2 k a2) a3
    · have h1 := a4 l b2 b3
      have h2 := b4 k a2 a3
      omega
/-- who stands at x takes of what is left -/
def tkL (wx : Nat → Nat → Int) (x : Nat) (c : Nat → Int) : Int := amK (wx x) c 4
theorem tkL_none {wx : Nat → Nat → Int} {x : Nat} {c : Nat → Int} (h : tkL wx x c = -1) : ∀ j, j < 4 → c j = 0 := by
  rcases amK_spec (wx x) c 4 with ⟨_, h2⟩ | ⟨k, h1, _⟩
  · exact h2
  · have h9 : amK (wx x) c 4 = -1 := h
    omega
theorem tkL_zero {wx : Nat → Nat → Int} {c : Nat → Int} (h : ∀ j, j < 4 → c j = 0) (x : Nat) : tkL wx x c = -1 :=
  AmS.uniq (amK_spec (wx x) c 4) (Or.inl ⟨rfl, h⟩)
theorem tkL_at {wx : Nat → Nat → Int} {x : Nat} {c : Nat → Int} (h : tkL wx x c ≠ -1) : ∃ k : Nat, tkL wx x c = k ∧ k < 4 ∧ c k ≠ 0 := by
  rcases amK_spec (wx x) c 4 with ⟨h1, _⟩ | ⟨k, h1, h2, h3, _⟩
  · exact absurd h1 h
  · exact ⟨k, h1, h2, h3⟩
def dcK (c : Nat → Int) (k : Int) : Nat → Int := fun j => if (j : Int) = k then c j - 1 else c j
theorem dcK_m (c : Nat → Int) : dcK c (-1) = c := by funext j; unfold dcK; rw [if_neg (by omega)]
def lfT (wx : Nat → Nat → Int) (c : Nat → Int) : List Nat → (Nat → Int)
  | [] => c
  | x :: t => lfT wx (dcK c (tkL wx x c)) t
def gtT (wx : Nat → Nat → Int) (pl : Nat) (c : Nat → Int) : List Nat → Int
  | [] => -1
  | x :: t => if x = pl then tkL wx x c else gtT wx pl (dcK c (tkL wx x c)) t
theorem lfT_app {wx : Nat → Nat → Int} : ∀ (a : List Nat) (c : Nat → Int) (b : List Nat), lfT wx c (a ++ b) = lfT wx (lfT wx c a) b
  | [], c, b => rfl
  | x :: t, c, b => lfT_app t (dcK c (tkL wx x c)) b
theorem gtT_app {wx : Nat → Nat → Int} {pl : Nat} : ∀ (a : List Nat) (c : Nat → Int) (b : List Nat), pl ∉ a → gtT wx pl c (a ++ b) = gtT wx pl (lfT wx c a) b
  | [], c, b, _ => rfl
  | x :: t, c, b, h => by
    rw [List.mem_cons, not_or] at h
    rw [List.cons_append, gtT, if_neg (fun e => h.1 e.symm), lfT]
    exact gtT_app t _ b h.2
theorem gtT_zero {wx : Nat → Nat → Int} {pl : Nat} {c : Nat → Int} (h : ∀ j, j < 4 → c j = 0) : ∀ (l : List Nat), gtT wx pl c l = -1
  | [] => rfl
  | x :: t => by
    rw [gtT, tkL_zero h, dcK_m]
    split
    · rfl
    · exact gtT_zero h t
-- sums
def smX (f : Nat → Nat) : Nat → Nat → Nat
  | 0, _ => 0
  | u + 1, x => f x + smX f u (x + 1)
theorem smX_congr {f g : Nat → Nat} : ∀ (u x : Nat), (∀ y, x ≤ y → y < x + u → f y = g y) → smX f u x = smX g u x
  | 0, _, _ => rfl
  | u + 1, x, h => by rw [smX, smX, h x (by omega) (by omega), smX_congr u (x + 1) (fun y h1 h2 => h y (by omega) (by omega))]
theorem smX_ge {f : Nat → Nat} : ∀ (u x y : Nat), x ≤ y → y < x + u → f y ≤ smX f u x
  | 0, x, y, h1, h2 => by omega
  | u + 1, x, y, h1, h2 => by
    rw [smX]
    by_cases e : y = x
    · rw [e]; omega
    · have := smX_ge (f := f) u (x + 1) y (by omega) (by omega); omega
theorem smX_mono {f g : Nat → Nat} : ∀ (u x : Nat), (∀ y, f y ≤ g y) → smX f u x ≤ smX g u x
  | 0, _, _ => Nat.le_refl _
  | u + 1, x, h => by rw [smX, smX]; have := smX_mono u (x + 1) h; have := h x; omega
theorem smX_zero {f : Nat → Nat} : ∀ (u x : Nat), (∀ y, x ≤ y → y < x + u → f y = 0) → smX f u x = 0
  | 0, _, _ => rfl
  | u + 1, x, h => by rw [smX, h x (by omega) (by omega), smX_zero u (x + 1) (fun y h1 h2 => h y (by omega) (by omega))]
theorem smX_mul {f : Nat → Nat} {k : Nat} : ∀ (u x : Nat), smX (fun y => f y * k) u x = smX f u x * k
  | 0, _ => by rw [smX, smX, Nat.zero_mul]
  | u + 1, x => by rw [smX, smX, smX_mul u (x + 1), Nat.add_mul]
theorem smX_one {f g : Nat → Nat} {z : Nat} : ∀ (u x : Nat), (∀ y, y ≠ z → f y = g y) → f z = g z + 1 → x ≤ z → z < x + u → smX f u x = smX g u x + 1
  | 0, x, _, _, h1, h2 => by omega
  | u + 1, x, h, hz, h1, h2 => by
    rw [smX, smX]
    by_cases e : x = z
    · rw [e, hz, smX_congr (f := f) (g := g) u (z + 1) (fun y q1 q2 => h y (by omega))]; omega
    · rw [h x e, smX_one u (x + 1) h hz (by omega) (by omega)]; omega
theorem smX_const : ∀ (u x : Nat), smX (fun _ => 1) u x = u
  | 0, _ => rfl
  | u + 1, x => by rw [smX, smX_const u (x + 1)]; omega
def inX (pre : List Nat) (x : Nat) : Nat := if x ∈ pre then 0 else 1
theorem cnt_free {m : Nat} : ∀ (pre : List Nat), pre.Nodup → (∀ x, x ∈ pre → x < m) → smX (inX pre) m 0 + pre.length = m
  | [], _, _ => by
    rw [smX_congr (g := fun _ => 1) m 0 (fun y _ _ => by unfold inX; simp), smX_const]; rfl
  | z :: t, hn, hl => by
    rw [List.nodup_cons] at hn
    have ih := cnt_free t hn.2 (fun x hx => hl x (List.mem_cons_of_mem _ hx))
    have hz := hl z List.mem_cons_self
    have h1 : smX (inX t) m 0 = smX (inX (z :: t)) m 0 + 1 := by
      refine smX_one (z := z) m 0 (fun y hy => ?_) ?_ (by omega) (by omega)
      · unfold inX; simp [hy]
      · unfold inX; rw [if_neg hn.1, if_pos List.mem_cons_self]
    rw [List.length_cons]; omega
def fct : Nat → Nat
  | 0 => 1
  | n + 1 => (n + 1) * fct n
theorem fct_fac : ∀ n : Fin 7, ab_fac n.val = (fct n.val : Int) ∧ fct n.val ≤ 720 ∧ 0 < fct n.val := by decide +kernel
/-- how many whole rows that begin so are as told -/
def gB (P : List Nat → Bool) (m : Nat) : Nat → List Nat → Nat
  | 0, pre => if P pre = true then 1 else 0
  | e + 1, pre => smX (fun x => if x ∈ pre then 0 else gB P m e (pre ++ [x])) m 0
theorem gB_le {P Q : List Nat → Bool} {m : Nat} (h : ∀ l, P l = true → Q l = true) : ∀ (e : Nat) (pre : List Nat), gB P m e pre ≤ gB Q m e pre
  | 0, pre => by
    rw [gB, gB]
    by_cases q : P pre = true
    · rw [if_pos q, if_pos (h _ q)]; exact Nat.le_refl _
    · rw [if_neg q]; exact Nat.zero_le _
  | e + 1, pre => by
    rw [gB, gB]
    apply smX_mono
    intro y
    split
    · exact Nat.le_refl _
    · exact gB_le h e _
theorem gB_const {P : List Nat → Bool} {m : Nat} {v : Bool} : ∀ (e : Nat) (pre : List Nat), (∀ rest, P (pre ++ rest) = v) → gB P m e pre = if v = true then gB (fun _ => true) m e pre else 0
  | 0, pre, h => by
    have h0 := h []
    rw [List.append_nil] at h0
    rw [gB, gB, h0]
    cases v <;> rfl
  | e + 1, pre, h => by
    rw [gB, gB]
    by_cases hv : v = true
    · rw [if_pos hv]
      apply smX_congr
      intro y _ _
      split
      · rfl
      · rw [gB_const (v := v) e (pre ++ [y]) (fun rest => by rw [List.append_assoc]; exact h _), if_pos hv]
    · rw [if_neg hv]
      apply smX_zero
      intro y _ _
      split
      · rfl
      · rw [gB_const (v := v) e (pre ++ [y]) (fun rest => by rw [List.append_assoc]; exact h _), if_neg hv]
theorem nd_app {pre : List Nat} {x : Nat} (h : pre.Nodup) (hx : x ∉ pre) : (pre ++ [x]).Nodup := by
  rw [List.nodup_append]
  refine ⟨h, by simp, fun a ha b hb => ?_⟩
  rw [List.mem_singleton] at hb
  rw [hb]
  exact fun e => hx (e ▸ ha)
theorem lt_app {pre : List Nat} {x m : Nat} (h : ∀ y, y ∈ pre → y < m) (hx : x < m) : ∀ y, y ∈ pre ++ [x] → y < m := fun y hy => by
  rcases List.mem_append.mp hy with q | q
  · exact h y q
  · rw [List.mem_singleton.mp q]; exact hx
theorem gB_all {m : Nat} : ∀ (e : Nat) (pre : List Nat), pre.Nodup → (∀ x, x ∈ pre → x < m) → pre.length + e = m → gB (fun _ => true) m e pre = fct e
  | 0, pre, _, _, _ => rfl
  | e + 1, pre, h1, h2, h3 => by
    have hc := cnt_free pre h1 h2
    rw [gB, smX_congr (g := fun x => inX pre x * fct e) m 0 (fun y _ hy => ?_), smX_mul, fct]
    · congr 1; omega
    · unfold inX
      by_cases q : y ∈ pre
      · rw [if_pos q, if_pos q, Nat.zero_mul]
      · rw [if_neg q, if_neg q, Nat.one_mul]
        exact gB_all e (pre ++ [y]) (nd_app h1 q) (lt_app h2 (by omega)) (by simp; omega)
/-- as it is counted without going through all of them -/
def rC (wx : Nat → Nat → Int) (m pl : Nat) (kd : Int) : Nat → List Nat → (Nat → Int) → Nat
  | 0, _, _ => 0
  | e + 1, pre, c => smX (fun x => if x ∈ pre then 0 else if tkL wx x c = -1 then 0 else if x = pl then (if kd = -1 ∨ kd = tkL wx x c then fct e else 0) else rC wx m pl kd e (pre ++ [x]) (dcK c (tkL wx x c))) m 0
def okL (wx : Nat → Nat → Int) (pl : Nat) (kd : Int) (c : Nat → Int) (l : List Nat) : Bool := decide (gtT wx pl c l ≠ -1 ∧ (kd = -1 ∨ gtT wx pl c l = kd))
theorem gB_rC {wx : Nat → Nat → Int} {m pl : Nat} {kd : Int} {c0 : Nat → Int} (hpl : pl < m) : ∀ (e : Nat) (pre : List Nat), pre.Nodup → (∀ x, x ∈ pre → x < m) → pre.length + e = m → pl ∉ pre → gB (okL wx pl kd c0) m e pre = rC wx m pl kd e pre (lfT wx c0 pre)
  | 0, pre, h1, h2, h3, h4 => by
    exfalso
    have hc := cnt_free pre h1 h2
    have hg := smX_ge (f := inX pre) m 0 pl (by omega) (by omega)
    unfold inX at hg
    rw [if_neg h4] at hg
    have : smX (inX pre) m 0 = smX (fun x => if x ∈ pre then 0 else 1) m 0 := rfl
    omega
  | e + 1, pre, h1, h2, h3, h4 => by
    rw [gB, rC]
    apply smX_congr
    intro x _ hx
    by_cases q : x ∈ pre
    · rw [if_pos q, if_pos q]
    · rw [if_neg q, if_neg q]
      by_cases hz : tkL wx x (lfT wx c0 pre) = -1
      · rw [if_pos hz, gB_const (v := false) e (pre ++ [x]) (fun rest => ?_)]
        · rfl
        · unfold okL
          rw [List.append_assoc, gtT_app pre c0 _ h4, gtT_zero (tkL_none hz)]
          simp
      · rw [if_neg hz]
        by_cases hp : x = pl
        · subst hp
          rw [if_pos rfl, gB_const (v := decide (kd = -1 ∨ kd = tkL wx x (lfT wx c0 pre))) e (pre ++ [x]) (fun rest => ?_)]
          · rw [gB_all e (pre ++ [x]) (nd_app h1 q) (lt_app h2 (by omega)) (by simp; omega)]
            by_cases q2 : kd = -1 ∨ kd = tkL wx x (lfT wx c0 pre)
            · rw [if_pos q2, if_pos (decide_eq_true q2)]
            · rw [if_neg q2, if_neg (by simp [q2])]
          · unfold okL
            rw [List.append_assoc, gtT_app pre c0 _ h4, List.cons_append, gtT, if_pos rfl]
            have : (tkL wx x (lfT wx c0 pre) ≠ -1 ∧ (kd = -1 ∨ tkL wx x (lfT wx c0 pre) = kd)) ↔ (kd = -1 ∨ kd = tkL wx x (lfT wx c0 pre)) :=
              ⟨fun r => r.2.imp id Eq.symm, fun r => ⟨hz, r.imp id Eq.symm⟩⟩
            exact decide_eq_decide.mpr this
        · rw [if_neg hp, gB_rC hpl e (pre ++ [x]) (nd_app h1 q) (lt_app h2 (by omega)) (by simp; omega) (fun r => by
            rcases List.mem_append.mp r with r | r
            · exact h4 r
            · exact hp (List.mem_singleton.mp r).symm), lfT_app]
          rfl
-- what is left, by kinds
def cnK (f : Nat → Int) (j : Int) : Nat → Int
  | 0 => 0
  | n + 1 => cnK f j n + if f n = j then 1 else 0
theorem cnK_pos {f : Nat → Int} {j : Int} : ∀ (n : Nat), 0 ≤ cnK f j n ∧ cnK f j n ≤ n ∧ (cnK f j n ≠ 0 ↔ ∃ h, h < n ∧ f h = j)
  | 0 => ⟨Int.le_refl _, by rw [cnK]; omega, ⟨fun h => absurd rfl h, fun ⟨h, hh, _⟩ => by omega⟩⟩
  | n + 1 => by
    obtain ⟨h1, h2, h3⟩ := cnK_pos (f := f) (j := j) n
    rw [cnK]
    by_cases e : f n = j
    · rw [if_pos e]
      exact ⟨by omega, by omega, ⟨fun _ => ⟨n, by omega, e⟩, fun _ => by omega⟩⟩
    · rw [if_neg e]
      refine ⟨by omega, by omega, ⟨fun h => ?_, fun ⟨h, hh, he⟩ => ?_⟩⟩
      · obtain ⟨h, hh, he⟩ := h3.mp (by omega)
        exact ⟨h, by omega, he⟩
      · have : h ≠ n := fun q => e (q ▸ he)
        have := h3.mpr ⟨h, by omega, he⟩
        omega
theorem cnK_congr {f g : Nat → Int} {j : Int} : ∀ (n : Nat), (∀ h, h < n → f h = g h) → cnK f j n = cnK g j n
  | 0, _ => rfl
  | n + 1, h => by rw [cnK, cnK, cnK_congr n (fun x hx => h x (by omega)), h n (by omega)]
theorem cnK_off {f g : Nat → Int} {j : Int} {b : Nat} (hj : j ≠ -1) (hb : g b = -1) (ho : ∀ h, h ≠ b → g h = f h) : ∀ (n : Nat), b < n → cnK g j n = cnK f j n - if f b = j then 1 else 0
  | 0, h => by omega
  | n + 1, h => by
    rw [cnK, cnK]
    by_cases e : b = n
    · rw [e, cnK_congr n (fun x hx => ho x (by omega)), ← e, hb, if_neg (Ne.symm hj)]; omega
    · rw [cnK_off hj hb ho n (by omega), ho n (fun q => e q.symm)]; omega
def cK (f : Nat → Int) (n : Nat) : Nat → Int := fun j => cnK f (j : Int) n
theorem cK_off {f g : Nat → Int} {n b : Nat} (hbn : b < n) (hb : g b = -1) (ho : ∀ h, h ≠ b → g h = f h) : cK g n = dcK (cK f n) (f b) := by
  funext j
  unfold cK dcK
  rw [cnK_off (by omega) hb ho n hbn]
  by_cases e : f b = (j : Int)
  · rw [if_pos e, if_pos e.symm]
  · rw [if_neg e, if_neg (fun q => e q.symm)]
    show cnK f (j : Int) n - 0 = cnK f (j : Int) n
    omega
/-- the best of the first h houses, by their places -/
def RbL (w : Nat → Int) (f : Nat → Int) (h : Nat) (b : Int) : Prop := (b = -1 ∧ ∀ q, q < h → f q = -1) ∨ ∃ c : Nat, b = c ∧ c < h ∧ f c ≠ -1 ∧ ∀ q, q < h → f q ≠ -1 → w (f q).toNat < w (f c).toNat ∨ (w (f q).toNat = w (f c).toNat ∧ f c ≤ f q)
theorem RbL.skip {w f : Nat → Int} {h : Nat} {b : Int} (hr : RbL w f h b) (hf : f h = -1) : RbL w f (h + 1) b := by
  rcases hr with ⟨h1, h2⟩ | ⟨c, h1, h2, h3, h4⟩
  · refine Or.inl ⟨h1, fun q hq => ?_⟩
    by_cases e : q = h
    · rw [e]; exact hf
    · exact h2 q (by omega)
  · refine Or.inr ⟨c, h1, by omega, h3, fun q hq hc => ?_⟩
    by_cases e : q = h
    · rw [e] at hc; exact absurd hf hc
    · exact h4 q (by omega) hc
theorem RbL.first {w f : Nat → Int} {h : Nat} (hr : RbL w f h (-1)) (hf : f h ≠ -1) : RbL w f (h + 1) (h : Int) := by
  rcases hr with ⟨_, h2⟩ | ⟨c, h1, _⟩
  · refine Or.inr ⟨h, rfl, by omega, hf, fun q hq hc => ?_⟩
    by_cases e : q = h
    · rw [e]; exact Or.inr ⟨rfl, Int.le_refl _⟩
    · exact absurd (h2 q (by omega)) hc
  · omega
theorem RbL.yes {w f : Nat → Int} {h c : Nat} (hr : RbL w f h (c : Int)) (hf : f h ≠ -1) (hv : w (f c).toNat < w (f h).toNat ∨ (w (f h).toNat = w (f c).toNat ∧ f h < f c)) : RbL w f (h + 1) (h : Int) := by
  rcases hr with ⟨h1, _⟩ | ⟨c', h1, h2, h3, h4⟩
  · omega
  · have e : c = c' := by omega
    subst e
    refine Or.inr ⟨h, rfl, by omega, hf, fun q hq hc => ?_⟩
    by_cases e : q = h
    · rw [e]; exact Or.inr ⟨rfl, Int.le_refl _⟩
    · have := h4 q (by omega) hc; omega
theorem RbL.keep {w f : Nat → Int} {h c : Nat} (hr : RbL w f h (c : Int)) (hv : ¬ (w (f c).toNat < w (f h).toNat ∨ (w (f h).toNat = w (f c).toNat ∧ f h < f c))) : RbL w f (h + 1) (c : Int) := by
  rcases hr with ⟨h1, _⟩ | ⟨c', h1, h2, h3, h4⟩
  · omega
  · have e : c = c' := by omega
    subst e
    refine Or.inr ⟨c, rfl, by omega, h3, fun q hq hc => ?_⟩
    by_cases e : q = h
    · rw [e]; omega
    · exact h4 q (by omega) hc
theorem RbL.bd {w f : Nat → Int} {h : Nat} {b : Int} (hr : RbL w f h b) : b = -1 ∨ ∃ c : Nat, b = c ∧ c < h ∧ f c ≠ -1 := by
  rcases hr with ⟨h1, _⟩ | ⟨c, h1, h2, h3, _⟩
  · exact Or.inl h1
  · exact Or.inr ⟨c, h1, h2, h3⟩
theorem RbL.fin {wx : Nat → Nat → Int} {f : Nat → Int} {n x : Nat} {b : Int} (hr : RbL (wx x) f n b) (hf : ∀ q, q < n → -1 ≤ f q ∧ f q ≤ 3) : (b = -1 ∧ tkL wx x (cK f n) = -1) ∨ ∃ c : Nat, b = c ∧ c < n ∧ f c ≠ -1 ∧ tkL wx x (cK f n) = f c := by
  rcases hr with ⟨h1, h2⟩ | ⟨c, h1, h2, h3, h4⟩
  · refine Or.inl ⟨h1, tkL_zero (fun j hj => ?_) x⟩
    have hp := (cnK_pos (f := f) (j := (j : Int)) n).2.2
    by_cases e : cnK f (j : Int) n = 0
    · exact e
    · obtain ⟨q, hq, he⟩ := hp.mp e
      have := h2 q hq
      omega
  · refine Or.inr ⟨c, h1, h2, h3, ?_⟩
    have hfc := hf c h2
    refine AmS.uniq (amK_spec (wx x) (cK f n) 4) (Or.inr ⟨(f c).toNat, by omega, by omega, ?_, fun j hj hc => ?_⟩)
    · exact (cnK_pos (f := f) (j := (((f c).toNat : Nat) : Int)) n).2.2.mpr ⟨c, h2, by omega⟩
    · obtain ⟨q, hq, he⟩ := (cnK_pos (f := f) (j := (j : Int)) n).2.2.mp hc
      have := h4 q hq (by omega)
      rw [he] at this
      have e2 : ((j : Int)).toNat = j := by omega
      rw [e2] at this
      omega
theorem hk_bd (z : Int) : 0 ≤ ab_and z 3 ∧ ab_and z 3 ≤ 3 := by
  unfold ab_and
  have h : (Int32.ofInt z &&& Int32.ofInt 3).toBitVec.toNat ≤ 3 := by
    rw [Int32.toBitVec_and, BitVec.toNat_and]
    exact Nat.and_le_right
  have h2 : (Int32.ofInt z &&& Int32.ofInt 3).toInt = ((Int32.ofInt z &&& Int32.ofInt 3).toBitVec.toNat : Int) := by
    show (Int32.ofInt z &&& Int32.ofInt 3).toBitVec.toInt = _
    rw [BitVec.toInt_eq_toNat_of_lt (by omega)]
  omega
/-- the kind of house i -/
def hkL (hs : Int) (i : Nat) : Int := ab_and (ab_sr hs (2 * (i : Int))) 3
theorem cnK_s {f : Nat → Int} {j : Int} {n : Nat} : cnK f j (n + 1) = cnK f j n + if f n = j then 1 else 0 := rfl
