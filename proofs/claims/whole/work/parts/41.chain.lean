-- sets as bits
def pc8 (m : Nat) : Nat := m % 2 + m / 2 % 2 + m / 4 % 2 + m / 8 % 2 + m / 16 % 2 + m / 32 % 2 + m / 64 % 2 + m / 128 % 2
theorem bit_or : ∀ m : Fin 256, ∀ h : Fin 8, m.val.testBit h.val = false → m.val < m.val ||| 2 ^ h.val ∧ m.val ||| 2 ^ h.val < 256 ∧ pc8 (m.val ||| 2 ^ h.val) = pc8 m.val + 1 := by decide +kernel
theorem bit_N : ∀ N : Fin 9, ∀ m : Fin 256, m.val < 2 ^ N.val → pc8 m.val ≤ N.val ∧ ∀ h : Fin 8, h.val < N.val → m.val ||| 2 ^ h.val < 2 ^ N.val := by decide +kernel
theorem bit_m : ∀ m : Fin 256, ∀ h : Fin 8, ab_and (ab_sr (m.val : Int) (h.val : Int)) 1 = (if m.val.testBit h.val = true then 1 else 0) ∧ ab_or (m.val : Int) (ab_sl 1 (h.val : Int)) = ((m.val ||| 2 ^ h.val : Nat) : Int) := by decide +kernel
theorem bit_all : ∀ N : Fin 9, ab_sl 1 (N.val : Int) - 1 = ((2 ^ N.val - 1 : Nat) : Int) ∧ 1 ≤ 2 ^ N.val ∧ 2 ^ N.val ≤ 256 := by decide +kernel
section CH
variable {wg : Nat → Nat → Bool} {kd : Nat → Nat} {N : Nat}
def mxp (f : Nat → Nat) : Nat → Nat
  | 0 => 0
  | j + 1 => if mxp f j < f j then f j else mxp f j
def amx (f : Nat → Nat) : Nat → Nat
  | 0 => 0
  | j + 1 => if mxp f j < f j then j else amx f j
theorem mxp_congr {f g : Nat → Nat} : ∀ {j : Nat}, (∀ h, h < j → f h = g h) → mxp f j = mxp g j
  | 0, _ => rfl
  | j + 1, h => by
    rw [mxp, mxp, mxp_congr (fun x hx => h x (by omega)), h j (by omega)]
theorem mxp_le {f : Nat → Nat} {B : Nat} : ∀ {j : Nat}, (∀ h, h < j → f h ≤ B) → mxp f j ≤ B
  | 0, _ => Nat.zero_le _
  | j + 1, h => by
    have h1 := mxp_le (f := f) (B := B) (j := j) (fun x hx => h x (by omega))
    have h2 := h j (by omega)
    rw [mxp]; split <;> omega
theorem mxp_ge {f : Nat → Nat} : ∀ {j h : Nat}, h < j → f h ≤ mxp f j
  | 0, h, hh => by omega
  | j + 1, h, hh => by
    rw [mxp]
    by_cases e : h = j
    · subst e; split <;> omega
    · have := mxp_ge (f := f) (j := j) (h := h) (by omega)
      split <;> omega
theorem amx_at {f : Nat → Nat} : ∀ {j : Nat}, 0 < mxp f j → amx f j < j ∧ f (amx f j) = mxp f j
  | 0, h => by simp [mxp] at h
  | j + 1, h => by
    rw [mxp] at h ⊢
    rw [amx]
    by_cases e : mxp f j < f j
    · rw [if_pos e, if_pos e]; exact ⟨by omega, rfl⟩
    · rw [if_neg e] at h
      rw [if_neg e, if_neg e]
      have := amx_at (f := f) (j := j) h
      exact ⟨by omega, this.2⟩
def mxF (wg : Nat → Nat → Bool) (kd : Nat → Nat) (N : Nat) : Nat → Nat → Nat → Nat
  | 0, _, _ => 0
  | u + 1, m, k => mxp (fun h => if (!m.testBit h && wg h k) = true then 1 + mxF wg kd N u (m ||| 2 ^ h) (kd h) else 0) N
def mx (wg : Nat → Nat → Bool) (kd : Nat → Nat) (N m k : Nat) : Nat := mxF wg kd N (256 - m) m k
theorem mxF_st (hN : N ≤ 8) : ∀ (u v m k : Nat), 256 - m ≤ u → 256 - m ≤ v → m < 256 → mxF wg kd N u m k = mxF wg kd N v m k
  | 0, _, m, _, h, _, hm => by omega
  | _ + 1, 0, m, _, _, h, hm => by omega
  | u + 1, v + 1, m, k, h1, h2, hm => by
    rw [mxF, mxF]
    apply mxp_congr
    intro h hh
    by_cases e : (!m.testBit h && wg h k) = true
    · rw [if_pos e, if_pos e]
      have hb : m.testBit h = false := by simp at e; exact e.1
      have := bit_or ⟨m, hm⟩ ⟨h, by omega⟩ hb
      simp only [] at this
      rw [mxF_st hN u v _ _ (by omega) (by omega) (by omega)]
    · rw [if_neg e, if_neg e]
/-- what each holder would bring from here -/
def fH (wg : Nat → Nat → Bool) (kd : Nat → Nat) (N m k h : Nat) : Nat := if (!m.testBit h && wg h k) = true then 1 + mx wg kd N (m ||| 2 ^ h) (kd h) else 0
theorem mx_eq (hN : N ≤ 8) {m k : Nat} (hm : m < 256) : mx wg kd N m k = mxp (fH wg kd N m k) N := by
  unfold mx
  obtain ⟨u, hu⟩ : ∃ u, 256 - m = u + 1 := ⟨255 - m, by omega⟩
  rw [hu, mxF]
  apply mxp_congr
  intro h hh
  unfold fH mx
  by_cases e : (!m.testBit h && wg h k) = true
  · rw [if_pos e, if_pos e]
    have hb : m.testBit h = false := by simp at e; exact e.1
    have := bit_or ⟨m, hm⟩ ⟨h, by omega⟩ hb
    simp only [] at this
    rw [mxF_st hN u (256 - (m ||| 2 ^ h)) _ _ (by omega) (by omega) (by omega)]
  · rw [if_neg e, if_neg e]
theorem mx_le (hN : N ≤ 8) : ∀ (u m k : Nat), 256 - m ≤ u → m < 2 ^ N → pc8 m + mx wg kd N m k ≤ N
  | 0, m, k, h, hm => by
    have := (bit_all ⟨N, by omega⟩).2.2
    simp only [] at this
    omega
  | u + 1, m, k, h, hm => by
    have h2 := (bit_all ⟨N, by omega⟩).2.2
    simp only [] at h2
    have h3 := bit_N ⟨N, by omega⟩ ⟨m, by omega⟩ hm
    simp only [] at h3
    rw [mx_eq hN (by omega)]
    have : mxp (fH wg kd N m k) N ≤ N - pc8 m := by
      apply mxp_le
      intro h hh
      unfold fH
      by_cases e : (!m.testBit h && wg h k) = true
      · rw [if_pos e]
        have hb : m.testBit h = false := by simp at e; exact e.1
        have h4 := bit_or ⟨m, by omega⟩ ⟨h, by omega⟩ hb
        simp only [] at h4
        have h5 := h3.2 ⟨h, by omega⟩ hh
        simp only [] at h5
        have := mx_le hN u (m ||| 2 ^ h) (kd h) (by omega) h5
        omega
      · rw [if_neg e]; omega
    omega
theorem mx_bd (hN : N ≤ 8) {m : Nat} (k : Nat) (hm : m < 2 ^ N) : pc8 m + mx wg kd N m k ≤ N := mx_le hN 256 m k (by omega) hm
def pth (wg : Nat → Nat → Bool) (kd : Nat → Nat) (N : Nat) : Nat → Nat → Nat → List Nat
  | 0, _, _ => []
  | n + 1, m, k => amx (fH wg kd N m k) N :: pth wg kd N n (m ||| 2 ^ amx (fH wg kd N m k) N) (kd (amx (fH wg kd N m k) N))
def path (wg : Nat → Nat → Bool) (kd : Nat → Nat) (N m k : Nat) : List Nat := pth wg kd N (mx wg kd N m k) m k
theorem pth_len : ∀ (n m k : Nat), (pth wg kd N n m k).length = n
  | 0, _, _ => rfl
  | n + 1, m, k => by rw [pth, List.length_cons, pth_len]
theorem path_len (m k : Nat) : (path wg kd N m k).length = mx wg kd N m k := pth_len _ _ _
/-- the row begun by the first j: the first of the longest -/
def pj (wg : Nat → Nat → Bool) (kd : Nat → Nat) (N m k j : Nat) : List Nat := if mxp (fH wg kd N m k) j = 0 then [] else amx (fH wg kd N m k) j :: path wg kd N (m ||| 2 ^ amx (fH wg kd N m k) j) (kd (amx (fH wg kd N m k) j))
theorem fH_mx {m k h : Nat} (e : 0 < fH wg kd N m k h) : fH wg kd N m k h = 1 + mx wg kd N (m ||| 2 ^ h) (kd h) ∧ m.testBit h = false ∧ wg h k = true := by
  unfold fH at *
  by_cases q : (!m.testBit h && wg h k) = true
  · rw [if_pos q]
    simp at q
    exact ⟨rfl, q.1, q.2⟩
  · rw [if_neg q] at e; omega
theorem pj_len {m k j : Nat} : (pj wg kd N m k j).length = mxp (fH wg kd N m k) j := by
  unfold pj
  by_cases e : mxp (fH wg kd N m k) j = 0
  · rw [if_pos e, e]; rfl
  · rw [if_neg e, List.length_cons, path_len]
    have h1 := amx_at (f := fH wg kd N m k) (j := j) (by omega)
    have h2 := fH_mx (wg := wg) (kd := kd) (N := N) (m := m) (k := k) (h := amx (fH wg kd N m k) j) (by omega)
    omega
theorem pj_N (hN : N ≤ 8) {m k : Nat} (hm : m < 256) : pj wg kd N m k N = path wg kd N m k := by
  unfold pj path
  rw [mx_eq hN hm]
  by_cases e : mxp (fH wg kd N m k) N = 0
  · rw [if_pos e, e]; rfl
  · rw [if_neg e]
    have h1 := amx_at (f := fH wg kd N m k) (j := N) (by omega)
    have h2 := fH_mx (wg := wg) (kd := kd) (N := N) (m := m) (k := k) (h := amx (fH wg kd N m k) N) (by omega)
    obtain ⟨n, hn⟩ : ∃ n, mxp (fH wg kd N m k) N = n + 1 := ⟨mxp (fH wg kd N m k) N - 1, by omega⟩
    rw [hn, pth]
    have h3 : mx wg kd N (m ||| 2 ^ amx (fH wg kd N m k) N) (kd (amx (fH wg kd N m k) N)) = n := by omega
    rw [h3]
theorem pj_s {m k j : Nat} : pj wg kd N m k (j + 1) = if mxp (fH wg kd N m k) j < fH wg kd N m k j then j :: path wg kd N (m ||| 2 ^ j) (kd j) else pj wg kd N m k j := by
  unfold pj
  rw [mxp, amx]
  by_cases e : mxp (fH wg kd N m k) j < fH wg kd N m k j
  · rw [if_pos e, if_pos e, if_pos e, if_neg (by omega)]
  · rw [if_neg e, if_neg e, if_neg e]
/-- the longer of two, the first where they are as long -/
def up (x a : List Nat) : List Nat := if x.length < a.length then a else x
theorem up_len (x a : List Nat) : x.length ≤ (up x a).length ∧ a.length ≤ (up x a).length := by
  unfold up; split <;> omega
/-- what is kept after the first j have been tried -/
def cl (wg : Nat → Nat → Bool) (kd : Nat → Nat) (N m k : Nat) (x pf : List Nat) (j : Nat) : List Nat := up x (pf ++ pj wg kd N m k j)
theorem cl_s {m k j : Nat} {x pf : List Nat} : cl wg kd N m k x pf (j + 1) = if (!m.testBit j && wg j k) = true then up (cl wg kd N m k x pf j) ((pf ++ [j]) ++ path wg kd N (m ||| 2 ^ j) (kd j)) else cl wg kd N m k x pf j := by
  unfold cl
  rw [pj_s]
  by_cases q : (!m.testBit j && wg j k) = true
  · rw [if_pos q]
    have hf : fH wg kd N m k j = 1 + mx wg kd N (m ||| 2 ^ j) (kd j) := by unfold fH; rw [if_pos q]
    have hl : ((pf ++ [j]) ++ path wg kd N (m ||| 2 ^ j) (kd j)).length = pf.length + fH wg kd N m k j := by
      rw [List.length_append, List.length_append, List.length_singleton, path_len, hf]; omega
    have hp : (pf ++ pj wg kd N m k j).length = pf.length + mxp (fH wg kd N m k) j := by rw [List.length_append, pj_len]
    by_cases e : mxp (fH wg kd N m k) j < fH wg kd N m k j
    · rw [if_pos e, show pf ++ j :: path wg kd N (m ||| 2 ^ j) (kd j) = (pf ++ [j]) ++ path wg kd N (m ||| 2 ^ j) (kd j) by simp]
      unfold up
      rw [hl]
      by_cases e2 : x.length < (pf ++ pj wg kd N m k j).length
      · rw [if_pos e2, if_pos (by omega), if_pos (by omega)]
      · rw [if_neg e2]
    · rw [if_neg e]
      have h9 := (up_len x (pf ++ pj wg kd N m k j)).2
      generalize up x (pf ++ pj wg kd N m k j) = y at *
      unfold up
      rw [if_neg (by omega)]
  · rw [if_neg q]
    have hf : fH wg kd N m k j = 0 := by unfold fH; rw [if_neg q]
    rw [if_neg (by omega)]
theorem cl_0 {m k : Nat} {x pf : List Nat} (h : pf.length ≤ x.length) : cl wg kd N m k x pf 0 = x := by
  unfold cl pj up
  rw [show mxp (fH wg kd N m k) 0 = 0 from rfl, if_pos rfl, List.append_nil, if_neg (by omega)]
/-- where nothing longer can come, nothing changes -/
theorem cl_full (hN : N ≤ 8) {m k : Nat} {x pf : List Nat} (hm : m < 2 ^ N) (hpf : pf.length = pc8 m) : ∀ (e j : Nat), j + e = N → N ≤ (cl wg kd N m k x pf j).length → cl wg kd N m k x pf N = cl wg kd N m k x pf j
  | 0, j, h, _ => by rw [show N = j by omega]
  | e + 1, j, h, hl => by
    have hs : cl wg kd N m k x pf (j + 1) = cl wg kd N m k x pf j := by
      rw [cl_s]
      by_cases q : (!m.testBit j && wg j k) = true
      · rw [if_pos q]
        have hb : m.testBit j = false := by simp at q; exact q.1
        have h2 := (bit_all ⟨N, by omega⟩).2.2
        simp only [] at h2
        have h4 := bit_or ⟨m, by omega⟩ ⟨j, by omega⟩ hb
        simp only [] at h4
        have h5 := (bit_N ⟨N, by omega⟩ ⟨m, by omega⟩ hm).2 ⟨j, by omega⟩ (by show j < N; omega)
        simp only [] at h5
        have h6 := mx_bd (wg := wg) (kd := kd) hN (kd j) h5
        have hlen : ((pf ++ [j]) ++ path wg kd N (m ||| 2 ^ j) (kd j)).length ≤ N := by
          rw [List.length_append, List.length_append, List.length_singleton, path_len]; omega
        generalize cl wg kd N m k x pf j = y at *
        unfold up
        rw [if_neg (by omega)]
      · rw [if_neg q]
    rw [cl_full hN hm hpf e (j + 1) (by omega) (by rw [hs]; exact hl), hs]
theorem cl_N (hN : N ≤ 8) {m k : Nat} {x pf : List Nat} (hm : m < 256) : cl wg kd N m k x pf N = up x (pf ++ path wg kd N m k) := by
  unfold cl; rw [pj_N hN hm]
end CH
theorem up_up {x a b : List Nat} (h : a.length ≤ b.length) (hp : a.length = b.length → a = b) : up (up x a) b = up x b := by
  unfold up
  by_cases e : x.length < a.length
  · rw [if_pos e]
    by_cases e2 : a.length < b.length
    · rw [if_pos e2, if_pos (by omega)]
    · rw [if_neg e2, if_pos (by omega), hp (by omega)]
  · rw [if_neg e]
