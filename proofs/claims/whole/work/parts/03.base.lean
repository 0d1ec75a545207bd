-- the state of the whole system, in numbers: what a heap of the machine says
def lw_all : List Cond := lw_tbl.filter goodWord
theorem lw_all_in {w : Cond} {k : Nat} (h : lw_tbl[k]? = some w) (hg : goodWord w = true) : w ∈ lw_all := List.mem_filter.mpr ⟨List.mem_of_getElem? h, hg⟩
theorem lw_all_good (y : Cond) (hy : y ∈ lw_all) : GoodIn (y :: lw_all) (y :: lw_all) := fun w hw => ⟨hw, good_of_word (List.mem_filter.mp ((List.mem_cons.mp hw).elim (fun e => e ▸ hy) id)).2⟩
def ab_shl : List (Nat × Nat) := [(11, 11), (10, 4), (23, 4), (20, 4), (20, 4), (20, 4), (20, 4), (20, 4), (6, 2), (20, 24), (6, 2), (20, 24), (7, 7), (20, 4), (20, 4), (20, 4), (7, 7), (20, 4), (20, 4), (20, 4), (9, 6), (21, 160), (1, 7), (24, 12), (23, 6), (20, 4), (20, 4), (20, 4), (20, 4), (20, 4), (20, 4), (4, 5), (4, 5), (4, 5), (4, 5), (4, 5), (4, 5), (4, 5), (4, 5), (4, 5), (4, 5), (4, 5), (4, 5), (1, 7), (24, 12), (23, 6), (20, 4), (20, 4), (20, 4), (20, 4), (20, 4), (20, 4), (4, 5), (4, 5), (4, 5), (4, 5), (4, 5), (4, 5), (4, 5), (4, 5), (4, 5), (4, 5), (4, 5), (4, 5), (5, 6), (20, 2500), (23, 4), (20, 5), (20, 5), (20, 5), (20, 5), (20, 625), (3, 4), (20, 6), (20, 4), (2, 4), (20, 8), (20, 8), (8, 3), (20, 8), (0, 4), (20, 8), (20, 8), (12, 32), (20, 16), (20, 4), (20, 24), (20, 24), (20, 88), (20, 88), (20, 12), (22, 12), (20, 160), (20, 16), (20, 16), (20, 16), (20, 2500), (20, 6), (20, 4), (20, 8), (20, 8), (20, 8), (20, 8), (20, 2048)]
def ab_sh (i : Nat) : Nat × Nat := ab_shl.getD (i - 1) (0, 0)
def ab_ty (k : Nat) : Nat → FieldType := match k with
  | 0 => tyX0
  | 1 => tyX1
  | 2 => tyX2
  | 3 => tyX3
  | 4 => tyX4
  | 5 => tyX5
  | 6 => tyX6
  | 7 => tyX7
  | 8 => tyX8
  | 9 => tyX9
  | 10 => tyX10
  | 11 => tyX11
  | 12 => tyX12
  | _ => fun _ => .int
def ab_six (i : Nat) : Nat := [46, 48, 50, 52, 60, 68, 70, 71, 73, 77, 81, 86, 88, 90, 40].getD i 0
def ab_stx (i : Nat) : String := ["order", "time", "need", "points", "noes", "then", "end", "back", "stay", "grow", "way", "any", "bar", "fall", ";"].getD i ""
def ab_len : List Nat := [5, 4, 4, 6, 4, 4, 3, 4, 4, 4, 3, 3, 3, 4, 1]
def ab_byt : List (List Int32) := [[111, 114, 100, 101, 114], [116, 105, 109, 101], [110, 101, 101, 100], [112, 111, 105, 110, 116, 115], [110, 111, 101, 115], [116, 104, 101, 110], [101, 110, 100], [98, 97, 99, 107], [115, 116, 97, 121], [103, 114, 111, 119], [119, 97, 121], [97, 110, 121], [98, 97, 114], [102, 97, 108, 108], [59]]
abbrev ab_V : Type := Int ⊕ (Int ⊕ Nat)
abbrev ab_i (z : Int) : ab_V := Sum.inl z
abbrev ab_l (z : Int) : ab_V := Sum.inr (Sum.inl z)
abbrev ab_r (i : Nat) : ab_V := Sum.inr (Sum.inr i)
-- launch; class ids; slots; array class ids; the last old address; addresses of old cells; the script's length and values
abbrev ab_G : Type := Launch × (Nat → ClassId) × (Nat → Nat → Nat) × (Nat → ClassId) × Nat × (Nat → Nat) × Nat × (Nat → Int32)
abbrev ab_B (G : ab_G) : Nat := G.2.2.2.2.1
abbrev ab_ax (G : ab_G) : Nat → Nat := G.2.2.2.2.2.1
abbrev ab_cT (G : ab_G) : Nat → ClassId := G.2.2.2.1
abbrev ab_L (G : ab_G) : Nat := G.2.2.2.2.2.2.1
abbrev ab_xs (G : ab_G) : Nat → Int32 := G.2.2.2.2.2.2.2
-- how many cells are made; what ints and longs they hold; what references
abbrev ab_H : Type := Nat × (Nat → Nat → Int) × (Nat → Nat → Nat)
abbrev ab_Y : Type := MethodName × ByteArray × Nat × Option FieldType
def ab_ad (G : ab_G) (i : Nat) : Nat := if i < 1000 then ab_B G + i else ab_ax G i
def ab_rv (G : ab_G) (r : Nat) : Value := if r = 0 then .null else .ref (ab_ad G r)
def ab_c (G : ab_G) : ab_V → Value
  | .inl z => .int (Int32.ofInt z)
  | .inr (.inl z) => .long (Int64.ofInt z)
  | .inr (.inr r) => ab_rv G r
def ab_sv (G : ab_G) (t : Nat) (x : Int) (r : Nat) : Value := match t with
  | 0 => .int (Int32.ofInt x)
  | 1 => ab_rv G r
  | _ => .long (Int64.ofInt x)
def ab_tag (t : FieldType) : Nat := match t with
  | .long => 2
  | .object _ => 1
  | .array _ => 1
  | _ => 0
def ab_et (k : Nat) : FieldType := match k with
  | 20 => .int
  | 21 => .char
  | 22 => .boolean
  | 23 => .array .int
  | _ => .object "ThreeOffers$Person"
def ab_u (I : Nat → Nat → Int) (i j : Nat) (v : Int) : Nat → Nat → Int := fun a b => if a = i ∧ b = j then v else I a b
def ab_w (R : Nat → Nat → Nat) (i j : Nat) (v : Nat) : Nat → Nat → Nat := fun a b => if a = i ∧ b = j then v else R a b
def ab_cell (G : ab_G) (I : Nat → Nat → Int) (R : Nat → Nat → Nat) (i : Nat) (H : Heap) : Prop :=
  if (ab_sh i).1 < 20 then ∃ q : vw_C, vwCl[(ab_sh i).1]? = some q ∧ t_OB (ab_ad G i) (G.2.1 (ab_sh i).1) q.2.2 (G.2.2.1 (ab_sh i).1) H (fun j => ab_sv G (ab_tag (ab_ty (ab_sh i).1 j)) (I i j) (R i j))
  else H[ab_ad G i]? = some (arrV (ab_cT G (ab_sh i).1) (ab_sh i).2 (fun j => ab_sv G (ab_tag (ab_et (ab_sh i).1)) (I i j) (R i j)))
def ab_Rep (G : ab_G) (h : ab_H) (H : Heap) : Prop := h.1 < 1000 ∧ H.size = ab_B G + h.1 + 1 ∧ ∀ i, 1 ≤ i → i ≤ h.1 → ab_cell G h.2.1 h.2.2 i H
def ab_A (G : ab_G) : Nat → Prop := fun q => ab_B G < q
def ab_tys (G : ab_G) : List (ClassId × FieldType) := [(ab_cT G 20, .int), (ab_cT G 21, .char), (ab_cT G 22, .boolean), (ab_cT G 23, .array .int), (ab_cT G 24, .object "ThreeOffers$Person")]
def ab_fig (j : Nat) : Int := [1, 5, 25, 125].getD j 0
def ab_fac (j : Nat) : Int := [1, 1, 2, 6, 24, 120, 720].getD j 0
-- the class of rows of rows, and what its rows are
def ab_AI (G : ab_G) (U : State) : Prop := ∃ (kA kC : Class) (cc : ClassId), U.vm.findClass "[[I" = some (ab_cT G 23) ∧ U.vm.classes[ab_cT G 23]? = some kA ∧ kA.kind = .array (ab_cT G 20) (.array .int) ∧ U.vm.findClass "[I" = some (ab_cT G 20) ∧ U.vm.classes[ab_cT G 20]? = some kC ∧ kC.kind = .array cc .int
theorem ab_AI.moved {G : ab_G} {s U : State} (hal : s.vm.Alike U.vm) (h : ab_AI G s) : ab_AI G U := by
  obtain ⟨kA, kC, cc, h1, h2, h3, h4, h5, h6⟩ := h
  obtain ⟨kA', e1, e2⟩ := hal.2.2 _ _ h2
  obtain ⟨kC', e3, e4⟩ := hal.2.2 _ _ h5
  exact ⟨kA', kC', cc, by rw [hal.findClass]; exact h1, e1, by rw [e2]; exact h3, by rw [hal.findClass]; exact h4, e3, by rw [e4]; exact h6⟩
-- a reference of the machine's own, or null
def ab_fr (G : ab_G) : Nat := if ab_ax G 1004 = 0 then 0 else 1003
def ab_St (G : ab_G) (U : State) (H : Heap) : Prop :=
  va_Z "ThreeOffers" "FIGURES" "[I" (.ref (ab_ax G 1000)) (ab_A G) U H ∧ va_T .int (ab_ax G 1000) 4 (fun j => .int (Int32.ofInt (ab_fig j))) (ab_A G) U H ∧
  va_Z "ThreeOffers" "FACTORIALS" "[I" (.ref (ab_ax G 1001)) (ab_A G) U H ∧ va_T .int (ab_ax G 1001) 7 (fun j => .int (Int32.ofInt (ab_fac j))) (ab_A G) U H ∧
  vk_S 15 ab_len ab_byt (fun i => ab_ax G (1100 + i)) (fun i => ab_ax G (1200 + i)) (ab_A G) U H ∧
  (va_Z "java/lang/String" "COMPACT_STRINGS" "Z" (.int 1) (ab_A G) U H ∧ va_Z "jdk/internal/util/Preconditions" "SIOOBE_FORMATTER" "Ljava/util/function/BiFunction;" (ab_rv G (ab_fr G)) (ab_A G) U H ∧ va_AO "ThreeOffers$Person" U ∧ ab_AI G U) ∧
  (va_X (ab_ax G 1002) (ab_L G) (ab_xs G) U H ∧ ab_ax G 1002 ≤ ab_B G)
-- words of the nest: links to what is private in another class
def lw_nest : List Cond := [.fieldLinkNest RX5 74 "ThreeOffers" "FIGURES" "[I" "ThreeOffers", .fieldLinkNest RX3 60 "ThreeOffers" "FACTORIALS" "[I" "ThreeOffers", .methodLinkNest RX10 22 yX6_init "ThreeOffers", .methodLinkNest RX11 28 yX9_init "ThreeOffers", .methodLinkNest RX1 39 yX4_init "ThreeOffers"]
theorem lw_nest_cases {P : Cond → Prop} (h0 : P (.fieldLinkNest RX5 74 "ThreeOffers" "FIGURES" "[I" "ThreeOffers")) (h1 : P (.fieldLinkNest RX3 60 "ThreeOffers" "FACTORIALS" "[I" "ThreeOffers")) (h2 : P (.methodLinkNest RX10 22 yX6_init "ThreeOffers")) (h3 : P (.methodLinkNest RX11 28 yX9_init "ThreeOffers")) (h4 : P (.methodLinkNest RX1 39 yX4_init "ThreeOffers")) : ∀ w ∈ lw_nest, P w := by
  intro w hw
  unfold lw_nest at hw
  rcases List.mem_cons.mp hw with e | hw
  · rw [e]; exact h0
  rcases List.mem_cons.mp hw with e | hw
  · rw [e]; exact h1
  rcases List.mem_cons.mp hw with e | hw
  · rw [e]; exact h2
  rcases List.mem_cons.mp hw with e | hw
  · rw [e]; exact h3
  rw [List.mem_singleton.mp hw]; exact h4
theorem lw_nest_in {k : Nat} {w : Cond} (h : lw_nest[k]? = some w) : w ∈ lw_nest := List.mem_of_getElem? h
theorem lw_nest_tab {w : Cond} (h : w ∈ lw_nest) : w.onTables = true := lw_nest_cases (P := fun w => w.onTables = true) rfl rfl rfl rfl rfl w h
theorem lw_nest_warm {s U : State} (hW : s.WarmedH U.vm) (h : ∀ w ∈ lw_nest, va_Nw w s) : ∀ w ∈ lw_nest, va_Nw w U :=
  lw_nest_cases (P := fun w => va_Nw w U) (va_Nw.warmF hW (h _ (lw_nest_in (k := 0) rfl))) (va_Nw.warmF hW (h _ (lw_nest_in (k := 1) rfl))) (va_Nw.warmM hW (h _ (lw_nest_in (k := 2) rfl))) (va_Nw.warmM hW (h _ (lw_nest_in (k := 3) rfl))) (va_Nw.warmM hW (h _ (lw_nest_in (k := 4) rfl)))
def ab_Gl (G : ab_G) (U : State) : Prop :=
  va_K (G.2.1, G.2.2.1) vwCl (ab_tys G) U ∧ ab_St G U U.heap ∧ (∀ i, i < 15 → vk_R "ThreeOffers$Text" (ab_six i) (ab_stx i) (ab_ax G (1100 + i)) U) ∧ ab_B G < U.heap.size ∧ ∀ w ∈ lw_nest, va_Nw w U
theorem ab_St.moved {G : ab_G} {s U : State} {H : Heap} (hal : s.vm.Alike U.vm) (h : ab_St G s H) : ab_St G U H :=
  ⟨h.1.moved hal, h.2.1.moved hal, h.2.2.1.moved hal, h.2.2.2.1.moved hal, h.2.2.2.2.1.moved hal, ⟨h.2.2.2.2.2.1.1.moved hal, h.2.2.2.2.2.1.2.1.moved hal, h.2.2.2.2.2.1.2.2.1.moved hal, h.2.2.2.2.2.1.2.2.2.moved hal⟩, h.2.2.2.2.2.2.1.moved hal, h.2.2.2.2.2.2.2⟩
theorem ab_St.kept {G : ab_G} {U : State} {H H1 : Heap} (hq : ∀ q : Nat, q ≤ ab_B G → H1[q]? = H[q]?) (h : ab_St G U H) : ab_St G U H1 := by
  have hq' : ∀ a : Nat, a < H.size → ¬ ab_A G a → H1[a]? = H[a]? := fun a _ ha => hq a (Nat.not_lt.mp ha)
  exact ⟨h.1.kept hq', h.2.1.kept hq', h.2.2.1.kept hq', h.2.2.2.1.kept hq', h.2.2.2.2.1.kept hq', ⟨h.2.2.2.2.2.1.1.kept hq', h.2.2.2.2.2.1.2.1.kept hq', h.2.2.2.2.2.1.2.2⟩, h.2.2.2.2.2.2.1.kept (hq _ h.2.2.2.2.2.2.2), h.2.2.2.2.2.2.2⟩
theorem ab_Gl.warm {G : ab_G} {s U : State} (hW : s.WarmedH U.vm) (hq : ∀ q : Nat, q ≤ ab_B G → U.heap[q]? = s.heap[q]?) (hb : ab_B G < U.heap.size) (h : ab_Gl G s) : ab_Gl G U :=
  ⟨h.1.moved hW.alike, (h.2.1.moved hW.alike).kept hq, fun i hi => (h.2.2.1 i hi).warm hW, hb, lw_nest_warm hW h.2.2.2.2⟩
theorem ab_Gl.same {G : ab_G} {s U : State} (hv : U.vm = s.vm) (hh : U.heap = s.heap) (h : ab_Gl G s) : ab_Gl G U := by
  refine ⟨h.1.moved (hv ▸ Vm.Alike.refl _), ?_, fun i hi => (h.2.2.1 i hi).same hv, by rw [hh]; exact h.2.2.2.1, fun w hw => (h.2.2.2.2 w hw).same (lw_nest_tab hw) hv.symm⟩
  rw [hh]
  exact h.2.1.moved (hv ▸ Vm.Alike.refl _)
-- locals
def ab_lo (G : ab_G) : Nat → List (Option ab_V) → List (Nat × Value)
  | _, [] => []
  | k, none :: t => ab_lo G (k + 1) t
  | k, some v :: t => (k, ab_c G v) :: ab_lo G (k + 1) t
theorem ab_lo_at {G : ab_G} : ∀ {ls : List (Option ab_V)} {k j : Nat} {v : ab_V}, ls[j]? = some (some v) → (k + j, ab_c G v) ∈ ab_lo G k ls
  | [], k, j, v, h => by simp at h
  | none :: t, k, 0, v, h => by simp at h
  | some w :: t, k, 0, v, h => by
    simp at h
    subst h
    exact List.mem_cons_self
  | none :: t, k, j + 1, v, h => by
    have := ab_lo_at (G := G) (ls := t) (k := k + 1) (j := j) (v := v) (by simpa using h)
    rw [show k + (j + 1) = k + 1 + j by omega]
    exact this
  | some w :: t, k, j + 1, v, h => by
    have := ab_lo_at (G := G) (ls := t) (k := k + 1) (j := j) (v := v) (by simpa using h)
    rw [show k + (j + 1) = k + 1 + j by omega]
    exact List.mem_cons_of_mem _ this
theorem ab_lo_of {G : ab_G} : ∀ {ls : List (Option ab_V)} {k : Nat} {q : Nat × Value}, q ∈ ab_lo G k ls → ∃ (j : Nat) (v : ab_V), ls[j]? = some (some v) ∧ q = (k + j, ab_c G v)
  | [], k, q, h => by simp [ab_lo] at h
  | none :: t, k, q, h => by
    obtain ⟨j, v, h1, h2⟩ := ab_lo_of (ls := t) (k := k + 1) h
    exact ⟨j + 1, v, by simpa using h1, by rw [h2]; congr 1; omega⟩
  | some w :: t, k, q, h => by
    rcases List.mem_cons.mp h with h | h
    · exact ⟨0, w, rfl, h⟩
    · obtain ⟨j, v, h1, h2⟩ := ab_lo_of (ls := t) (k := k + 1) h
      exact ⟨j + 1, v, by simpa using h1, by rw [h2]; congr 1; omega⟩
def ab_isl : Option ab_V → Bool
  | some (.inr (.inl _)) => true
  | _ => false
def ab_clr (ls : List (Option ab_V)) (i : Nat) : List (Option ab_V) := match i with
  | 0 => ls
  | i + 1 => match ls[i]? with
    | some (some (.inr (.inl _))) => ls.set i none
    | _ => ls
def ab_st1 (ls : List (Option ab_V)) (i : Nat) (v : ab_V) : List (Option ab_V) := (ab_clr ls i).set i (some v)
def ab_st2 (ls : List (Option ab_V)) (i : Nat) (v : ab_V) : List (Option ab_V) := ((ab_clr ls i).set i (some v)).set (i + 1) none
theorem ab_clr_at {ls : List (Option ab_V)} {i j : Nat} {v : ab_V} (h : (ab_clr ls i)[j]? = some (some v)) : ls[j]? = some (some v) ∧ ¬ (j + 1 = i ∧ ab_isl (some v) = true) := by
  cases i with
  | zero => exact ⟨h, by omega⟩
  | succ i =>
    unfold ab_clr at h
    simp only at h
    split at h
    · rename_i w hw
      by_cases hij : i = j
      · subst hij
        rw [List.getElem?_set_self (List.getElem?_eq_some_iff.mp hw).1] at h
        simp at h
      · rw [List.getElem?_set_ne hij] at h
        exact ⟨h, by omega⟩
    · rename_i hne
      refine ⟨h, fun ⟨h1, h2⟩ => ?_⟩
      have h1 : j = i := by omega
      subst h1
      match v, h2 with
      | .inr (.inl z), _ => exact hne z h
theorem ab_cat (G : ab_G) (v : ab_V) : (ab_c G v).category = if ab_isl (some v) = true then 2 else 1 := by
  match v with
  | .inl z => rfl
  | .inr (.inl z) => rfl
  | .inr (.inr r) =>
    show (ab_rv G r).category = _
    unfold ab_rv
    split <;> rfl
theorem ab_has1 {G : ab_G} {ls : List (Option ab_V)} {nL i : Nat} {v : ab_V} {l' : Array Slot} (h : lv_has l' nL ((i, ab_c G v) :: (ab_lo G 0 ls).filter (fun q => !(q.1 == i) && !(q.1 + 1 == i && q.2.category == 2)))) : lv_has l' nL (ab_lo G 0 (ab_st1 ls i v)) := by
  refine ⟨h.1, h.2.1, fun q hq => ?_⟩
  obtain ⟨j, w, hj, rfl⟩ := ab_lo_of hq
  apply h.2.2
  unfold ab_st1 at hj
  by_cases hij : i = j
  · subst hij
    have hl := (List.getElem?_eq_some_iff.mp hj).1
    rw [List.length_set] at hl
    rw [List.getElem?_set_self hl] at hj
    cases hj
    rw [Nat.zero_add]
    exact List.mem_cons_self
  · rw [List.getElem?_set_ne hij] at hj
    obtain ⟨h1, h2⟩ := ab_clr_at hj
    refine List.mem_cons_of_mem _ (List.mem_filter.mpr ⟨ab_lo_at h1, ?_⟩)
    have hc := ab_cat G w
    simp only [Nat.zero_add, Bool.and_eq_true, Bool.not_eq_true', beq_eq_false_iff_ne, ne_eq, Bool.and_eq_false_iff]
    refine ⟨fun e => hij e.symm, ?_⟩
    by_cases e : j + 1 = i
    · right
      intro e2
      rw [hc] at e2
      split at e2
      · rename_i e3; exact h2 ⟨e, e3⟩
      · cases e2
    · left; exact e
theorem ab_has2 {G : ab_G} {ls : List (Option ab_V)} {nL i : Nat} {v : ab_V} {l' : Array Slot} (h : lv_has l' nL ((i, ab_c G v) :: (ab_lo G 0 ls).filter (fun q => !(q.1 == i) && (!(q.1 == i + 1) && !(q.1 + 1 == i && q.2.category == 2))))) : lv_has l' nL (ab_lo G 0 (ab_st2 ls i v)) := by
  refine ⟨h.1, h.2.1, fun q hq => ?_⟩
  obtain ⟨j, w, hj, rfl⟩ := ab_lo_of hq
  apply h.2.2
  unfold ab_st2 at hj
  by_cases hij1 : i + 1 = j
  · subst hij1
    have hl := (List.getElem?_eq_some_iff.mp hj).1
    rw [List.length_set] at hl
    rw [List.getElem?_set_self hl] at hj
    cases hj
  · rw [List.getElem?_set_ne hij1] at hj
    by_cases hij : i = j
    · subst hij
      have hl := (List.getElem?_eq_some_iff.mp hj).1
      rw [List.length_set] at hl
      rw [List.getElem?_set_self hl] at hj
      cases hj
      rw [Nat.zero_add]
      exact List.mem_cons_self
    · rw [List.getElem?_set_ne hij] at hj
      obtain ⟨h1, h2⟩ := ab_clr_at hj
      refine List.mem_cons_of_mem _ (List.mem_filter.mpr ⟨ab_lo_at h1, ?_⟩)
      have hc := ab_cat G w
      simp only [Nat.zero_add, Bool.and_eq_true, Bool.not_eq_true', beq_eq_false_iff_ne, ne_eq, Bool.and_eq_false_iff]
      refine ⟨fun e => hij e.symm, fun e => hij1 e.symm, ?_⟩
      by_cases e : j + 1 = i
      · right
        intro e2
        rw [hc] at e2
        split at e2
        · rename_i e3; exact h2 ⟨e, e3⟩
        · cases e2
      · left; exact e
theorem ab_has_ld {G : ab_G} {ls : List (Option ab_V)} {nL i : Nat} {v : ab_V} {l' : Array Slot} (h : lv_has l' nL (ab_lo G 0 ls)) (hi : ls[i]? = some (some v)) : l'[i]? = some (.val (ab_c G v)) := by
  have := h.2.2 _ (ab_lo_at (G := G) (k := 0) hi)
  rwa [Nat.zero_add] at this
-- fewer known locals
def ab_le : List (Option ab_V) → List (Option ab_V) → Prop := fun a b => ∀ (j : Nat) (v : ab_V), a[j]? = some (some v) → b[j]? = some (some v)
theorem ab_has_le {G : ab_G} {a b : List (Option ab_V)} {nL : Nat} {l' : Array Slot} (h : lv_has l' nL (ab_lo G 0 b)) (hab : ab_le a b) : lv_has l' nL (ab_lo G 0 a) := by
  refine ⟨h.1, h.2.1, fun q hq => ?_⟩
  obtain ⟨j, w, hj, rfl⟩ := ab_lo_of hq
  exact h.2.2 _ (ab_lo_at (hab j w hj))
-- the locals at a method's entry
def ab_en : List ab_V → List (Option ab_V)
  | [] => []
  | .inr (.inl z) :: t => some (.inr (.inl z)) :: none :: ab_en t
  | v :: t => some v :: ab_en t
theorem ab_en_args (G : ab_G) : ∀ (as : List ab_V) (k : Nat), lv_args k (as.map (ab_c G)) = ab_lo G k (ab_en as)
  | [], k => rfl
  | .inl z :: t, k => by
    show (k, _) :: lv_args (k + 1) _ = _
    rw [ab_en_args G t (k + 1)]; rfl
  | .inr (.inl z) :: t, k => by
    show (k, _) :: lv_args (k + 2) _ = _
    rw [ab_en_args G t (k + 2)]; rfl
  | .inr (.inr r) :: t, k => by
    have hc : ¬ (ab_c G (.inr (.inr r))).category = 2 := by rw [ab_cat, if_neg (by simp [ab_isl])]; decide
    show (k, _) :: lv_args (if (ab_c G (.inr (.inr r))).category = 2 then k + 2 else k + 1) _ = _
    rw [if_neg hc, ab_en_args G t (k + 1)]; rfl
theorem ab_en_len (G : ab_G) : ∀ (as : List ab_V), (lg_sl (as.map (ab_c G))).length = (ab_en as).length
  | [] => rfl
  | .inl z :: t => by
    have := ab_en_len G t
    simp [lg_sl, ab_en, ab_c, Value.category] at this ⊢
    omega
  | .inr (.inl z) :: t => by
    have := ab_en_len G t
    simp [lg_sl, ab_en, ab_c, Value.category] at this ⊢
    omega
  | .inr (.inr r) :: t => by
    have := ab_en_len G t
    have hc : ¬ (ab_rv G r).category = 2 := by unfold ab_rv; split <;> simp [Value.category]
    simp [lg_sl, ab_en, ab_c, hc] at this ⊢
    omega
theorem ab_lo_pad (G : ab_G) (ls : List (Option ab_V)) (n : Nat) {l' : Array Slot} {nL : Nat} (h : lv_has l' nL (ab_lo G 0 ls)) : lv_has l' nL (ab_lo G 0 (ls ++ List.replicate n none)) := by
  refine ab_has_le h (fun j v hj => ?_)
  by_cases hl : j < ls.length
  · rw [List.getElem?_append_left hl] at hj; exact hj
  · rw [List.getElem?_append_right (by omega)] at hj
    have := List.mem_of_getElem? hj
    have := (List.mem_replicate.mp this).2
    cases this

