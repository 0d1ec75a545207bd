-- an array of rows, made at once
def mgF (b i : Nat) : Nat → Value := fun j => if j < i then .ref (b + 1 + j) else .null
def mgS (s : State) (c comp : ClassId) (N M : Nat) : Nat → State
  | 0 => s.pushCell (arrV c N (mgF s.heap.size 0))
  | i + 1 => ((mgS s c comp N M i).pushCell (arrV comp M (fun _ => .int 0))).setCell s.heap.size (arrV c N (mgF s.heap.size (i + 1)))
theorem mgF_s (b i : Nat) : updV (mgF b i) i (.ref (b + 1 + i)) = mgF b (i + 1) := by
  funext j
  unfold updV mgF
  by_cases e : j = i
  · rw [if_pos e, if_pos (by omega), e]
  · rw [if_neg e]
    by_cases e2 : j < i
    · rw [if_pos e2, if_pos (by omega)]
    · rw [if_neg e2, if_neg (by omega)]
theorem mg_facts (s : State) (c comp : ClassId) (N M : Nat) : ∀ i, (mgS s c comp N M i).heap.size = s.heap.size + 1 + i ∧ (mgS s c comp N M i).heap[s.heap.size]? = some (arrV c N (mgF s.heap.size i)) ∧ (mgS s c comp N M i).vm = s.vm ∧ (mgS s c comp N M i).slotsUsed = s.slotsUsed + N + i * M ∧ (∀ a : Nat, a < s.heap.size → (mgS s c comp N M i).heap[a]? = s.heap[a]?) ∧ ∀ j, j < i → (mgS s c comp N M i).heap[s.heap.size + 1 + j]? = some (arrV comp M (fun _ => .int 0))
  | 0 => ⟨by simp [mgS], by simp [mgS], rfl, by simp [mgS, arrV_size], fun a ha => State.heap_pushCell_of_lt _ _ ha, fun j hj => by omega⟩
  | i + 1 => by
    obtain ⟨a1, a2, a3, a4, a5, a6⟩ := mg_facts s c comp N M i
    have hlt : s.heap.size < (mgS s c comp N M i).heap.size := by omega
    have hb : ((mgS s c comp N M i).pushCell (arrV comp M (fun _ => .int 0))).heap[s.heap.size]? = some (arrV c N (mgF s.heap.size i)) := by rw [State.heap_pushCell_of_lt (h := hlt)]; exact a2
    refine ⟨?_, State.heap_setCell_self hb, by simp [mgS, a3], ?_, fun a ha => ?_, fun j hj => ?_⟩
    · simp [mgS, State.setCell, a1]; omega
    · simp [mgS, a4, arrV_size, Nat.succ_mul]; omega
    · show (((mgS s c comp N M i).pushCell (arrV comp M (fun _ => .int 0))).setCell s.heap.size _).heap[a]? = _
      rw [State.heap_setCell_other (Nat.ne_of_gt ha), State.heap_pushCell_of_lt (h := Nat.lt_trans ha hlt)]
      exact a5 a ha
    · show (((mgS s c comp N M i).pushCell (arrV comp M (fun _ => .int 0))).setCell s.heap.size _).heap[s.heap.size + 1 + j]? = _
      rw [State.heap_setCell_other (show s.heap.size ≠ s.heap.size + 1 + j by omega)]
      by_cases e : j < i
      · rw [State.heap_pushCell_of_lt (h := (show s.heap.size + 1 + j < (mgS s c comp N M i).heap.size by rw [a1]; omega))]
        exact a6 j e
      · have e2 : j = i := by omega
        subst e2
        rw [← a1]
        exact State.heap_pushCell_size _ _
theorem mg_top (s : State) (f : JFrame) (c comp : ClassId) (N M : Nat) : ∀ i, mgS (s.setTop f) c comp N M i = (mgS s c comp N M i).setTop f
  | 0 => rfl
  | i + 1 => by simp only [mgS, mg_top s f c comp N M i, State.heap_setTop, State.pushCell_setTop, State.setCell_setTop]
section MG
variable {p : Program} {l : Launch} {e : Env} {R : Room} {s : State} {m : MethodId} {args : Array Value} {below : List Frame} {meth : Method} {c : Code} {T : State} {locs : List Loc} {cells slots : Nat}
theorem mg_stand (X : Stand p l e R s m args below meth c T locs cells slots) (cA comp : ClassId) (N M : Nat) : ∀ i, Stand p l e R s m args below meth c (mgS T cA comp N M i) (locs ++ (List.range i).map fun j => ⟨T.heap.size, j⟩) (cells + 1 + i) (slots + N + i * M)
  | 0 => by
    have h := X.pushed (arrV cA N (mgF T.heap.size 0))
    rw [arrV_size] at h
    simpa [mgS] using h
  | i + 1 => by
    have Xi := mg_stand X cA comp N M i
    obtain ⟨a1, a2, -⟩ := mg_facts T cA comp N M i
    have hcell : ((mgS T cA comp N M i).pushCell (arrV comp M (fun _ => .int 0))).heap[T.heap.size]? = some (arrV cA N (mgF T.heap.size i)) := by
      rw [State.heap_pushCell_of_lt (h := (show T.heap.size < (mgS T cA comp N M i).heap.size by rw [a1]; omega))]; exact a2
    have h := (Xi.pushed (arrV comp M (fun _ => .int 0))).stored hcell i (.ref (T.heap.size + 1 + i))
    rw [arrV_size, arrV_store, mgF_s] at h
    have e2 : (locs ++ (List.range (i + 1)).map fun j => (⟨T.heap.size, j⟩ : Loc)) = (locs ++ (List.range i).map fun j => (⟨T.heap.size, j⟩ : Loc)) ++ [⟨T.heap.size, i⟩] := by simp [List.range_succ, List.append_assoc]
    have e3 : slots + N + (i + 1) * M = slots + N + i * M + M := by rw [Nat.succ_mul]; omega
    rw [e2, e3]
    exact h
end MG
section MGW
variable {E : CtlPost} {e : Env} {d : Bool} {acts : List Action} {s : State}
theorem mg_make {c comp cc : ClassId} {k kc : Class} {n m : Int32} {N M : Nat} (hN : n.toNatClampNeg = N) (hM : m.toNatClampNeg = M) (hk : s.vm.classes[c]? = some k) (hkind : k.kind = .array comp (.array .int)) (hkc : s.vm.classes[comp]? = some kc) (hkindc : kc.kind = .array cc .int) (hn : ¬ n < 0) (hm : ¬ m < 0)
    (hl1 : ¬ N > e.platform.arrayLengthLimit) (hh1 : ¬ N * componentBytes (.array .int) > e.platform.maxHeapBytes) (hl2 : ¬ M > e.platform.arrayLengthLimit) (hh2 : ¬ M * componentBytes .int > e.platform.maxHeapBytes)
    (hc : s.heap.size + 1 + N ≤ e.platform.maxCells) (hs : s.slotsUsed + N + N * M ≤ e.platform.maxSlots)
    {Q : Addr → Pre} (hq : ∀ d' acts', Q s.heap.size d' acts' (mgS s c comp N M N)) : wp (multianewarray.make c [n, m]) Q E e d acts s := by
  subst hN
  subst hM
  have hfind : ([m].find? (· < 0)) = none := by simp [hm]
  rw [multianewarray.make]
  simp only [wp_bind', W.ite, hn, if_false, wp_pure', W.theClass, hk, hkind, Option.some.injEq, exists_eq_left']
  refine W.newArray_of hk hkind hl1 hh1 (by omega) (by have := Nat.zero_le (n.toNatClampNeg * m.toNatClampNeg); omega) rfl (fun acts9 => ?_)
  simp only [hfind]
  rw [ite_self, wp_bind', Std.Legacy.Range.forIn_eq_forIn_range']
  have hsz : ([:n.toNatClampNeg] : Std.Legacy.Range).size = n.toNatClampNeg := by simp [Std.Legacy.Range.size]
  rw [hsz, arrV_new, show (fun _ => Value.null : Nat → Value) = mgF s.heap.size 0 from by funext j; unfold mgF; rw [if_neg (by omega)]]
  show wp (forIn (List.range' 0 n.toNatClampNeg 1) PUnit.unit _) _ E e d acts9 _
  refine wp_forIn_inv (fun rest s' => ∃ i, i ≤ n.toNatClampNeg ∧ rest = List.range' i (n.toNatClampNeg - i) ∧ s' = mgS s c comp n.toNatClampNeg m.toNatClampNeg i) _ _ ⟨0, Nat.zero_le _, rfl, rfl⟩ ?_ ?_
  · rintro x rest s' d' acts' Q' ⟨i, hi, hl, rfl⟩ hnext
    have hlt : i < n.toNatClampNeg := by
      by_cases h : i < n.toNatClampNeg
      · exact h
      · rw [show n.toNatClampNeg - i = 0 from by omega] at hl; simp at hl
    have hl9 : x = i ∧ rest = List.range' (i + 1) (n.toNatClampNeg - (i + 1)) := by
      rw [show n.toNatClampNeg - i = (n.toNatClampNeg - (i + 1)) + 1 from by omega, List.range'_succ] at hl
      exact ⟨(List.cons.inj hl).1, (List.cons.inj hl).2⟩
    obtain ⟨hx, hrest⟩ := hl9
    subst hx
    obtain ⟨f1, f2, f3, f4, -⟩ := mg_facts s c comp n.toNatClampNeg m.toNatClampNeg x
    have hmul : x * m.toNatClampNeg + m.toNatClampNeg ≤ n.toNatClampNeg * m.toNatClampNeg := by
      have := Nat.mul_le_mul_right m.toNatClampNeg (show x + 1 ≤ n.toNatClampNeg from hlt)
      rw [Nat.succ_mul] at this; exact this
    simp only [wp_bind']
    rw [multianewarray.make]
    simp only [wp_bind', W.ite, hm, if_false, wp_pure', W.theClass, f3, hkc, hkindc, Option.some.injEq, exists_eq_left']
    refine W.newArray_of (by rw [f3]; exact hkc) hkindc hl2 hh2 (by rw [f1]; omega) (by rw [f4]; omega) rfl (fun acts8 => ?_)
    rw [arrV_new]
    simp only [wp_bind', W.writeLoc, wp_pure']
    refine ⟨arrV c n.toNatClampNeg (mgF s.heap.size x), by rw [State.heap_pushCell_of_lt (h := (show s.heap.size < (mgS s c comp n.toNatClampNeg m.toNatClampNeg x).heap.size by rw [f1]; omega))]; exact f2, by simp [arrV], by rw [arrV_size]; exact hlt, ?_, hnext _ _ _ ⟨x + 1, hlt, hrest, ?_⟩⟩
    · simp [arrV, State.fitsSlot, State.slotType?, f3, hk, hkind, fits]
    · rw [f1, arrV_store, mgF_s]; rfl
  · rintro s' d' acts' ⟨i, hi, hl, rfl⟩
    have hiN : i = n.toNatClampNeg := by
      by_cases h : i < n.toNatClampNeg
      · rw [show n.toNatClampNeg - i = (n.toNatClampNeg - (i + 1)) + 1 from by omega, List.range'_succ] at hl; cases hl
      · omega
    subst hiN
    simp only [wp_pure']
    exact hq _ _
end MGW
section MGA
variable {G : ab_G} {Y : ab_Y} {R : Room} {Z : ab_Zt} {kc ks : Nat} {n : Nat} {I : Nat → Nat → Int} {F : Nat → Nat → Nat} {pc : Nat} {ls : List (Option ab_V)} {st : List ab_V}
theorem aw_multi {idx N M : Nat} {za zb : Int} (hd : decode Y.2.1 pc = .ok (.multianewarray idx 2, 4)) (hcl : Cond.classLink Y.1.cls idx "[[I" ∈ lw_all) (hsh : ab_sh (n + 1) = (23, N)) (hsi : ∀ j, j < N → ab_sh (n + 2 + j) = (20, M)) (hn : n + (1 + N) < 1000) (hI : ∀ i j, n < i → I i j = 0) (ha0 : ¬ Int32.ofInt za < 0) (hb0 : ¬ Int32.ofInt zb < 0) (ha1 : (Int32.ofInt za).toNatClampNeg = N) (hb1 : (Int32.ofInt zb).toNatClampNeg = M) (hN9 : N ≤ 1000) (hM9 : M ≤ 1000) (h3 : kc + (1 + N) ≤ R.cells) (h4 : ks + (N + N * M) ≤ R.slots)
    (kk : aW G Y R Z (kc + 1 + N) (ks + N + N * M) (n + (1 + N), I, rw_ F (n + 1) (fun j => if j < N then n + 2 + j else 0)) (pc + 4) ls (ab_r (n + 1) :: st)) : aW G Y R Z kc ks (n, I, F) pc ls (ab_i zb :: ab_i za :: st) := by
  intro p e s m args below meth c Cx H locs lsr hR hO hL hl T hT X
  have hts := Cx.2.2.2.2.2.1
  have hG := Cx.2.2.2.2.2.2.2.2
  have hs : H.size = ab_B G + n + 1 := hR.2.1
  have hsz : H.size = ab_ad G (n + 1) := by rw [hs, ab_ad_lt (by omega)]; omega
  have hexec := Cx.1
  have hdg : decode c.code pc = .ok (.multianewarray idx 2, 4) := by rw [Cx.2.1]; exact hd
  subst hT
  obtain ⟨kA, kC, cc, q1, q2, q3, q4, q5, q6⟩ := hG.2.1.2.2.2.2.2.1.2.2.2
  have hpl : e.platform.magicAccessors = ({} : Platform).magicAccessors := by rw [X.admits.platform]
  obtain ⟨c0, hfc0, hcl0⟩ := Cond.classLink_spec Cx.2.2.2.2.1 (hts _ hcl) e.platform hpl
  have hc0 : c0 = ab_cT G 23 := Option.some.inj (hfc0.symm.trans q1)
  subst hc0
  obtain ⟨hg₁, hwarm₁, hready₁⟩ := State.classEntry (e := e) X.warmed hcl0
  generalize T.vm.noted m.cls idx (.cls (ab_cT G 23)) = vm₁ at hg₁ hwarm₁ hready₁
  have hal : s.vm.Alike vm₁ := hwarm₁.alike
  obtain ⟨kA₁, hkA₁, heA⟩ := hal.2.2 _ _ q2
  obtain ⟨kC₁, hkC₁, heC⟩ := hal.2.2 _ _ q5
  have hkindA₁ : kA₁.kind = .array (ab_cT G 20) (.array .int) := by rw [heA]; exact q3
  have hkindC₁ : kC₁.kind = .array cc .int := by rw [heC]; exact q6
  have X₁ := X.noted hwarm₁
  obtain ⟨hr1, hr2⟩ := X.roomAbove h3 h4
  have XF := mg_stand X₁ (ab_cT G 23) (ab_cT G 20) N M N
  obtain ⟨f1, f2, f3, f4, f5, f6⟩ := mg_facts (T.setVm vm₁) (ab_cT G 23) (ab_cT G 20) N M N
  have hTs : (T.setVm vm₁).heap = T.heap := rfl
  rw [hTs] at f1 f2 f5 f6
  have hR1 : ab_Rep G (n + (1 + N), I, rw_ F (n + 1) (fun j => if j < N then n + 2 + j else 0)) (mgS (T.setVm vm₁) (ab_cT G 23) (ab_cT G 20) N M N).heap := by
    refine hR.more (1 + N) hn (by rw [f1]; omega) f5 (fun _ _ _ => rfl) (fun i j hi => rw_n (by omega)) (fun i h1 h2 => ?_)
    by_cases e9 : i = n + 1
    · subst e9
      unfold ab_cell
      rw [hsh, if_neg (show ¬ (23 : Nat) < 20 by decide), ← hsz, f2]
      congr 2
      funext j
      show mgF T.heap.size N j = ab_rv G (rw_ F (n + 1) _ (n + 1) j)
      rw [rw_s]
      unfold mgF
      by_cases e8 : j < N
      · rw [if_pos e8, if_pos e8]
        unfold ab_rv
        rw [if_neg (by omega), ab_ad_lt (by omega), hs]
        exact congrArg Value.ref (show (ab_B G + n + 1 + 1 + j : Nat) = ab_B G + (n + 2 + j) by omega)
      · rw [if_neg e8, if_neg e8]; rfl
    · obtain ⟨j, rfl⟩ : ∃ j, i = n + 2 + j := ⟨i - (n + 2), by omega⟩
      unfold ab_cell
      rw [hsi j (by omega), if_neg (show ¬ (20 : Nat) < 20 by decide), show ab_ad G (n + 2 + j) = T.heap.size + 1 + j by rw [ab_ad_lt (by omega), hs]; omega, f6 j (by omega)]
      congr 2
      funext x
      rw [hI _ _ (by omega)]; rfl
  have k9 := kk p e s m args below meth c Cx _ _ lsr hR1 (fun q hq => by rw [f5 q (by rw [hs]; omega)]; exact hO q hq) (fun q hq => ?_) hl _ rfl XF
  · obtain ⟨t', b1, b2⟩ := k9
    refine ⟨t', ?_, b2⟩
    rw [List.map_cons, aw_rv (by omega), ← hsz] at b1
    have hl1 : ¬ N > e.platform.arrayLengthLimit := by rw [Launch.admits_arrayLengthLimit X.admits]; omega
    have hh1 : ¬ N * componentBytes (.array .int) > e.platform.maxHeapBytes := by
      rw [Launch.admits_maxHeapBytes X.admits]; show ¬ N * 4 > 536870912; omega
    have hl2 : ¬ M > e.platform.arrayLengthLimit := by rw [Launch.admits_arrayLengthLimit X.admits]; omega
    have hh2 : ¬ M * componentBytes .int > e.platform.maxHeapBytes := by rw [Launch.admits_maxHeapBytes X.admits]; show ¬ M * 4 > 536870912; omega
    jvm_step X.here [hexec, hdg]
    simp only [multianewarray.sem, wp_bind', W.resolveClassAt_links (State.method?_setTop (F0 m pc lsr (ab_c G (ab_i zb) :: ab_c G (ab_i za) :: st.map (ab_c G))) X.here.top) hg₁]
    rw [W.popN, if_neg (by decide)]
    refine ⟨F0 m pc lsr (ab_c G (ab_i zb) :: ab_c G (ab_i za) :: st.map (ab_c G)), State.topJava?_setTop' (s := T.setVm vm₁) _ X.here.top, [.int (Int32.ofInt za), .int (Int32.ofInt zb)], st.map (ab_c G), rfl, rfl, ?_⟩
    simp only [List.mapM_cons, List.mapM_nil, wp_bind', wp_pure']
    refine mg_make (k := kA₁) (kc := kC₁) (cc := cc) ha1 hb1 hkA₁ hkindA₁ hkC₁ hkindC₁ ha0 hb0 hl1 hh1 hl2 hh2 (by show T.heap.size + 1 + _ ≤ _; omega) (by show T.slotsUsed + _ + _ ≤ _; omega) (fun d' acts' => ?_)
    have eS : ((T.setTop (F0 m pc lsr (ab_c G (ab_i zb) :: ab_c G (ab_i za) :: st.map (ab_c G)))).setVm vm₁).setTop { (F0 m pc lsr (ab_c G (ab_i zb) :: ab_c G (ab_i za) :: st.map (ab_c G))) with stack := st.map (ab_c G) } = (T.setVm vm₁).setTop { (F0 m pc lsr (ab_c G (ab_i zb) :: ab_c G (ab_i za) :: st.map (ab_c G))) with stack := st.map (ab_c G) } := by
      show ((T.setVm vm₁).setTop _).setTop _ = _
      rw [State.setTop_setTop]
    rw [eS, mg_top]
    simp only [wp_bind', W.mark, W.pushRef, State.topJava?_setTop' _ XF.here.top, Option.some.injEq, exists_eq_left', State.setTop_setTop, State.heap_setTop]
    intro acts
    simp [jvm, XF.here.top]
    exact b1
  · rcases List.mem_append.mp hq with w1 | w1
    · exact hL q w1
    · obtain ⟨j, _, rfl⟩ := List.mem_map.mp w1
      show ab_B G < T.heap.size
      rw [hs]; omega
end MGA
