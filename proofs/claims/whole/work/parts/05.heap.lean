def ab_KC (k : Nat) (C : String) (T : u_T) (N : Nat) : Prop := k < 20 ∧ vwCl[k]? = some (C, T, N) ∧ (∀ j, j < N → parseFieldDescriptor (T j).2.2.1 = some (ab_ty k j)) ∧ (∀ a, a < N → ∀ b, b < N → a ≠ b → (T a).2.1 ≠ (T b).2.1) ∧ (∀ j, j < N → (T j).1 = C) ∧ ∀ w ∈ u_ws C T N, w ∈ lw_all
/-- the entry idx of the class own names field j of class k; fin: it is final -/
def ab_FL (own : String) (idx k j : Nat) (fin : Bool) : Prop := ∃ (C : String) (T : u_T) (N : Nat), ab_KC k C T N ∧ j < N ∧ (T j).2.2.2 = fin ∧ Cond.fieldLink own idx C (T j).2.1 (T j).2.2.1 ∈ lw_all
theorem ab_ad_lt {G : ab_G} {i : Nat} (h : i < 1000) : ab_ad G i = ab_B G + i := if_pos h
theorem ab_ad_ge {G : ab_G} {i : Nat} (h : 1000 ≤ i) : ab_ad G i = ab_ax G i := if_neg (by omega)
theorem ab_cell.kept {G : ab_G} {I I' : Nat → Nat → Int} {F F' : Nat → Nat → Nat} {i : Nat} {H H' : Heap} (h : ab_cell G I F i H) (hq : H'[ab_ad G i]? = H[ab_ad G i]?) (hI : ∀ j, I' i j = I i j) (hF : ∀ j, F' i j = F i j) : ab_cell G I' F' i H' := by
  unfold ab_cell at h ⊢
  split at h
  · rename_i hk
    rw [if_pos hk]
    obtain ⟨q, h1, h2⟩ := h
    exact ⟨q, h1, (h2.kept hq).to (fun j _ => by rw [hI, hF])⟩
  · rename_i hk
    rw [if_neg hk, hq, h]
    congr 2
    funext j
    rw [hI, hF]
theorem ab_Rep.put {G : ab_G} {n i : Nat} {I I' : Nat → Nat → Int} {F F' : Nat → Nat → Nat} {H H' : Heap} (h : ab_Rep G (n, I, F) H) (hi : 1 ≤ i ∧ i ≤ n) (hz : H'.size = H.size) (ho : ∀ q : Nat, q ≠ ab_ad G i → H'[q]? = H[q]?)
    (hI : ∀ a j, a ≠ i → I' a j = I a j) (hF : ∀ a j, a ≠ i → F' a j = F a j) (hc : ab_cell G I' F' i H') : ab_Rep G (n, I', F') H' := by
  obtain ⟨h1, h2, h3⟩ := h
  refine ⟨h1, hz.trans h2, fun a h4 h5 => ?_⟩
  by_cases hai : a = i
  · subst hai; exact hc
  · have h1' : n < 1000 := h1
    have h5' : a ≤ n := h5
    refine (h3 a h4 h5).kept (ho _ ?_) (fun j => hI a j hai) (fun j => hF a j hai)
    rw [ab_ad_lt (by omega), ab_ad_lt (by omega)]
    omega
theorem ab_cellO {G : ab_G} {n : Nat} {I : Nat → Nat → Int} {F : Nat → Nat → Nat} {H : Heap} {i k : Nat} {C : String} {T : u_T} {N : Nat} (hR : ab_Rep G (n, I, F) H) (hi : 1 ≤ i ∧ i ≤ n) (hk : (ab_sh i).1 = k) (hc : ab_KC k C T N) : t_OB (ab_ad G i) (G.2.1 k) N (G.2.2.1 k) H (fun j => ab_sv G (ab_tag (ab_ty k j)) (I i j) (F i j)) := by
  have h := hR.2.2 i hi.1 hi.2
  unfold ab_cell at h
  rw [if_pos (by rw [hk]; exact hc.1), hk] at h
  obtain ⟨q, h1, h2⟩ := h
  have hq : q = (C, T, N) := Option.some.inj (h1.symm.trans hc.2.1)
  subst hq
  exact h2
theorem ab_cellA {G : ab_G} {n : Nat} {I : Nat → Nat → Int} {F : Nat → Nat → Nat} {H : Heap} {i k l : Nat} (hR : ab_Rep G (n, I, F) H) (hi : 1 ≤ i ∧ i ≤ n) (hk : ab_sh i = (k, l)) (hk2 : 20 ≤ k) : H[ab_ad G i]? = some (arrV (ab_cT G k) l (fun j => ab_sv G (ab_tag (ab_et k)) (I i j) (F i j))) := by
  have h := hR.2.2 i hi.1 hi.2
  unfold ab_cell at h
  rw [if_neg (by rw [hk]; exact Nat.not_lt.mpr hk2), hk] at h
  exact h
theorem ab_u_s {I : Nat → Nat → Int} {i j : Nat} {v : Int} : ab_u I i j v i j = v := if_pos ⟨rfl, rfl⟩
theorem ab_u_i {I : Nat → Nat → Int} {i j a b : Nat} {v : Int} (h : a ≠ i) : ab_u I i j v a b = I a b := if_neg (fun e => h e.1)
theorem ab_u_j {I : Nat → Nat → Int} {i j a b : Nat} {v : Int} (h : b ≠ j) : ab_u I i j v a b = I a b := if_neg (fun e => h e.2)
theorem ab_w_s {I : Nat → Nat → Nat} {i j : Nat} {v : Nat} : ab_w I i j v i j = v := if_pos ⟨rfl, rfl⟩
theorem ab_w_i {I : Nat → Nat → Nat} {i j a b : Nat} {v : Nat} (h : a ≠ i) : ab_w I i j v a b = I a b := if_neg (fun e => h e.1)
theorem ab_w_j {I : Nat → Nat → Nat} {i j a b : Nat} {v : Nat} (h : b ≠ j) : ab_w I i j v a b = I a b := if_neg (fun e => h e.2)
theorem ab_ixn {j : Int} {l : Nat} (h0 : 0 ≤ j) (hl : j < l) (hl2 : l < 1000000) : (Int32.ofInt j).toNatClampNeg = j.toNat ∧ ¬ (Int32.ofInt j < 0 ∨ l ≤ (Int32.ofInt j).toNatClampNeg) := by
  have e1 : (Int32.ofInt j).toNatClampNeg = j.toNat := by
    show (Int32.ofInt j).toInt.toNat = _
    rw [ab_to ⟨by omega, by omega⟩]
  refine ⟨e1, fun h => ?_⟩
  rcases h with h | h
  · have := (ab_lti (x := j) (y := 0) ⟨by omega, by omega⟩ ab_in0).mp h
    omega
  · rw [e1] at h
    omega
section AH
variable {G : ab_G} {Y : ab_Y} {R : Room} {Z : ab_Zt} {kc ks : Nat} {n : Nat} {I : Nat → Nat → Int} {F : Nat → Nat → Nat} {pc : Nat} {ls : List (Option ab_V)} {st : List ab_V}
theorem aw_getc {idx k j i : Nat} {fin : Bool} {v : ab_V} (hd : decode Y.2.1 pc = .ok (.getfield idx, 3)) (hF : ab_FL Y.1.cls idx k j fin) (hi : 1 ≤ i ∧ i ≤ n) (hk : (ab_sh i).1 = k) (hv : ab_c G v = ab_sv G (ab_tag (ab_ty k j)) (I i j) (F i j))
    (kk : aW G Y R Z kc ks (n, I, F) (pc + 3) ls (v :: st)) : aW G Y R Z kc ks (n, I, F) pc ls (ab_r i :: st) := by
  intro p e s m args below meth c Cx H locs lsr hR hO hL hl
  have k9 := kk p e s m args below meth c Cx H locs lsr hR hO hL hl
  obtain ⟨C, T, N, hKC, hj, -, hln⟩ := hF
  obtain ⟨cell, q1, q2, q3, q4⟩ := ab_cellO hR hi hk hKC
  have hts := Cx.2.2.2.2.2.1
  obtain ⟨hS, hfc, kC, hkC, hkind⟩ := Cx.2.2.2.2.2.2.2.2.1.1 k _ hKC.2.1
  obtain ⟨cf, kf, fi, f, hfi, hsl⟩ := hS j hj
  rw [List.map_cons, aw_rv (by omega)]
  refine W.getf Cx.1 Cx.2.1 Cx.2.2.2.2.1 (hts _ hln) ((hKC.2.2.2.2.1 j hj) ▸ hfi) (u_facts hfc hkC (u_lays hts hKC.2.2.2.2.2 hj) hfi).1 q1 (by rw [q3]; exact fun h => by cases h) (v := ab_c G v) ?_ rfl rfl hd k9
  rw [hsl, q4 j hj, hv]
theorem aw_geti {idx k j i : Nat} {fin : Bool} (hd : decode Y.2.1 pc = .ok (.getfield idx, 3)) (hF : ab_FL Y.1.cls idx k j fin) (hi : 1 ≤ i ∧ i ≤ n) (hk : (ab_sh i).1 = k) (ht : ab_tag (ab_ty k j) = 0) (kk : aW G Y R Z kc ks (n, I, F) (pc + 3) ls (ab_i (I i j) :: st)) : aW G Y R Z kc ks (n, I, F) pc ls (ab_r i :: st) :=
  aw_getc hd hF hi hk (by rw [ht]; rfl) kk
theorem aw_getr {idx k j i : Nat} {fin : Bool} (hd : decode Y.2.1 pc = .ok (.getfield idx, 3)) (hF : ab_FL Y.1.cls idx k j fin) (hi : 1 ≤ i ∧ i ≤ n) (hk : (ab_sh i).1 = k) (ht : ab_tag (ab_ty k j) = 1) (kk : aW G Y R Z kc ks (n, I, F) (pc + 3) ls (ab_r (F i j) :: st)) : aW G Y R Z kc ks (n, I, F) pc ls (ab_r i :: st) :=
  aw_getc hd hF hi hk (by rw [ht]; rfl) kk
theorem aw_getl {idx k j i : Nat} {fin : Bool} (hd : decode Y.2.1 pc = .ok (.getfield idx, 3)) (hF : ab_FL Y.1.cls idx k j fin) (hi : 1 ≤ i ∧ i ≤ n) (hk : (ab_sh i).1 = k) (ht : ab_tag (ab_ty k j) = 2) (kk : aW G Y R Z kc ks (n, I, F) (pc + 3) ls (ab_l (I i j) :: st)) : aW G Y R Z kc ks (n, I, F) pc ls (ab_r i :: st) :=
  aw_getc hd hF hi hk (by rw [ht]; rfl) kk
theorem ab_fit {k j : Nat} (v : ab_V) (hv : ∃ x r, ab_c G v = ab_sv G (ab_tag (ab_ty k j)) x r) (hty : ab_ty k j = .int ∨ ab_ty k j = .long ∨ ab_tag (ab_ty k j) = 1) : narrow (ab_ty k j) (ab_c G v) = ab_c G v ∧ fits (ab_ty k j) (ab_c G v) = true := by
  obtain ⟨x, r, hv⟩ := hv
  rw [hv]
  rcases hty with h | h | h
  · rw [h]; exact ⟨rfl, rfl⟩
  · rw [h]; exact ⟨rfl, rfl⟩
  · rw [h]
    show narrow _ (ab_rv G r) = ab_rv G r ∧ fits _ (ab_rv G r) = true
    unfold ab_rv
    cases hq : ab_ty k j with
    | object C => split <;> exact ⟨rfl, rfl⟩
    | array t => split <;> exact ⟨rfl, rfl⟩
    | _ => rw [hq] at h; cases h
theorem aw_putc {idx k j i : Nat} {v : ab_V} {I' : Nat → Nat → Int} {F' : Nat → Nat → Nat} (fin : Bool) (hfin : fin = true → Y.1.name = "<init>" ∧ ∃ (T : u_T) (N : Nat), vwCl[k]? = some (Y.1.cls, T, N)) (hd : decode Y.2.1 pc = .ok (.putfield idx, 3)) (hF : ab_FL Y.1.cls idx k j fin) (hi : 1 ≤ i ∧ i ≤ n) (hk : (ab_sh i).1 = k) (hty : ab_ty k j = .int ∨ ab_ty k j = .long ∨ ab_tag (ab_ty k j) = 1)
    (hv : ab_c G v = ab_sv G (ab_tag (ab_ty k j)) (I' i j) (F' i j)) (hI : ∀ a b, ¬ (a = i ∧ b = j) → I' a b = I a b) (hF' : ∀ a b, ¬ (a = i ∧ b = j) → F' a b = F a b)
    (kk : aW G Y R Z kc ks (n, I', F') (pc + 3) ls st) : aW G Y R Z kc ks (n, I, F) pc ls (v :: ab_r i :: st) := by
  intro p e s m args below meth c Cx H locs lsr hR hO hL hl
  obtain ⟨C, T, N, hKC, hj, hfn, hln⟩ := hF
  obtain ⟨cell, q1, q2, q3, q4⟩ := ab_cellO hR hi hk hKC
  have hts := Cx.2.2.2.2.2.1
  have hK := Cx.2.2.2.2.2.2.2.2.1
  obtain ⟨hS, hfc, kC, hkC, hkind⟩ := hK.1 k _ hKC.2.1
  obtain ⟨cf, kf, fi, f, hfi, hsl⟩ := hS j hj
  have hap := va_apart (own := C) hts hKC.2.2.2.2.2 (ab_ty k) hKC.2.2.1 hKC.2.2.2.1 hK hKC.2.1
  have hi0 : i < 1000 := Nat.lt_of_le_of_lt hi.2 hR.1
  have hst := (u_facts hfc hkC (u_lays hts hKC.2.2.2.2.2 hj) hfi).1
  have hlay := hts _ (hKC.2.2.2.2.2 _ (u_in_lay hj))
  unfold u_lay at hlay
  obtain ⟨hn9, hf9⟩ := ab_fit (G := G) v ⟨_, _, hv⟩ hty
  have fi' : s.fieldFound? C (T j).2.1 (T j).2.2.1 = some (cf, kf, fi, f) := (hKC.2.2.2.2.1 j hj) ▸ hfi
  have fin9 : ∀ H' : Heap, H'[ab_ad G i]? = some (cell.setSlot f.slot (ab_c G v)) → H'.size = H.size → (∀ q, q ≠ ab_ad G i → H'[q]? = H[q]?) → W p G.1 e R s m args below meth c H' (locs ++ [⟨ab_ad G i, f.slot⟩]) kc ks (Z below args s) (F0 m (pc + 3) lsr (st.map (ab_c G))) := by
    intro H' e1 e2 e3
    have hB : ab_ad G i = ab_B G + i := ab_ad_lt hi0
    refine kk p e s m args below meth c Cx H' _ lsr (hR.put hi e2 e3 (fun a b h => hI a b (fun q => h q.1)) (fun a b h => hF' a b (fun q => h q.1)) ?_) (fun q hq => by rw [e3 q (by omega)]; exact hO q hq) (fun q hq => ?_) hl
    · unfold ab_cell
      rw [if_pos (by rw [hk]; exact hKC.1), hk]
      refine ⟨_, hKC.2.1, t_OB.to (V := updV (fun j => ab_sv G (ab_tag (ab_ty k j)) (I i j) (F i j)) j (ab_c G v)) ⟨_, e1, q2, q3, ?_⟩ (fun b hb => ?_)⟩
      · rw [hsl]
        exact t_set q4 hap hj _
      · unfold updV
        by_cases hbj : b = j
        · subst hbj
          rw [if_pos rfl, hv]
        · rw [if_neg hbj, hI i b (fun q => hbj q.2), hF' i b (fun q => hbj q.2)]
    · rcases List.mem_append.mp hq with h | h
      · exact hL q h
      · rw [List.mem_singleton.mp h]
        show ab_B G < ab_ad G i
        omega
  rw [List.map_cons, List.map_cons, aw_rv (by omega)]
  cases fin with
  | false =>
    rw [if_neg (by rw [hfn]; decide)] at hlay
    have h6 := u_store hfc hkC hkind hlay hfi (hKC.2.2.1 j hj) hn9 hf9
    exact W.putK Cx.1 Cx.2.1 (f := f) ⟨Cx.2.2.2.2.1, hts _ hln, ⟨_, _, _, fi'⟩, hst⟩ (by rw [q2]; exact h6) q1 q3 (by rw [hsl]; exact k2_hasslot (q4 j hj)) rfl rfl hd fin9
  | true =>
    rw [if_pos hfn] at hlay
    obtain ⟨hin, T2, N2, hown2⟩ := hfin rfl
    have hC : C = Y.1.cls := by
      have := hKC.2.1.symm.trans hown2
      exact congrArg Prod.fst (Option.some.inj this)
    have hcf : m.cls = cf := by
      obtain ⟨_, _, c', _, _, _, -, -, hf', -, -, -, hown3, -⟩ := Cond.laysFinal_spec hlay
      have e1 : c' = cf := by have := hfi.symm.trans hf'; simp at this; exact this.1.symm
      rw [hKC.2.2.2.2.1 j hj, hC] at hown3
      rw [← e1]; exact Option.some.inj (Cx.2.2.2.2.1.symm.trans hown3)
    have h6 := u_fits hfc hkC hkind (Or.inr hlay) hfi (hKC.2.2.1 j hj) hn9 hf9
    exact W.putFinK Cx.1 Cx.2.1 Cx.2.2.2.2.1 (hts _ hln) fi' hst hcf (Cx.2.2.2.2.2.2.2.1.trans hin) (by rw [q2]; exact h6) q1 q3 (by rw [hsl]; exact k2_hasslot (q4 j hj)) rfl rfl hd fin9
theorem aw_puti {idx k j i : Nat} {x : Int} (hd : decode Y.2.1 pc = .ok (.putfield idx, 3)) (hF : ab_FL Y.1.cls idx k j false) (hi : 1 ≤ i ∧ i ≤ n) (hk : (ab_sh i).1 = k) (ht : ab_ty k j = .int) (kk : aW G Y R Z kc ks (n, ab_u I i j x, F) (pc + 3) ls st) : aW G Y R Z kc ks (n, I, F) pc ls (ab_i x :: ab_r i :: st) :=
  aw_putc false (fun h => by cases h) hd hF hi hk (Or.inl ht) (by rw [ht, if_pos ⟨rfl, rfl⟩]; rfl) (fun a b h => if_neg h) (fun _ _ _ => rfl) kk
theorem aw_putl {idx k j i : Nat} {x : Int} (hd : decode Y.2.1 pc = .ok (.putfield idx, 3)) (hF : ab_FL Y.1.cls idx k j false) (hi : 1 ≤ i ∧ i ≤ n) (hk : (ab_sh i).1 = k) (ht : ab_ty k j = .long) (kk : aW G Y R Z kc ks (n, ab_u I i j x, F) (pc + 3) ls st) : aW G Y R Z kc ks (n, I, F) pc ls (ab_l x :: ab_r i :: st) :=
  aw_putc false (fun h => by cases h) hd hF hi hk (Or.inr (Or.inl ht)) (by rw [ht, if_pos ⟨rfl, rfl⟩]; rfl) (fun a b h => if_neg h) (fun _ _ _ => rfl) kk
theorem aw_putF {idx k j i r : Nat} (hd : decode Y.2.1 pc = .ok (.putfield idx, 3)) (hF : ab_FL Y.1.cls idx k j true) (hi : 1 ≤ i ∧ i ≤ n) (hk : (ab_sh i).1 = k) (ht : ab_tag (ab_ty k j) = 1) (hy : Y.1.name = "<init>") (hc : ∃ (T : u_T) (N : Nat), vwCl[k]? = some (Y.1.cls, T, N)) (kk : aW G Y R Z kc ks (n, I, ab_w F i j r) (pc + 3) ls st) : aW G Y R Z kc ks (n, I, F) pc ls (ab_r r :: ab_r i :: st) :=
  aw_putc true (fun _ => ⟨hy, hc⟩) hd hF hi hk (Or.inr (Or.inr ht)) (by rw [ht, if_pos ⟨rfl, rfl⟩]; rfl) (fun _ _ _ => rfl) (fun a b h => if_neg h) kk
-- arrays
theorem aw_iald {i l : Nat} {j : Int} (hd : decode Y.2.1 pc = .ok (.iaload, 1)) (hi : 1 ≤ i ∧ i ≤ n) (hk : ab_sh i = (20, l)) (h0 : 0 ≤ j) (hl9 : j < l) (hz : l < 1000000) (kk : aW G Y R Z kc ks (n, I, F) (pc + 1) ls (ab_i (I i j.toNat) :: st)) : aW G Y R Z kc ks (n, I, F) pc ls (ab_i j :: ab_r i :: st) := by
  intro p e s m args below meth c Cx H locs lsr hR hO hL hl
  have k9 := kk p e s m args below meth c Cx H locs lsr hR hO hL hl
  obtain ⟨e1, e2⟩ := ab_ixn h0 hl9 hz
  rw [List.map_cons, List.map_cons, aw_rv (by omega)]
  refine W.iald Cx.1 Cx.2.1 (ab_cellA hR hi hk (by omega)) ((Cx.2.2.2.2.2.2.2.2.1.2 0 (_, .int) rfl).1 l _) (fun h => by cases h) (by rw [arrV_size]; exact e2) (v := .int (Int32.ofInt (I i j.toNat))) ?_ rfl rfl hd k9
  rw [e1, arrV_read _ _ (by omega)]
  rfl
theorem aw_cald {i l : Nat} {j : Int} (hd : decode Y.2.1 pc = .ok (.caload, 1)) (hi : 1 ≤ i ∧ i ≤ n) (hk : ab_sh i = (21, l)) (h0 : 0 ≤ j) (hl9 : j < l) (hz : l < 1000000) (kk : aW G Y R Z kc ks (n, I, F) (pc + 1) ls (ab_i (I i j.toNat) :: st)) : aW G Y R Z kc ks (n, I, F) pc ls (ab_i j :: ab_r i :: st) := by
  intro p e s m args below meth c Cx H locs lsr hR hO hL hl
  have k9 := kk p e s m args below meth c Cx H locs lsr hR hO hL hl
  obtain ⟨e1, e2⟩ := ab_ixn h0 hl9 hz
  rw [List.map_cons, List.map_cons, aw_rv (by omega)]
  refine W.cald Cx.1 Cx.2.1 (ab_cellA hR hi hk (by omega)) ((Cx.2.2.2.2.2.2.2.2.1.2 1 (_, .char) rfl).1 l _) (fun h => by cases h) (by rw [arrV_size]; exact e2) (v := .int (Int32.ofInt (I i j.toNat))) ?_ rfl rfl hd k9
  rw [e1, arrV_read _ _ (by omega)]
  rfl
theorem aw_zald {i l : Nat} {j : Int} (hd : decode Y.2.1 pc = .ok (.baload, 1)) (hi : 1 ≤ i ∧ i ≤ n) (hk : ab_sh i = (22, l)) (h0 : 0 ≤ j) (hl9 : j < l) (hz : l < 1000000) (kk : aW G Y R Z kc ks (n, I, F) (pc + 1) ls (ab_i (I i j.toNat) :: st)) : aW G Y R Z kc ks (n, I, F) pc ls (ab_i j :: ab_r i :: st) := by
  intro p e s m args below meth c Cx H locs lsr hR hO hL hl
  have k9 := kk p e s m args below meth c Cx H locs lsr hR hO hL hl
  obtain ⟨e1, e2⟩ := ab_ixn h0 hl9 hz
  rw [List.map_cons, List.map_cons, aw_rv (by omega)]
  refine W.zald Cx.1 Cx.2.1 (ab_cellA hR hi hk (by omega)) ((Cx.2.2.2.2.2.2.2.2.1.2 2 (_, .boolean) rfl).1 l _) (fun h => by cases h) (by rw [arrV_size]; exact e2) (v := .int (Int32.ofInt (I i j.toNat))) ?_ rfl rfl hd k9
  rw [e1, arrV_read _ _ (by omega)]
  rfl
theorem aw_aald {i l k : Nat} {j : Int} (hd : decode Y.2.1 pc = .ok (.aaload, 1)) (hi : 1 ≤ i ∧ i ≤ n) (hk : ab_sh i = (k, l)) (hk2 : k = 23 ∨ k = 24) (h0 : 0 ≤ j) (hl9 : j < l) (hz : l < 1000000) (kk : aW G Y R Z kc ks (n, I, F) (pc + 1) ls (ab_r (F i j.toNat) :: st)) : aW G Y R Z kc ks (n, I, F) pc ls (ab_i j :: ab_r i :: st) := by
  intro p e s m args below meth c Cx H locs lsr hR hO hL hl
  have k9 := kk p e s m args below meth c Cx H locs lsr hR hO hL hl
  obtain ⟨e1, e2⟩ := ab_ixn h0 hl9 hz
  rw [List.map_cons, List.map_cons, aw_rv (by omega)]
  rcases hk2 with rfl | rfl
  · refine W.aald Cx.1 Cx.2.1 (ab_cellA hR hi hk (by omega)) ((Cx.2.2.2.2.2.2.2.2.1.2 3 (_, .array .int) rfl).1 l _) rfl (fun h => by cases h) (by rw [arrV_size]; exact e2) (v := ab_rv G (F i j.toNat)) ?_ rfl rfl hd k9
    rw [e1, arrV_read _ _ (by omega)]
    rfl
  · refine W.aald Cx.1 Cx.2.1 (ab_cellA hR hi hk (by omega)) ((Cx.2.2.2.2.2.2.2.2.1.2 4 (_, .object "ThreeOffers$Person") rfl).1 l _) rfl (fun h => by cases h) (by rw [arrV_size]; exact e2) (v := ab_rv G (F i j.toNat)) ?_ rfl rfl hd k9
    rw [e1, arrV_read _ _ (by omega)]
    rfl
theorem ab_put_arr {s : State} {H H' : Heap} {i k l j : Nat} {v : Value} {I' : Nat → Nat → Int} {F' : Nat → Nat → Nat} (hR : ab_Rep G (n, I, F) H) (hi : 1 ≤ i ∧ i ≤ n) (hk : ab_sh i = (k, l)) (hk2 : 20 ≤ k) (e1 : H'[ab_ad G i]? = some ((arrV (ab_cT G k) l (fun j => ab_sv G (ab_tag (ab_et k)) (I i j) (F i j))).setSlot j v)) (e2 : H'.size = H.size) (e3 : ∀ q : Nat, q ≠ ab_ad G i → H'[q]? = H[q]?)
    (hv : v = ab_sv G (ab_tag (ab_et k)) (I' i j) (F' i j)) (hI : ∀ a b, ¬ (a = i ∧ b = j) → I' a b = I a b) (hF' : ∀ a b, ¬ (a = i ∧ b = j) → F' a b = F a b) : ab_Rep G (n, I', F') H' := by
  refine hR.put hi e2 e3 (fun a b h => hI a b (fun q => h q.1)) (fun a b h => hF' a b (fun q => h q.1)) ?_
  unfold ab_cell
  rw [if_neg (by rw [hk]; exact Nat.not_lt.mpr hk2), hk, e1, arrV_store]
  congr 2
  funext b
  unfold updV
  by_cases hbj : b = j
  · subst hbj
    rw [if_pos rfl, hv]
  · rw [if_neg hbj, hI i b (fun q => hbj q.2), hF' i b (fun q => hbj q.2)]
theorem aw_iast {i l : Nat} {j x : Int} (hd : decode Y.2.1 pc = .ok (.iastore, 1)) (hi : 1 ≤ i ∧ i ≤ n) (hk : ab_sh i = (20, l)) (h0 : 0 ≤ j) (hl9 : j < l) (hz : l < 1000000) (kk : aW G Y R Z kc ks (n, ab_u I i j.toNat x, F) (pc + 1) ls st) : aW G Y R Z kc ks (n, I, F) pc ls (ab_i x :: ab_i j :: ab_r i :: st) := by
  intro p e s m args below meth c Cx H locs lsr hR hO hL hl
  obtain ⟨e1, e2⟩ := ab_ixn h0 hl9 hz
  have hB : ab_ad G i = ab_B G + i := ab_ad_lt (Nat.lt_of_le_of_lt hi.2 hR.1)
  rw [List.map_cons, List.map_cons, List.map_cons, aw_rv (by omega)]
  refine W.iast Cx.1 Cx.2.1 (ab_cellA hR hi hk (by omega)) ((Cx.2.2.2.2.2.2.2.2.1.2 0 (_, .int) rfl).1 l _) (fun h => by cases h) (by rw [arrV_size]; exact e2) rfl rfl hd (fun H' a1 a2 a3 => ?_)
  refine kk p e s m args below meth c Cx H' _ lsr (ab_put_arr (s := s) hR hi hk (by omega) (j := j.toNat) (by rw [a1, e1]) a2 a3 (by rw [ab_u_s]; rfl) (fun a b h => if_neg h) (fun _ _ _ => rfl)) (fun q hq => by rw [a3 q (by intro z; subst z; omega)]; exact hO q hq) (fun q hq => ?_) hl
  rcases List.mem_append.mp hq with h | h
  · exact hL q h
  · rw [List.mem_singleton.mp h]
    show ab_B G < ab_ad G i
    omega
theorem aw_cast {i l : Nat} {j x : Int} (hd : decode Y.2.1 pc = .ok (.castore, 1)) (hi : 1 ≤ i ∧ i ≤ n) (hk : ab_sh i = (21, l)) (h0 : 0 ≤ j) (hl9 : j < l) (hz : l < 1000000) (hx : (Int32.ofInt x).toUInt32.toUInt16.toUInt32.toInt32 = Int32.ofInt x) (kk : aW G Y R Z kc ks (n, ab_u I i j.toNat x, F) (pc + 1) ls st) : aW G Y R Z kc ks (n, I, F) pc ls (ab_i x :: ab_i j :: ab_r i :: st) := by
  intro p e s m args below meth c Cx H locs lsr hR hO hL hl
  obtain ⟨e1, e2⟩ := ab_ixn h0 hl9 hz
  have hB : ab_ad G i = ab_B G + i := ab_ad_lt (Nat.lt_of_le_of_lt hi.2 hR.1)
  rw [List.map_cons, List.map_cons, List.map_cons, aw_rv (by omega)]
  refine W.cast Cx.1 Cx.2.1 (ab_cellA hR hi hk (by omega)) ((Cx.2.2.2.2.2.2.2.2.1.2 1 (_, .char) rfl).1 l _) (fun h => by cases h) (by rw [arrV_size]; exact e2) rfl rfl hd (fun H' a1 a2 a3 => ?_)
  refine kk p e s m args below meth c Cx H' _ lsr (ab_put_arr (s := s) hR hi hk (by omega) (j := j.toNat) (by rw [a1, e1]) a2 a3 (by rw [ab_u_s]; first | exact congrArg Value.int hx | (simp only [narrow]; exact congrArg Value.int hx)) (fun a b h => if_neg h) (fun _ _ _ => rfl)) (fun q hq => by rw [a3 q (by intro z; subst z; omega)]; exact hO q hq) (fun q hq => ?_) hl
  rcases List.mem_append.mp hq with h | h
  · exact hL q h
  · rw [List.mem_singleton.mp h]
    show ab_B G < ab_ad G i
    omega
theorem aw_zast {i l : Nat} {j x : Int} (hd : decode Y.2.1 pc = .ok (.bastore, 1)) (hi : 1 ≤ i ∧ i ≤ n) (hk : ab_sh i = (22, l)) (h0 : 0 ≤ j) (hl9 : j < l) (hz : l < 1000000) (hx : x = 0 ∨ x = 1) (kk : aW G Y R Z kc ks (n, ab_u I i j.toNat x, F) (pc + 1) ls st) : aW G Y R Z kc ks (n, I, F) pc ls (ab_i x :: ab_i j :: ab_r i :: st) := by
  intro p e s m args below meth c Cx H locs lsr hR hO hL hl
  obtain ⟨e1, e2⟩ := ab_ixn h0 hl9 hz
  have hB : ab_ad G i = ab_B G + i := ab_ad_lt (Nat.lt_of_le_of_lt hi.2 hR.1)
  rw [List.map_cons, List.map_cons, List.map_cons, aw_rv (by omega)]
  refine W.zast Cx.1 Cx.2.1 (ab_cellA hR hi hk (by omega)) ((Cx.2.2.2.2.2.2.2.2.1.2 2 (_, .boolean) rfl).1 l _) (fun h => by cases h) (by rw [arrV_size]; exact e2) rfl rfl hd (fun H' a1 a2 a3 => ?_)
  refine kk p e s m args below meth c Cx H' _ lsr (ab_put_arr (s := s) hR hi hk (by omega) (j := j.toNat) (by rw [a1, e1]) a2 a3 (by rw [ab_u_s]; rcases hx with rfl | rfl <;> rfl) (fun a b h => if_neg h) (fun _ _ _ => rfl)) (fun q hq => by rw [a3 q (by intro z; subst z; omega)]; exact hO q hq) (fun q hq => ?_) hl
  rcases List.mem_append.mp hq with h | h
  · exact hL q h
  · rw [List.mem_singleton.mp h]
    show ab_B G < ab_ad G i
    omega
theorem aw_alen {i l k : Nat} (hd : decode Y.2.1 pc = .ok (.arraylength, 1)) (hi : 1 ≤ i ∧ i ≤ n) (hk : ab_sh i = (k, l)) (hk2 : k = 20) (kk : aW G Y R Z kc ks (n, I, F) (pc + 1) ls (ab_i (l : Int) :: st)) : aW G Y R Z kc ks (n, I, F) pc ls (ab_r i :: st) := by
  intro p e s m args below meth c Cx H locs lsr hR hO hL hl
  have k9 := kk p e s m args below meth c Cx H locs lsr hR hO hL hl
  subst hk2
  rw [List.map_cons, aw_rv (by omega)]
  refine W.alen Cx.1 Cx.2.1 (ab_cellA hR hi hk (by omega)) ((Cx.2.2.2.2.2.2.2.2.1.2 0 (_, .int) rfl).1 l _) (n := Int32.ofInt l) ?_ rfl rfl hd k9
  rw [arrV_size]
  exact Int32.ofInt_eq_ofNat.symm
end AH
