theorem wIni : Cond.initialized "java/lang/System" ∈ lw_all := lw_in1 (k := 21) rfl rfl
theorem wSta : Cond.static arraycopyName ∈ lw_all := lw_in4 (k := 60) rfl rfl
theorem wNat : Cond.native arraycopyName ∈ lw_all := lw_in4 (k := 61) rfl rfl
theorem aw_acopy {G : ab_G} {Y : ab_Y} {R : Room} {Z : ab_Zt} {kc ks : Nat} {n : Nat} {I : Nat → Nat → Int} {F : Nat → Nat → Nat} {pc : Nat} {ls : List (Option ab_V)} {st : List ab_V} {i0 i l k idx : Nat} (hd : decode Y.2.1 pc = .ok (.invokestatic idx, 3)) (hlk : Cond.methodLink Y.1.cls idx arraycopyName ∈ lw_all) (hi0 : 1 ≤ i0 ∧ i0 ≤ n) (hk0 : ab_sh i0 = (20, l)) (hi : 1 ≤ i ∧ i ≤ n) (hk : ab_sh i = (20, l)) (hz : l < 1000000) (hkl : k ≤ l) (hne : i0 ≠ i) (hst : st = []) (h1 : 1 ≤ R.frames) (h2 : 40 ≤ R.locals)
    (kk : aW G Y R Z kc ks (n, cp I i i0 k, F) (pc + 3) ls st) : aW G Y R Z kc ks (n, I, F) pc ls (ab_i (k : Int) :: ab_i 0 :: ab_r i :: ab_i 0 :: ab_r i0 :: st) := by
  intro p e s m args below meth c Cx H locs lsr hR hO hL hl
  have hB : ab_ad G i = ab_B G + i := ab_ad_lt (Nat.lt_of_le_of_lt hi.2 hR.1)
  have hB0 : ab_ad G i0 = ab_B G + i0 := ab_ad_lt (Nat.lt_of_le_of_lt hi0.2 hR.1)
  rw [List.map_cons, List.map_cons, List.map_cons, List.map_cons, List.map_cons, aw_rv (by omega), aw_rv (by omega)]
  have hts := Cx.2.2.2.2.2.1
  have hK := Cx.2.2.2.2.2.2.2.2.1
  intro T hT X
  have hc0 : H[ab_ad G i0]? = some (arrV (ab_cT G 20) l (fun j => .int (Int32.ofInt (I i0 j)))) := ab_cellA hR hi0 hk0 (by omega)
  have hc1 : H[ab_ad G i]? = some (arrV (ab_cT G 20) l (fun j => .int (Int32.ofInt (I i j)))) := ab_cellA hR hi hk (by omega)
  obtain ⟨-, k0, hkk0, cm0, hkx0⟩ := (hK.2 0 (_, .int) rfl).1 l (fun j => .int (Int32.ofInt (I i0 j)))
  obtain ⟨-, k1, hkk1, cm1, hkx1⟩ := (hK.2 0 (_, .int) rfl).1 l (fun j => .int (Int32.ofInt (I i j)))
  have hkn : (Int32.ofInt (k : Int)).toNatClampNeg = k := by
    show ((Int32.ofInt (k : Int)).toInt).toNat = k
    rw [ab_to ⟨by omega, by omega⟩]; omega
  have h0n : (Int32.ofInt 0).toNatClampNeg = 0 := rfl
  have hk9 : ¬ Int32.ofInt (k : Int) < 0 := fun q => by
    have := Int32.lt_iff_toInt_lt.mp q
    rw [ab_to ⟨by omega, by omega⟩] at this
    have h9 : (0 : Int32).toInt = 0 := rfl
    omega
  obtain ⟨vm', X', step⟩ := X.arraycopy Cx.1 Cx.2.2.2.2.1 (hts _ hlk) (hts _ wNat) (hts _ wSta) (hts _ wIni) (src := ab_ad G i0) (dst := ab_ad G i) (cs := arrV (ab_cT G 20) l (fun j => .int (Int32.ofInt (I i0 j)))) (cd := arrV (ab_cT G 20) l (fun j => .int (Int32.ofInt (I i j)))) (srcPos := Int32.ofInt 0) (destPos := Int32.ofInt 0) (n := Int32.ofInt (k : Int)) (by rw [hT]; exact hc0) (by rw [hT]; exact hc1)
    (fun _ h => by cases h) (fun _ h => by cases h) (fun h => by cases h) (fun h => by cases h) hkk0 hkk1 hkx0 hkx1 (by simp [refKind]) (by decide) (by decide) hk9
    (by rw [arrV_size, ab_to (z := (k : Int)) ⟨by omega, by omega⟩]; show ¬ (0 : Int) + _ > _; omega)
    (by rw [arrV_size, ab_to (z := (k : Int)) ⟨by omega, by omega⟩]; show ¬ (0 : Int) + _ > _; omega)
    (fun vm₁ _ j hj => by
      rw [hkn] at hj
      have e : (arrV (ab_cT G 20) l (fun j => Value.int (Int32.ofInt (I i0 j)))).slots.getD ((Int32.ofInt 0).toNatClampNeg + j) .null = .int (Int32.ofInt (I i0 (0 + j))) := by
        rw [h0n, Array.getD_eq_getD_getElem?, arrV_read _ _ (by omega)]
        rfl
      refine ⟨?_, ?_⟩
      · rw [e]; rfl
      · rw [e]; exact trivial)
    (g := F0 m pc lsr (.int (Int32.ofInt (k : Int)) :: .int (Int32.ofInt 0) :: .ref (ab_ad G i) :: .int (Int32.ofInt 0) :: .ref (ab_ad G i0) :: st.map (ab_c G))) rfl (by rw [Cx.2.2.2.1]; exact hl.1) (rest := st.map (ab_c G)) rfl (by rw [Cx.2.1]; exact hd) h1 (by subst hst; show 2 * 0 + _ + _ ≤ _; exact Nat.le_trans (show 2 * 0 + 0 + (nativeFrameWords "java/lang/System" "arraycopy" 5 + 11) ≤ 40 by decide) h2)
  have e1 : copied (arrV (ab_cT G 20) l (fun j => .int (Int32.ofInt (I i0 j)))) (arrV (ab_cT G 20) l (fun j => .int (Int32.ofInt (I i j)))) (Int32.ofInt 0) (Int32.ofInt 0) (Int32.ofInt (k : Int)) = arrV (ab_cT G 20) l (fun j => .int (va_cpy (fun j => Int32.ofInt (I i0 j)) (fun j => Int32.ofInt (I i j)) (Int32.ofInt 0).toNatClampNeg (Int32.ofInt 0).toNatClampNeg (Int32.ofInt (k : Int)).toNatClampNeg j)) := va_copied (fun z => .int z) (ab_cT G 20) (ab_cT G 20) _ _ (by rw [hkn, h0n]; omega)
  rw [e1, hkn, h0n] at X' step
  have hlt : ab_ad G i < H.size := (Array.getElem?_eq_some_iff.mp hc1).1
  generalize hnc : arrV (ab_cT G 20) l (fun j => Value.int (va_cpy (fun j => Int32.ofInt (I i0 j)) (fun j => Int32.ofInt (I i j)) 0 0 k j)) = nc at X' step
  have hheap : ((T.setVm vm').setCell (ab_ad G i) nc).heap = H.setIfInBounds (ab_ad G i) nc := by rw [← hT]; rfl
  have oq : ∀ q : Nat, q ≠ ab_ad G i → (H.setIfInBounds (ab_ad G i) nc)[q]? = H[q]? := fun q hq => by simp [Array.getElem?_setIfInBounds, Ne.symm hq]
  have hR' : ab_Rep G (n, cp I i i0 k, F) (H.setIfInBounds (ab_ad G i) nc) := by
    refine hR.put hi (by simp) oq (fun a b h => cp_ne h) (fun a b h => rfl) ?_
    unfold ab_cell
    rw [if_neg (by rw [hk]; exact Nat.lt_irrefl 20), hk]
    rw [show (H.setIfInBounds (ab_ad G i) nc)[ab_ad G i]? = some nc by simp [Array.getElem?_setIfInBounds, hlt], ← hnc]
    congr 2
    funext j
    show Value.int (va_cpy _ _ 0 0 k j) = Value.int (Int32.ofInt (cp I i i0 k i j))
    unfold va_cpy cp
    by_cases hj : j < k
    · rw [if_pos ⟨Nat.zero_le _, by omega⟩, if_pos ⟨rfl, hj⟩]; simp
    · rw [if_neg (by omega), if_neg (by omega)]
  obtain ⟨t, a1, b1⟩ := kk p e s m args below meth c Cx (H.setIfInBounds (ab_ad G i) nc) _ lsr hR' (fun q hq => by rw [oq q (by omega)]; exact hO q hq) (fun q hq => by
      rcases List.mem_append.mp hq with h | h
      · exact hL q h
      · obtain ⟨z, -, hz9⟩ := List.mem_map.mp h
        rw [← hz9]
        show ab_B G < ab_ad G i
        omega) hl _ hheap X'
  exact ⟨t, step t a1, b1⟩
