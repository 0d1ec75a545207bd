-- making: objects and arrays
section AN
variable {G : ab_G} {Y : ab_Y} {R : Room} {Z : ab_Zt} {kc ks : Nat} {n : Nat} {I : Nat → Nat → Int} {F : Nat → Nat → Nat} {h : ab_H} {pc : Nat} {ls : List (Option ab_V)} {st : List ab_V}
theorem ab_dv {G : ab_G} {t : FieldType} (h : t = .int ∨ t = .long ∨ ab_tag t = 1) : defaultValue t = ab_sv G (ab_tag t) 0 0 := by
  cases t with
  | int => rfl
  | long => rfl
  | object C => rfl
  | array u => rfl
  | _ => rcases h with h | h | h <;> first | (cases h; done) | (exact absurd h (by decide))
theorem ab_Rep.more {G : ab_G} {n : Nat} {I I' : Nat → Nat → Int} {F F' : Nat → Nat → Nat} {H H1 : Heap} (hR : ab_Rep G (n, I, F) H) (q : Nat) (hq : n + q < 1000) (hz : H1.size = H.size + q) (ho : ∀ a : Nat, a < H.size → H1[a]? = H[a]?) (hI : ∀ i j, i ≤ n → I' i j = I i j) (hF : ∀ i j, i ≤ n → F' i j = F i j) (hc : ∀ i, n < i → i ≤ n + q → ab_cell G I' F' i H1) : ab_Rep G (n + q, I', F') H1 := by
  have hs : H.size = ab_B G + n + 1 := hR.2.1
  have hn : n < 1000 := hR.1
  refine ⟨hq, by rw [hz, hs]; show ab_B G + n + 1 + q = ab_B G + (n + q) + 1; omega, fun i h1 h2 => ?_⟩
  by_cases e : i ≤ n
  · refine (hR.2.2 i h1 e).kept (ho _ ?_) (fun j => hI i j e) (fun j => hF i j e)
    rw [ab_ad_lt (by omega)]; omega
  · exact hc i (by omega) h2
theorem aw_new {k idx N : Nat} {C : String} {T : u_T} (hd : decode Y.2.1 pc = .ok (.new idx, 3)) (hc : ab_KC k C T N) (hcl : Cond.classLink Y.1.cls idx C ∈ lw_all) (hin : Cond.instantiable C N ∈ lw_all) (hii : Cond.initialized C ∈ lw_all) (hsh : ab_sh (n + 1) = (k, N)) (hn : n + 1 < 1000) (hI : ∀ j, I (n + 1) j = 0) (hF : ∀ j, F (n + 1) j = 0) (hty : ∀ j, j < N → ab_ty k j = .int ∨ ab_ty k j = .long ∨ ab_tag (ab_ty k j) = 1) (h3 : kc + 1 ≤ R.cells) (h4 : ks + N ≤ R.slots)
    (kk : aW G Y R Z (kc + 1) (ks + N) (n + 1, I, F) (pc + 3) ls (ab_r (n + 1) :: st)) : aW G Y R Z kc ks (n, I, F) pc ls st := by
  intro p e s m args below meth c Cx H locs lsr hR hO hL hl
  have hts := Cx.2.2.2.2.2.1
  have hG := Cx.2.2.2.2.2.2.2.2
  have hKn := hG.1.1 k _ hc.2.1
  have hs : H.size = ab_B G + n + 1 := hR.2.1
  have hsz : H.size = ab_ad G (n + 1) := by rw [hs, ab_ad_lt hn]; omega
  refine W.newcK Cx.1 Cx.2.1 Cx.2.2.2.2.1 (hts _ hcl) (hts _ hin) (hts _ hii) rfl hd h3 h4 hKn.2.1 hsz fun H1 kC hkC e1 z1 o1 => ?_
  have hR1 : ab_Rep G (n + 1, I, F) H1 := by
    refine hR.more 1 hn (by rw [z1, hsz]) (fun a ha => o1 a (by rw [← hsz]; exact ha)) (fun _ _ _ => rfl) (fun _ _ _ => rfl) (fun i h1 h2 => ?_)
    have e9 : i = n + 1 := by omega
    subst e9
    unfold ab_cell
    rw [hsh]
    rw [if_pos (show (k, N).1 < 20 from hc.1)]
    exact ⟨_, hc.2.1, (u_born (ab_ty k) hts hc.2.2.2.2.2 hKn hkC e1 hc.2.2.1).to (fun j hj => by rw [hI, hF]; exact ab_dv (hty j hj))⟩
  have k9 := kk p e s m args below meth c Cx H1 locs lsr hR1 (fun q hq => by rw [o1 q (by rw [← hsz, hs]; omega)]; exact hO q hq) hL hl
  rw [List.map_cons, aw_rv (by omega)] at k9
  exact k9
theorem aw_newarr {q k l : Nat} {z : Int} {ty : FieldType} {atype : ArrayType} (hd : decode Y.2.1 pc = .ok (.newarray atype, 2)) (hty : newarray.typeOf atype = ty) (hw : Cond.arrayClass ty ∈ lw_all) (htq : (ab_tys G)[q]? = some (ab_cT G k, ty)) (hra : ∀ (U : State) (cA : ClassId), va_RA U cA ty → U.vm.findClass ("[" ++ ty.toString) = some cA) (het : ab_et k = ty) (hk20 : 20 ≤ k) (hdv : defaultValue ty = ab_sv G (ab_tag ty) 0 0) (hsh : ab_sh (n + 1) = (k, l)) (hn : n + 1 < 1000) (hI : ∀ j, I (n + 1) j = 0) (hF : ∀ j, F (n + 1) j = 0) (hz0 : ¬ Int32.ofInt z < 0) (hz1 : (Int32.ofInt z).toNatClampNeg = l) (hb9 : l * componentBytes ty ≤ 536870912) (h3 : kc + 1 ≤ R.cells) (h4 : ks + l ≤ R.slots)
    (kk : aW G Y R Z (kc + 1) (ks + l) (n + 1, I, F) (pc + 2) ls (ab_r (n + 1) :: st)) : aW G Y R Z kc ks (n, I, F) pc ls (ab_i z :: st) := by
  intro p e s m args below meth c Cx H locs lsr hR hO hL hl
  subst hty
  have hts := Cx.2.2.2.2.2.1
  have hG := Cx.2.2.2.2.2.2.2.2
  have hs : H.size = ab_B G + n + 1 := hR.2.1
  have hsz : H.size = ab_ad G (n + 1) := by rw [hs, ab_ad_lt hn]; omega
  refine va_newaK Cx.1 Cx.2.1 (hts _ hw) rfl hd rfl hz0 hz1 hb9 h3 h4 hsz fun H1 cA e1 z1 o1 hAr hNm => ?_
  have hcA : cA = ab_cT G k := Option.some.inj (hNm.symm.trans (hra _ _ (hG.1.2 q _ htq).2))
  have hR1 : ab_Rep G (n + 1, I, F) H1 := by
    refine hR.more 1 hn (by rw [z1, hsz]) (fun a ha => o1 a (by rw [← hsz]; exact ha)) (fun _ _ _ => rfl) (fun _ _ _ => rfl) (fun i h1 h2 => ?_)
    have e9 : i = n + 1 := by omega
    subst e9
    unfold ab_cell
    rw [hsh, if_neg (show ¬ (k, l).1 < 20 from Nat.not_lt.mpr hk20), e1, hcA]
    congr 2
    funext j
    rw [hI, hF, hdv, show (k, l).1 = k from rfl, het]
  have k9 := kk p e s m args below meth c Cx H1 locs lsr hR1 (fun q hq => by rw [o1 q (by rw [← hsz, hs]; omega)]; exact hO q hq) hL hl
  rw [List.map_cons, aw_rv (by omega)] at k9
  exact k9
theorem aw_anew {idx l : Nat} {z : Int} (hd : decode Y.2.1 pc = .ok (.anewarray idx, 3)) (hcl : Cond.classLink Y.1.cls idx "ThreeOffers$Person" ∈ lw_all) (hsh : ab_sh (n + 1) = (24, l)) (hn : n + 1 < 1000) (hF : ∀ j, F (n + 1) j = 0) (hz0 : ¬ Int32.ofInt z < 0) (hz1 : (Int32.ofInt z).toNatClampNeg = l) (hb9 : l * 4 ≤ 536870912) (h3 : kc + 1 ≤ R.cells) (h4 : ks + l ≤ R.slots)
    (kk : aW G Y R Z (kc + 1) (ks + l) (n + 1, I, F) (pc + 3) ls (ab_r (n + 1) :: st)) : aW G Y R Z kc ks (n, I, F) pc ls (ab_i z :: st) := by
  intro p e s m args below meth c Cx H locs lsr hR hO hL hl
  have hts := Cx.2.2.2.2.2.1
  have hG := Cx.2.2.2.2.2.2.2.2
  have hs : H.size = ab_B G + n + 1 := hR.2.1
  have hsz : H.size = ab_ad G (n + 1) := by rw [hs, ab_ad_lt hn]; omega
  subst hz1
  refine W.anew Cx.1 Cx.2.1 Cx.2.2.2.2.1 (hts _ hcl) (va_AO.use hG.2.1.2.2.2.2.2.1.2.2.1) rfl hd rfl hz0 hb9 h3 h4 fun cA kA comp f1 f2 f3 f4 => ?_
  obtain ⟨_, _, _, _, _, g4⟩ := (hG.1.2 4 _ rfl).2
  have hcA : cA = ab_cT G 24 := Option.some.inj (f1.symm.trans g4)
  generalize hH1 : H.push ({ cls := cA, slots := Array.replicate (Int32.ofInt z).toNatClampNeg .null, vm := .none } : Cell) = H1
  have z1 : H1.size = H.size + 1 := by rw [← hH1, Array.size_push]
  have e1 : H1[H.size]? = some (arrV cA (Int32.ofInt z).toNatClampNeg (fun _ => .null)) := by rw [← hH1, Array.getElem?_push_size, ← arrV_new]
  have o1 : ∀ q : Nat, q < H.size → H1[q]? = H[q]? := fun q hq => by rw [← hH1, Array.getElem?_push, if_neg (Nat.ne_of_lt hq)]
  have hR1 : ab_Rep G (n + 1, I, F) H1 := by
    refine hR.more 1 hn z1 (fun a ha => o1 a ha) (fun _ _ _ => rfl) (fun _ _ _ => rfl) (fun i h1 h2 => ?_)
    have e9 : i = n + 1 := by omega
    subst e9
    unfold ab_cell
    rw [hsh, if_neg (show ¬ (24 : Nat) < 20 by decide), ← hsz, e1, hcA]
    congr 2
    funext j
    rw [hF]; rfl
  have k9 := kk p e s m args below meth c Cx H1 locs lsr hR1 (fun q hq => by rw [o1 q (by rw [hs]; omega)]; exact hO q hq) hL hl
  rw [List.map_cons, aw_rv (by omega), ← hsz] at k9
  exact k9
theorem aw_objInit {idx b : Nat} (hd : decode Y.2.1 pc = .ok (.invokespecial idx, 3)) (hlk : Cond.methodLink Y.1.cls idx objectInit ∈ lw_all) (hin : Cond.instanceMethod objectInit ∈ lw_all) (hco : Cond.code objectInit ⟨#[0xb1]⟩ 1 none ∈ lw_all) (hb0 : ¬ b = 0) (hw : st.length ≤ 4) (h1 : 1 ≤ R.frames) (h2 : 20 ≤ R.locals) (kk : aW G Y R Z kc ks h (pc + 3) ls st) : aW G Y R Z kc ks h pc ls (ab_r b :: st) := by
  intro p e s m args below meth c Cx H locs lsr hR hO hL hl
  have hts := Cx.2.2.2.2.2.1
  rw [List.map_cons, aw_rv hb0]
  exact W.objInit Cx.1 Cx.2.1 Cx.2.2.2.2.1 (hts _ hlk) (hts _ hin) (hts _ hco) rfl (hl.1.trans Cx.2.2.2.1.symm) rfl hd h1 (by have := ab_cats (G := G) st; show 2 * 0 + _ + 12 ≤ _; omega) (kk p e s m args below meth c Cx H locs lsr hR hO hL hl)
end AN
