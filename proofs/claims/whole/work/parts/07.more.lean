theorem ab_px {k : Nat} (h : k = 24) : ab_et k = .object "ThreeOffers$Person" := by rw [h]; rfl
section AM
variable {G : ab_G} {Y : ab_Y} {R : Room} {Z : ab_Zt} {kc ks : Nat} {n : Nat} {I : Nat → Nat → Int} {F : Nat → Nat → Nat} {h : ab_H} {pc : Nat} {ls : List (Option ab_V)} {st : List ab_V}
theorem aw_aast {i l v : Nat} {j : Int} (hkc : ab_KC 4 RX4 TX4 5) (hd : decode Y.2.1 pc = .ok (.aastore, 1)) (hi : 1 ≤ i ∧ i ≤ n) (hk : ab_sh i = (24, l)) (h0 : 0 ≤ j) (hl9 : j < l) (hz : l < 1000000) (hv : 1 ≤ v ∧ v ≤ n) (hvk : (ab_sh v).1 = 4) (kk : aW G Y R Z kc ks (n, I, ab_w F i j.toNat v) (pc + 1) ls st) : aW G Y R Z kc ks (n, I, F) pc ls (ab_r v :: ab_i j :: ab_r i :: st) := by
  intro p e s m args below meth c Cx H locs lsr hR hO hL hl
  obtain ⟨e1, e2⟩ := ab_ixn h0 hl9 hz
  have hB : ab_ad G i = ab_B G + i := ab_ad_lt (Nat.lt_of_le_of_lt hi.2 hR.1)
  have hK := Cx.2.2.2.2.2.2.2.2.1
  rw [List.map_cons, List.map_cons, List.map_cons, aw_rv (by omega), aw_rv (by omega)]
  obtain ⟨cellV, g1, g2, g3, -⟩ := ab_cellO hR hv hvk hkc
  have hcls := (hK.1 4 _ hkc.2.1).2
  obtain ⟨kA, comp, k1, k2, k3, -⟩ := (hK.2 4 (_, .object "ThreeOffers$Person") rfl).2
  have hcomp : comp = G.2.1 4 := Option.some.inj (k3.symm.trans hcls.1)
  subst hcomp
  obtain ⟨kC, hkC, -⟩ := hcls.2
  have e3 : ¬ Int32.ofInt j < 0 := fun q => e2 (Or.inl q)
  have e4 : (Int32.ofInt j).toNatClampNeg < l := Nat.not_le.mp fun q => e2 (Or.inr q)
  refine W.aast Cx.1 Cx.2.1 (ab_cellA hR hi hk (by omega)) (fun q h => by cases h) (fun h => by cases h) k1 k2 rfl hkC ⟨e3, by rw [arrV_size]; exact e4⟩ g1 (fun q h => by rw [g3] at h; cases h) (by rw [g2]; exact hkC) (by rw [g2]; exact va_asg _ _) rfl rfl hd fun H' a1 a2 a3 => ?_
  refine kk p e s m args below meth c Cx H' _ lsr (ab_put_arr (s := s) hR hi hk (by omega) (j := j.toNat) (by rw [a1, e1]) a2 a3 (by rw [ab_w_s]; exact (aw_rv (by omega)).symm) (fun _ _ _ => rfl) (fun a b h => if_neg h)) (fun q hq => by rw [a3 q (by intro z; subst z; omega)]; exact hO q hq) (fun q hq => ?_) hl
  rcases List.mem_append.mp hq with h | h
  · exact hL q h
  · rw [List.mem_singleton.mp h]
    show ab_B G < ab_ad G i
    omega
theorem aw_gets {C nm ds : String} {idx : Nat} {w : ab_V} (hd : decode Y.2.1 pc = .ok (.getstatic idx, 3)) (hZ : ∀ s : State, ab_Gl G s → va_Z C nm ds (ab_c G w) (ab_A G) s s.heap) (hw : Cond.fieldLink Y.1.cls idx C nm ds ∈ lw_all) (k : aW G Y R Z kc ks h (pc + 3) ls (w :: st)) : aW G Y R Z kc ks h pc ls st := by
  intro p e s m args below meth c Cx H locs lsr hR hO hL hl
  obtain ⟨cf, kf, fi, f, a, cell, h1, h2, h3, h4, h5, h6, h7, h8⟩ := hZ s Cx.2.2.2.2.2.2.2.2
  exact W.gets Cx.1 Cx.2.1 Cx.2.2.2.2.1 (Cx.2.2.2.2.2.1 _ hw) h1 h2 h3 h4 (by rw [hO a (Nat.not_lt.mp h8)]; exact h5) (fun e => by rw [e] at h6; cases h6) h7 rfl hd (k p e s m args below meth c Cx H locs lsr hR hO hL hl)
theorem aw_getsN {C nm ds host : String} {idx : Nat} {w : ab_V} (hd : decode Y.2.1 pc = .ok (.getstatic idx, 3)) (hZ : ∀ s : State, ab_Gl G s → va_Z C nm ds (ab_c G w) (ab_A G) s s.heap) (hw : Cond.fieldLinkNest Y.1.cls idx C nm ds host ∈ lw_nest) (k : aW G Y R Z kc ks h (pc + 3) ls (w :: st)) : aW G Y R Z kc ks h pc ls st := by
  intro p e s m args below meth c Cx H locs lsr hR hO hL hl
  obtain ⟨cf, kf, fi, f, a, cell, h1, h2, h3, h4, h5, h6, h7, h8⟩ := hZ s Cx.2.2.2.2.2.2.2.2
  exact va_WgetsN Cx.1 Cx.2.1 Cx.2.2.2.2.1 ((Cx.2.2.2.2.2.2.2.2.2.2.2.2 _ hw).use rfl) h1 h2 h3 h4 (by rw [hO a (Nat.not_lt.mp h8)]; exact h5) (fun e => by rw [e] at h6; cases h6) h7 rfl hd (k p e s m args below meth c Cx H locs lsr hR hO hL hl)
theorem ab_zfig (s : State) (hG : ab_Gl G s) : va_Z "ThreeOffers" "FIGURES" "[I" (ab_c G (ab_r 1000)) (ab_A G) s s.heap := by
  rw [aw_rv (by omega), ab_ad_ge (by omega)]; exact hG.2.1.1
theorem ab_zfac (s : State) (hG : ab_Gl G s) : va_Z "ThreeOffers" "FACTORIALS" "[I" (ab_c G (ab_r 1001)) (ab_A G) s s.heap := by
  rw [aw_rv (by omega), ab_ad_ge (by omega)]; exact hG.2.1.2.2.1
theorem aw_iald_o {i N : Nat} {j : Int} {f : Nat → Int} (hd : decode Y.2.1 pc = .ok (.iaload, 1)) (hi : 1000 ≤ i) (hT : ∀ s : State, ab_Gl G s → va_T .int (ab_ax G i) N (fun j => .int (Int32.ofInt (f j))) (ab_A G) s s.heap) (h0 : 0 ≤ j) (hl9 : j < N) (hz : N < 1000000) (kk : aW G Y R Z kc ks h (pc + 1) ls (ab_i (f j.toNat) :: st)) : aW G Y R Z kc ks h pc ls (ab_i j :: ab_r i :: st) := by
  intro p e s m args below meth c Cx H locs lsr hR hO hL hl
  have k9 := kk p e s m args below meth c Cx H locs lsr hR hO hL hl
  obtain ⟨e1, e2⟩ := ab_ixn h0 hl9 hz
  rw [List.map_cons, List.map_cons, aw_rv (by omega), ab_ad_ge hi]
  obtain ⟨cell, h1, h2, h3, h4, h5, h6, h7⟩ := hT s Cx.2.2.2.2.2.2.2.2
  refine W.iald Cx.1 Cx.2.1 (by rw [hO _ (Nat.not_lt.mp h7)]; exact h1) h2 h3 (fun q => e2 (q.imp id (fun q => Nat.le_trans h4 q))) (v := .int (Int32.ofInt (f j.toNat))) ?_ rfl rfl hd k9
  rw [e1]
  exact h6 _ (by omega)
theorem aw_ifig {j : Int} (hd : decode Y.2.1 pc = .ok (.iaload, 1)) (h0 : 0 ≤ j) (hl9 : j < 4) (kk : aW G Y R Z kc ks h (pc + 1) ls (ab_i (ab_fig j.toNat) :: st)) : aW G Y R Z kc ks h pc ls (ab_i j :: ab_r 1000 :: st) :=
  aw_iald_o (N := 4) hd (by omega) (fun s hG => hG.2.1.2.1) h0 hl9 (by omega) kk
theorem aw_ifac {j : Int} (hd : decode Y.2.1 pc = .ok (.iaload, 1)) (h0 : 0 ≤ j) (hl9 : j < 7) (kk : aW G Y R Z kc ks h (pc + 1) ls (ab_i (ab_fac j.toNat) :: st)) : aW G Y R Z kc ks h pc ls (ab_i j :: ab_r 1001 :: st) :=
  aw_iald_o (N := 7) hd (by omega) (fun s hG => hG.2.1.2.2.2.1) h0 hl9 (by omega) kk
-- the script
theorem aw_isc {j : Int} (hd : decode Y.2.1 pc = .ok (.iaload, 1)) (h0 : 0 ≤ j) (hl9 : j < ab_L G) (hz : ab_L G < 1000000) (kk : aW G Y R Z kc ks h (pc + 1) ls (ab_i ((ab_xs G j.toNat).toInt) :: st)) : aW G Y R Z kc ks h pc ls (ab_i j :: ab_r 1002 :: st) := by
  intro p e s m args below meth c Cx H locs lsr hR hO hL hl
  have k9 := kk p e s m args below meth c Cx H locs lsr hR hO hL hl
  obtain ⟨e1, e2⟩ := ab_ixn h0 hl9 hz
  rw [List.map_cons, List.map_cons, aw_rv (by omega), ab_ad_ge (by omega)]
  obtain ⟨⟨scr, h1, h2, h3, h4, h5⟩, h6⟩ := Cx.2.2.2.2.2.2.2.2.2.1.2.2.2.2.2.2
  refine W.iald Cx.1 Cx.2.1 (by rw [hO _ h6]; exact h1) h2 h3 (by rw [h4]; exact e2) (v := .int (Int32.ofInt (ab_xs G j.toNat).toInt)) ?_ rfl rfl hd k9
  rw [e1, Int32.ofInt_toInt]
  exact h5 _ (by omega)
theorem aw_lsc (hd : decode Y.2.1 pc = .ok (.arraylength, 1)) (kk : aW G Y R Z kc ks h (pc + 1) ls (ab_i (ab_L G : Int) :: st)) : aW G Y R Z kc ks h pc ls (ab_r 1002 :: st) := by
  intro p e s m args below meth c Cx H locs lsr hR hO hL hl
  have k9 := kk p e s m args below meth c Cx H locs lsr hR hO hL hl
  rw [List.map_cons, aw_rv (by omega), ab_ad_ge (by omega)]
  obtain ⟨⟨scr, h1, h2, h3, h4, h5⟩, h6⟩ := Cx.2.2.2.2.2.2.2.2.2.1.2.2.2.2.2.2
  refine W.alen Cx.1 Cx.2.1 (by rw [hO _ h6]; exact h1) h2 (n := Int32.ofInt (ab_L G)) ?_ rfl rfl hd k9
  rw [h4]
  exact Int32.ofInt_eq_ofNat.symm
end AM
