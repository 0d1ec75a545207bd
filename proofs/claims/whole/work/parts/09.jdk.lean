section AJ
variable {G : ab_G} {Y : ab_Y} {R : Room} {Z : ab_Zt} {kc ks : Nat} {h : ab_H} {pc : Nat} {ls : List (Option ab_V)} {st : List ab_V}
theorem aw_mmin {x y : Int} {idx : Nat} (hd : decode Y.2.1 pc = .ok (.invokestatic idx, 3)) (hlk : Cond.methodLink Y.1.cls idx Lib.Math.min.name ∈ lw_all) (hx : ab_In x) (hy : ab_In y) (hw : st.length ≤ 4) (h1 : 1 ≤ R.frames) (h2 : 21 ≤ R.locals) (h3 : kc ≤ R.cells) (h4 : ks ≤ R.slots) (k : aW G Y R Z kc ks h (pc + 3) ls (ab_i (if y < x then y else x) :: st)) : aW G Y R Z kc ks h pc ls (ab_i y :: ab_i x :: st) := by
  intro p e s m args below meth c C H locs lsr hR hO hL hl
  have k9 := k p e s m args below meth c C H locs lsr hR hO hL hl
  have hts := C.2.2.2.2.2.1
  refine va_mmin C.1 C.2.1 (C.2.2.2.1.trans hl.1.symm) C.2.2.2.2.1 (hts _ hlk) (hts _ sJmin) (hts _ nJmin) (hts _ cJmin) h1 (by have := ab_cats (G := G) st; omega) h3 h4 hd ?_
  have e9 : (if Int32.ofInt y < Int32.ofInt x then Int32.ofInt y else Int32.ofInt x) = Int32.ofInt (if y < x then y else x) := by
    by_cases hc : y < x
    · rw [if_pos hc, if_pos ((ab_lti hy hx).mpr hc)]
    · rw [if_neg hc, if_neg (fun q => hc ((ab_lti hy hx).mp q))]
  rw [e9]
  exact k9
end AJ
