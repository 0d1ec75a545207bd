def ab_fl0 : List (List Nat) := [[], [2, 13, 17, 21, 23, 44, 65, 73, 76, 79, 81], [3, 8, 9, 11], [4, 5, 6, 7], [], [], [], [], [], [10], [], [12], [], [0, 0, 0, 0, 14, 15, 16], [], [], [], [0, 0, 0, 0, 18, 19, 20], [], [], [], [22], [], [2, 24, 0, 0, 0, 0, 25], [32, 33, 34, 35, 36, 37, 38, 39, 40, 41, 42, 43], [26, 27, 28, 29, 30, 31], [], [], [], [], [], [], [], [], [], [], [], [], [], [], [], [], [], [], [2, 45, 0, 0, 0, 0, 46], [53, 54, 55, 56, 57, 58, 59, 60, 61, 62, 63, 64], [47, 48, 49, 50, 51, 52], [], [], [], [], [], [], [], [], [], [], [], [], [], [], [], [], [], [], [2, 66, 67, 72], [], [68, 69, 70, 71], [], [], [], [], [], [2, 74, 0, 75], [], [], [2, 77, 78], [], [], [76, 80], [], [76, 82, 83], [], [], [85, 86, 0, 87, 0, 88, 89, 90, 91, 92, 0, 93, 0, 0, 0, 0, 0, 0, 0, 94, 95, 96, 97, 98, 99, 0, 100, 101, 102, 103, 0, 104], [], [], [], [], [], [], [], [], [], [], [], [], [], [], [], [], [], [], [], []]
/-- the references that never change once all is made -/
def ab_F0 (i j : Nat) : Nat := (ab_fl0.getD i []).getD j 0
def ab_FB (F : Nat → Nat → Nat) : Prop := ∀ i j, i ≠ 24 → i ≠ 45 → F i j = ab_F0 i j
theorem ab_FB.at {F : Nat → Nat → Nat} (h : ab_FB F) (i j r : Nat) (h1 : Nat.beq i 24 = false) (h2 : Nat.beq i 45 = false) (hr : ab_F0 i j = r) : F i j = r := (h i j (Nat.ne_of_beq_eq_false h1) (Nat.ne_of_beq_eq_false h2)).trans hr
section AX
variable {G : ab_G} {Y : ab_Y} {R : Room} {Z : ab_Zt} {kc ks : Nat} {n : Nat} {I : Nat → Nat → Int} {F : Nat → Nat → Nat} {h : ab_H} {pc : Nat} {ls : List (Option ab_V)} {st : List ab_V}
theorem aw_nm_i {e : Int} (k : ∀ z, z = e → aW G Y R Z kc ks h pc ls (ab_i z :: st)) : aW G Y R Z kc ks h pc ls (ab_i e :: st) := k e rfl
theorem aw_nm_l {e : Int} (k : ∀ z, z = e → aW G Y R Z kc ks h pc ls (ab_l z :: st)) : aW G Y R Z kc ks h pc ls (ab_l e :: st) := k e rfl
theorem aw_nm_r {e : Nat} (k : ∀ z, z = e → aW G Y R Z kc ks h pc ls (ab_r z :: st)) : aW G Y R Z kc ks h pc ls (ab_r e :: st) := k e rfl
theorem aw_getrv {idx k j i r : Nat} {fin : Bool} (hd : decode Y.2.1 pc = .ok (.getfield idx, 3)) (hF : ab_FL Y.1.cls idx k j fin) (hi : 1 ≤ i ∧ i ≤ n) (hk : (ab_sh i).1 = k) (ht : ab_tag (ab_ty k j) = 1) (hr : F i j = r) (kk : aW G Y R Z kc ks (n, I, F) (pc + 3) ls (ab_r r :: st)) : aW G Y R Z kc ks (n, I, F) pc ls (ab_r i :: st) :=
  aw_getr hd hF hi hk ht (by rw [hr]; exact kk)
/-- the same point, another name for the heap -/
theorem aw_hp {h' : ab_H} (e : h = h') (k : aW G Y R Z kc ks h' pc ls st) : aW G Y R Z kc ks h pc ls st := e ▸ k
theorem aw_st {st' : List ab_V} (e : st = st') (k : aW G Y R Z kc ks h pc ls st') : aW G Y R Z kc ks h pc ls st := e ▸ k
theorem aw_ls {ls' : List (Option ab_V)} (e : ls = ls') (k : aW G Y R Z kc ks h pc ls' st) : aW G Y R Z kc ks h pc ls st := e ▸ k
end AX
