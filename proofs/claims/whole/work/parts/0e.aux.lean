def ab_fl0 : List (List Nat) := [[], [2, 13, 17, 21, 23, 44, 65, 73, 76, 79, 81], [3, 8, 9, 11], [4, 5, 6, 7], [], [], [], [], [], [10], [], [12], [], [0, 0, 0, 0, 14, 15, 16], [], [], [], [0, 0, 0, 0, 18, 19, 20], [], [], [], [22], [], [2, 24, 0, 0, 0, 0, 25], [32, 33, 34, 35, 36, 37, 38, 39, 40, 41, 42, 43], [26, 27, 28, 29, 30, 31], [], [], [], [], [], [], [], [], [], [], [], [], [], [], [], [], [], [], [2, 45, 0, 0, 0, 0, 46], [53, 54, 55, 56, 57, 58, 59, 60, 61, 62, 63, 64], [47, 48, 49, 50, 51, 52], [], [], [], [], [], [], [], [], [], [], [], [], [], [], [], [], [], [], [2, 66, 67, 72], [], [68, 69, 70, 71], [], [], [], [], [], [2, 74, 0, 75], [], [], [2, 77, 78], [], [], [76, 80], [], [76, 82, 83], [], [], [85, 86, 0, 87, 0, 88, 89, 90, 91, 92, 0, 93, 0, 0, 0, 0, 0, 0, 0, 94, 95, 96, 97, 98, 99, 0, 100, 101, 102, 103, 0, 104], [], [], [], [], [], [], [], [], [], [], [], [], [], [], [], [], [], [], [], []]
/-- the references that never change once all is made -/
def ab_F0 (i j : Nat) : Nat := (ab_fl0.getD i []).getD j 0
def ab_FB (F : Nat → Nat → Nat) : Prop := ∀ i j, i ≠ 24 → i ≠ 45 → F i j = ab_F0 i j
theorem ab_FB.at {F : Nat → Nat → Nat} (h : ab_FB F) (i j r : Nat) (h1 : Nat.beq i 24 = false) (h2 : Nat.beq i 45 = false) (hr : ab_F0 i j = r) : F i j = r := (h i j (Nat.ne_of_beq_eq_false h1) (Nat.ne_of_beq_eq_false h2)).trans hr
theorem ab_le_nil {b : List (Option ab_V)} : ab_le [] b := fun j v h => by simp at h
theorem ab_le_c {x : Option ab_V} {a b : List (Option ab_V)} (h : ab_le a b) : ab_le (x :: a) (x :: b) := fun j v hj => by
  cases j with
  | zero => exact hj
  | succ j => exact h j v hj
theorem ab_le_n {x : Option ab_V} {a b : List (Option ab_V)} (h : ab_le a b) : ab_le (none :: a) (x :: b) := fun j v hj => by
  cases j with
  | zero => simp at hj
  | succ j => exact h j v hj
section AX
variable {G : ab_G} {Y : ab_Y} {R : Room} {Z : ab_Zt} {kc ks : Nat} {n : Nat} {I : Nat → Nat → Int} {F : Nat → Nat → Nat} {h : ab_H} {pc : Nat} {ls : List (Option ab_V)} {st : List ab_V}
theorem aw_nm_i {e : Int} (k : ∀ z, z = e → aW G Y R Z kc ks h pc ls (ab_i z :: st)) : aW G Y R Z kc ks h pc ls (ab_i e :: st) := k e rfl
theorem aw_nm_l {e : Int} (k : ∀ z, z = e → aW G Y R Z kc ks h pc ls (ab_l z :: st)) : aW G Y R Z kc ks h pc ls (ab_l e :: st) := k e rfl
theorem aw_nm_r {e : Nat} (k : ∀ z, z = e → aW G Y R Z kc ks h pc ls (ab_r z :: st)) : aW G Y R Z kc ks h pc ls (ab_r e :: st) := k e rfl
theorem aw_getrv {idx k j i r : Nat} {fin : Bool} (hd : decode Y.2.1 pc = .ok (.getfield idx, 3)) (hF : ab_FL Y.1.cls idx k j fin) (hi : 1 ≤ i ∧ i ≤ n) (hk : (ab_sh i).1 = k) (ht : ab_tag (ab_ty k j) = 1) (hr : F i j = r) (kk : aW G Y R Z kc ks (n, I, F) (pc + 3) ls (ab_r r :: st)) : aW G Y R Z kc ks (n, I, F) pc ls (ab_r i :: st) :=
  aw_getr hd hF hi hk ht (by rw [hr]; exact kk)
theorem aw_getiv {idx k j i : Nat} {v : Int} {fin : Bool} (hd : decode Y.2.1 pc = .ok (.getfield idx, 3)) (hF : ab_FL Y.1.cls idx k j fin) (hi : 1 ≤ i ∧ i ≤ n) (hk : (ab_sh i).1 = k) (ht : ab_tag (ab_ty k j) = 0) (hr : I i j = v) (kk : aW G Y R Z kc ks (n, I, F) (pc + 3) ls (ab_i v :: st)) : aW G Y R Z kc ks (n, I, F) pc ls (ab_r i :: st) :=
  aw_geti hd hF hi hk ht (by rw [hr]; exact kk)
theorem aw_getlv {idx k j i : Nat} {v : Int} {fin : Bool} (hd : decode Y.2.1 pc = .ok (.getfield idx, 3)) (hF : ab_FL Y.1.cls idx k j fin) (hi : 1 ≤ i ∧ i ≤ n) (hk : (ab_sh i).1 = k) (ht : ab_tag (ab_ty k j) = 2) (hr : I i j = v) (kk : aW G Y R Z kc ks (n, I, F) (pc + 3) ls (ab_l v :: st)) : aW G Y R Z kc ks (n, I, F) pc ls (ab_r i :: st) :=
  aw_getl hd hF hi hk ht (by rw [hr]; exact kk)
theorem aw_ialdv {i l : Nat} {j v : Int} (hd : decode Y.2.1 pc = .ok (.iaload, 1)) (hi : 1 ≤ i ∧ i ≤ n) (hk : ab_sh i = (20, l)) (h0 : 0 ≤ j) (hl9 : j < l) (hz : l < 1000000) (hr : I i j.toNat = v) (kk : aW G Y R Z kc ks (n, I, F) (pc + 1) ls (ab_i v :: st)) : aW G Y R Z kc ks (n, I, F) pc ls (ab_i j :: ab_r i :: st) :=
  aw_iald hd hi hk h0 hl9 hz (by rw [hr]; exact kk)
theorem aw_aaldv {i l k r : Nat} {j : Int} (hd : decode Y.2.1 pc = .ok (.aaload, 1)) (hi : 1 ≤ i ∧ i ≤ n) (hk : ab_sh i = (k, l)) (hk2 : k = 23 ∨ k = 24) (h0 : 0 ≤ j) (hl9 : j < l) (hz : l < 1000000) (hr : F i j.toNat = r) (kk : aW G Y R Z kc ks (n, I, F) (pc + 1) ls (ab_r r :: st)) : aW G Y R Z kc ks (n, I, F) pc ls (ab_i j :: ab_r i :: st) :=
  aw_aald hd hi hk hk2 h0 hl9 hz (by rw [hr]; exact kk)
theorem aw_caldv {i l : Nat} {j v : Int} (hd : decode Y.2.1 pc = .ok (.caload, 1)) (hi : 1 ≤ i ∧ i ≤ n) (hk : ab_sh i = (21, l)) (h0 : 0 ≤ j) (hl9 : j < l) (hz : l < 1000000) (hr : I i j.toNat = v) (kk : aW G Y R Z kc ks (n, I, F) (pc + 1) ls (ab_i v :: st)) : aW G Y R Z kc ks (n, I, F) pc ls (ab_i j :: ab_r i :: st) :=
  aw_cald hd hi hk h0 hl9 hz (by rw [hr]; exact kk)
theorem aw_zaldv {i l : Nat} {j v : Int} (hd : decode Y.2.1 pc = .ok (.baload, 1)) (hi : 1 ≤ i ∧ i ≤ n) (hk : ab_sh i = (22, l)) (h0 : 0 ≤ j) (hl9 : j < l) (hz : l < 1000000) (hr : I i j.toNat = v) (kk : aW G Y R Z kc ks (n, I, F) (pc + 1) ls (ab_i v :: st)) : aW G Y R Z kc ks (n, I, F) pc ls (ab_i j :: ab_r i :: st) :=
  aw_zald hd hi hk h0 hl9 hz (by rw [hr]; exact kk)
theorem aw_iastv {i l q : Nat} {j x : Int} (hd : decode Y.2.1 pc = .ok (.iastore, 1)) (hi : 1 ≤ i ∧ i ≤ n) (hk : ab_sh i = (20, l)) (h0 : 0 ≤ j) (hl9 : j < l) (hz : l < 1000000) (hq : j.toNat = q) (kk : aW G Y R Z kc ks (n, ab_u I i q x, F) (pc + 1) ls st) : aW G Y R Z kc ks (n, I, F) pc ls (ab_i x :: ab_i j :: ab_r i :: st) :=
  aw_iast hd hi hk h0 hl9 hz (by rw [hq]; exact kk)
theorem aw_castv {i l q : Nat} {j x : Int} (hd : decode Y.2.1 pc = .ok (.castore, 1)) (hi : 1 ≤ i ∧ i ≤ n) (hk : ab_sh i = (21, l)) (h0 : 0 ≤ j) (hl9 : j < l) (hz : l < 1000000) (hx : (Int32.ofInt x).toUInt32.toUInt16.toUInt32.toInt32 = Int32.ofInt x) (hq : j.toNat = q) (kk : aW G Y R Z kc ks (n, ab_u I i q x, F) (pc + 1) ls st) : aW G Y R Z kc ks (n, I, F) pc ls (ab_i x :: ab_i j :: ab_r i :: st) :=
  aw_cast hd hi hk h0 hl9 hz hx (by rw [hq]; exact kk)
theorem aw_zastv {i l q : Nat} {j x : Int} (hd : decode Y.2.1 pc = .ok (.bastore, 1)) (hi : 1 ≤ i ∧ i ≤ n) (hk : ab_sh i = (22, l)) (h0 : 0 ≤ j) (hl9 : j < l) (hz : l < 1000000) (hx : x = 0 ∨ x = 1) (hq : j.toNat = q) (kk : aW G Y R Z kc ks (n, ab_u I i q x, F) (pc + 1) ls st) : aW G Y R Z kc ks (n, I, F) pc ls (ab_i x :: ab_i j :: ab_r i :: st) :=
  aw_zast hd hi hk h0 hl9 hz hx (by rw [hq]; exact kk)
theorem aw_aastv {i l v q : Nat} {j : Int} (hkc : ab_KC 4 RX4 TX4 5) (hd : decode Y.2.1 pc = .ok (.aastore, 1)) (hi : 1 ≤ i ∧ i ≤ n) (hk : ab_sh i = (24, l)) (h0 : 0 ≤ j) (hl9 : j < l) (hz : l < 1000000) (hv : 1 ≤ v ∧ v ≤ n) (hvk : (ab_sh v).1 = 4) (hq : j.toNat = q) (kk : aW G Y R Z kc ks (n, I, ab_w F i q v) (pc + 1) ls st) : aW G Y R Z kc ks (n, I, F) pc ls (ab_r v :: ab_i j :: ab_r i :: st) :=
  aw_aast hkc hd hi hk h0 hl9 hz hv hvk (by rw [hq]; exact kk)
theorem aw_ialdq {i l q : Nat} {j v : Int} (hd : decode Y.2.1 pc = .ok (.iaload, 1)) (hi : 1 ≤ i ∧ i ≤ n) (hk : ab_sh i = (20, l)) (h0 : 0 ≤ j) (hl9 : j < l) (hz : l < 1000000) (hq : j.toNat = q) (hr : I i q = v) (kk : aW G Y R Z kc ks (n, I, F) (pc + 1) ls (ab_i v :: st)) : aW G Y R Z kc ks (n, I, F) pc ls (ab_i j :: ab_r i :: st) :=
  aw_iald hd hi hk h0 hl9 hz (by rw [hq, hr]; exact kk)
theorem aw_caldq {i l q : Nat} {j v : Int} (hd : decode Y.2.1 pc = .ok (.caload, 1)) (hi : 1 ≤ i ∧ i ≤ n) (hk : ab_sh i = (21, l)) (h0 : 0 ≤ j) (hl9 : j < l) (hz : l < 1000000) (hq : j.toNat = q) (hr : I i q = v) (kk : aW G Y R Z kc ks (n, I, F) (pc + 1) ls (ab_i v :: st)) : aW G Y R Z kc ks (n, I, F) pc ls (ab_i j :: ab_r i :: st) :=
  aw_cald hd hi hk h0 hl9 hz (by rw [hq, hr]; exact kk)
theorem aw_zaldq {i l q : Nat} {j v : Int} (hd : decode Y.2.1 pc = .ok (.baload, 1)) (hi : 1 ≤ i ∧ i ≤ n) (hk : ab_sh i = (22, l)) (h0 : 0 ≤ j) (hl9 : j < l) (hz : l < 1000000) (hq : j.toNat = q) (hr : I i q = v) (kk : aW G Y R Z kc ks (n, I, F) (pc + 1) ls (ab_i v :: st)) : aW G Y R Z kc ks (n, I, F) pc ls (ab_i j :: ab_r i :: st) :=
  aw_zald hd hi hk h0 hl9 hz (by rw [hq, hr]; exact kk)
/-- the same point, another name for the heap -/
theorem aw_hp {h' : ab_H} (e : h = h') (k : aW G Y R Z kc ks h' pc ls st) : aW G Y R Z kc ks h pc ls st := e ▸ k
theorem aw_st {st' : List ab_V} (e : st = st') (k : aW G Y R Z kc ks h pc ls st') : aW G Y R Z kc ks h pc ls st := e ▸ k
theorem aw_ls {ls' : List (Option ab_V)} (e : ls = ls') (k : aW G Y R Z kc ks h pc ls' st) : aW G Y R Z kc ks h pc ls st := e ▸ k
end AX
theorem sh_w {s : Nat} (h : s < 4) : ab_sh (4 + s) = (20, 4) := by
  match s, h with
  | 0, _ => rfl
  | 1, _ => rfl
  | 2, _ => rfl
  | 3, _ => rfl
theorem ab_FB.w {F : Nat → Nat → Nat} (hF : ab_FB F) {s : Nat} (h : s < 4) : F 3 s = 4 + s := by
  match s, h with
  | 0, _ => exact hF.at 3 0 4 rfl rfl rfl
  | 1, _ => exact hF.at 3 1 5 rfl rfl rfl
  | 2, _ => exact hF.at 3 2 6 rfl rfl rfl
  | 3, _ => exact hF.at 3 3 7 rfl rfl rfl
theorem sh_t23 {s : Nat} (h : s < 6) : ab_sh (26 + s) = (20, 4) := by
  match s, h with
  | 0, _ => rfl
  | 1, _ => rfl
  | 2, _ => rfl
  | 3, _ => rfl
  | 4, _ => rfl
  | 5, _ => rfl
theorem ab_FB.t23 {F : Nat → Nat → Nat} (hF : ab_FB F) {s : Nat} (h : s < 6) : F 25 s = 26 + s := by
  match s, h with
  | 0, _ => exact hF.at 25 0 26 rfl rfl rfl
  | 1, _ => exact hF.at 25 1 27 rfl rfl rfl
  | 2, _ => exact hF.at 25 2 28 rfl rfl rfl
  | 3, _ => exact hF.at 25 3 29 rfl rfl rfl
  | 4, _ => exact hF.at 25 4 30 rfl rfl rfl
  | 5, _ => exact hF.at 25 5 31 rfl rfl rfl
theorem sh_t44 {s : Nat} (h : s < 6) : ab_sh (47 + s) = (20, 4) := by
  match s, h with
  | 0, _ => rfl
  | 1, _ => rfl
  | 2, _ => rfl
  | 3, _ => rfl
  | 4, _ => rfl
  | 5, _ => rfl
theorem ab_FB.t44 {F : Nat → Nat → Nat} (hF : ab_FB F) {s : Nat} (h : s < 6) : F 46 s = 47 + s := by
  match s, h with
  | 0, _ => exact hF.at 46 0 47 rfl rfl rfl
  | 1, _ => exact hF.at 46 1 48 rfl rfl rfl
  | 2, _ => exact hF.at 46 2 49 rfl rfl rfl
  | 3, _ => exact hF.at 46 3 50 rfl rfl rfl
  | 4, _ => exact hF.at 46 4 51 rfl rfl rfl
  | 5, _ => exact hF.at 46 5 52 rfl rfl rfl
theorem sh_like {s : Nat} (h : s < 4) : ab_sh (68 + s) = (20, 5) := by
  match s, h with
  | 0, _ => rfl
  | 1, _ => rfl
  | 2, _ => rfl
  | 3, _ => rfl
theorem ab_FB.like {F : Nat → Nat → Nat} (hF : ab_FB F) {s : Nat} (h : s < 4) : F 67 s = 68 + s := by
  match s, h with
  | 0, _ => exact hF.at 67 0 68 rfl rfl rfl
  | 1, _ => exact hF.at 67 1 69 rfl rfl rfl
  | 2, _ => exact hF.at 67 2 70 rfl rfl rfl
  | 3, _ => exact hF.at 67 3 71 rfl rfl rfl
theorem sh_p23 {p : Nat} (h : 32 ≤ p ∧ p ≤ 43) : (ab_sh p).1 = 4 := by
  obtain ⟨k, rfl⟩ := Nat.exists_eq_add_of_le h.1
  have hk : k < 12 := by omega
  match k, hk with
  | 0, _ => rfl
  | 1, _ => rfl
  | 2, _ => rfl
  | 3, _ => rfl
  | 4, _ => rfl
  | 5, _ => rfl
  | 6, _ => rfl
  | 7, _ => rfl
  | 8, _ => rfl
  | 9, _ => rfl
  | 10, _ => rfl
  | 11, _ => rfl
theorem sh_p44 {p : Nat} (h : 53 ≤ p ∧ p ≤ 64) : (ab_sh p).1 = 4 := by
  obtain ⟨k, rfl⟩ := Nat.exists_eq_add_of_le h.1
  have hk : k < 12 := by omega
  match k, hk with
  | 0, _ => rfl
  | 1, _ => rfl
  | 2, _ => rfl
  | 3, _ => rfl
  | 4, _ => rfl
  | 5, _ => rfl
  | 6, _ => rfl
  | 7, _ => rfl
  | 8, _ => rfl
  | 9, _ => rfl
  | 10, _ => rfl
  | 11, _ => rfl
