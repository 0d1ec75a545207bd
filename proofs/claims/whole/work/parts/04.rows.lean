def ab_rm (d mc ms : Nat) : Room := { frames := d, cells := mc, slots := ms, locals := 64 * d }
def ab_Cx (G : ab_G) (Y : ab_Y) (p : Program) (s : State) (m : MethodId) (args : Array Value) (meth : Method) (c : Code) : Prop :=
  p.tables.exec = Jvm.exec ∧ c.code = Y.2.1 ∧ meth.sig.returnType = Y.2.2.2 ∧ c.maxLocals = Y.2.2.1 ∧ s.vm.findClass Y.1.cls = some m.cls ∧ (∀ w ∈ lw_all, w.before args s = true) ∧ meth.locks = false ∧ meth.name = Y.1.name ∧ ab_Gl G s
abbrev ab_Zt : Type := List Frame → Array Value → State → State → Prop
/-- from this point of the method Y, with the heap h, the locals ls and the stack st, the machine comes to Z -/
def aW (G : ab_G) (Y : ab_Y) (R : Room) (Z : ab_Zt) (kc ks : Nat) (h : ab_H) (pc : Nat) (ls : List (Option ab_V)) (st : List ab_V) : Prop :=
  ∀ (p : Program) (e : Env) (s : State) (m : MethodId) (args : Array Value) (below : List Frame) (meth : Method) (c : Code), ab_Cx G Y p s m args meth c → ∀ (H : Heap) (locs : List Loc) (lsr : Array Slot), ab_Rep G h H → (∀ q : Nat, q ≤ ab_B G → H[q]? = s.heap[q]?) → (∀ q ∈ locs, ab_B G < q.base) → lv_has lsr Y.2.2.1 (ab_lo G 0 ls) → W p G.1 e R s m args below meth c H locs kc ks (Z below args s) (F0 m pc lsr (st.map (ab_c G)))
def ab_In (z : Int) : Prop := -2147483648 ≤ z ∧ z < 2147483648
def ab_Il (z : Int) : Prop := -9223372036854775808 ≤ z ∧ z < 9223372036854775808
theorem ab_to {z : Int} (h : ab_In z) : (Int32.ofInt z).toInt = z := Int32.toInt_ofInt_of_le h.1 h.2
theorem ab_tol {z : Int} (h : ab_Il z) : (Int64.ofInt z).toInt = z := Int64.toInt_ofInt_of_le h.1 h.2
theorem ab_eqi {x y : Int} (hx : ab_In x) (hy : ab_In y) : Int32.ofInt x = Int32.ofInt y ↔ x = y := by rw [← Int32.toInt_inj, ab_to hx, ab_to hy]
theorem ab_lti {x y : Int} (hx : ab_In x) (hy : ab_In y) : Int32.ofInt x < Int32.ofInt y ↔ x < y := by rw [Int32.lt_iff_toInt_lt, ab_to hx, ab_to hy]
theorem ab_lei {x y : Int} (hx : ab_In x) (hy : ab_In y) : Int32.ofInt x ≤ Int32.ofInt y ↔ x ≤ y := by rw [Int32.le_iff_toInt_le, ab_to hx, ab_to hy]
theorem ab_eql {x y : Int} (hx : ab_Il x) (hy : ab_Il y) : Int64.ofInt x = Int64.ofInt y ↔ x = y := by rw [← Int64.toInt_inj, ab_tol hx, ab_tol hy]
theorem ab_ltl {x y : Int} (hx : ab_Il x) (hy : ab_Il y) : Int64.ofInt x < Int64.ofInt y ↔ x < y := by rw [Int64.lt_iff_toInt_lt, ab_tol hx, ab_tol hy]
theorem ab_in0 : ab_In 0 := by unfold ab_In; omega
def ab_and (x y : Int) : Int := (Int32.ofInt x &&& Int32.ofInt y).toInt
def ab_or (x y : Int) : Int := (Int32.ofInt x ||| Int32.ofInt y).toInt
def ab_xor (x y : Int) : Int := (Int32.ofInt x ^^^ Int32.ofInt y).toInt
def ab_sl (x y : Int) : Int := (Int32.ofInt x <<< (Int32.ofInt y &&& 31)).toInt
def ab_sr (x y : Int) : Int := (Int32.ofInt x >>> (Int32.ofInt y &&& 31)).toInt
def ab_usr (x y : Int) : Int := ((Int32.ofInt x).toUInt32 >>> ((Int32.ofInt y).toUInt32 &&& Int32.toUInt32 31)).toInt32.toInt
def ab_div (x y : Int) : Int := (Int32.ofInt x / Int32.ofInt y).toInt
def ab_rem (x y : Int) : Int := (Int32.ofInt x - Int32.ofInt x / Int32.ofInt y * Int32.ofInt y).toInt
def ab_landL (x y : Int) : Int := (Int64.ofInt x &&& Int64.ofInt y).toInt
def ab_lorL (x y : Int) : Int := (Int64.ofInt x ||| Int64.ofInt y).toInt
def ab_ldivL (x y : Int) : Int := (Int64.ofInt x / Int64.ofInt y).toInt
def ab_lremL (x y : Int) : Int := (Int64.ofInt x - Int64.ofInt x / Int64.ofInt y * Int64.ofInt y).toInt
def ab_lshlL (x y : Int) : Int := (Int64.ofInt x <<< ((Int32.ofInt y).toInt64 &&& 63)).toInt
def ab_lshrL (x y : Int) : Int := (Int64.ofInt x >>> ((Int32.ofInt y).toInt64 &&& 63)).toInt
def ab_i2c (x : Int) : Int := ((Int32.ofInt x).toUInt32 % 65536).toInt32.toInt
def ab_i2l (x : Int) : Int := (Int32.ofInt x).toInt64.toInt
def ab_l2i (x : Int) : Int := (Int64.ofInt x).toInt32.toInt
def ab_lcmp (x y : Int) : Int := (lg_cmp (Int64.ofInt x) (Int64.ofInt y)).toInt
section AR
variable {G : ab_G} {Y : ab_Y} {R : Room} {Z : ab_Zt} {kc ks : Nat} {h : ab_H} {pc : Nat} {ls : List (Option ab_V)} {st : List ab_V}
theorem aw_iadd {x y : Int} (hd : decode Y.2.1 pc = .ok (.iadd, 1)) (k : aW G Y R Z kc ks h (pc + 1) ls (ab_i (x + y) :: st)) : aW G Y R Z kc ks h pc ls (ab_i y :: ab_i x :: st) := by
  intro p e s m args below meth c C H locs lsr hR hO hL hl
  refine lv_iadd C.1 C.2.1 hd ?_
  rw [← Int32.ofInt_add]
  exact k p e s m args below meth c C H locs lsr hR hO hL hl
theorem aw_isub {x y : Int} (hd : decode Y.2.1 pc = .ok (.isub, 1)) (k : aW G Y R Z kc ks h (pc + 1) ls (ab_i (x - y) :: st)) : aW G Y R Z kc ks h pc ls (ab_i y :: ab_i x :: st) := by
  intro p e s m args below meth c C H locs lsr hR hO hL hl
  refine lv_isub C.1 C.2.1 hd ?_
  rw [← Int32.ofInt_sub]
  exact k p e s m args below meth c C H locs lsr hR hO hL hl
theorem aw_imul {x y : Int} (hd : decode Y.2.1 pc = .ok (.imul, 1)) (k : aW G Y R Z kc ks h (pc + 1) ls (ab_i (x * y) :: st)) : aW G Y R Z kc ks h pc ls (ab_i y :: ab_i x :: st) := by
  intro p e s m args below meth c C H locs lsr hR hO hL hl
  refine lv_imul C.1 C.2.1 hd ?_
  rw [← Int32.ofInt_mul]
  exact k p e s m args below meth c C H locs lsr hR hO hL hl
theorem aw_ladd {x y : Int} (hd : decode Y.2.1 pc = .ok (.ladd, 1)) (k : aW G Y R Z kc ks h (pc + 1) ls (ab_l (x + y) :: st)) : aW G Y R Z kc ks h pc ls (ab_l y :: ab_l x :: st) := by
  intro p e s m args below meth c C H locs lsr hR hO hL hl
  refine lv_ladd C.1 C.2.1 hd ?_
  rw [← Int64.ofInt_add]
  exact k p e s m args below meth c C H locs lsr hR hO hL hl
theorem aw_lsub {x y : Int} (hd : decode Y.2.1 pc = .ok (.lsub, 1)) (k : aW G Y R Z kc ks h (pc + 1) ls (ab_l (x - y) :: st)) : aW G Y R Z kc ks h pc ls (ab_l y :: ab_l x :: st) := by
  intro p e s m args below meth c C H locs lsr hR hO hL hl
  refine lv_lsub C.1 C.2.1 hd ?_
  rw [← Int64.ofInt_sub]
  exact k p e s m args below meth c C H locs lsr hR hO hL hl
theorem aw_lmul {x y : Int} (hd : decode Y.2.1 pc = .ok (.lmul, 1)) (k : aW G Y R Z kc ks h (pc + 1) ls (ab_l (x * y) :: st)) : aW G Y R Z kc ks h pc ls (ab_l y :: ab_l x :: st) := by
  intro p e s m args below meth c C H locs lsr hR hO hL hl
  refine lv_lmul C.1 C.2.1 hd ?_
  rw [← Int64.ofInt_mul]
  exact k p e s m args below meth c C H locs lsr hR hO hL hl
theorem aw_iand {x y : Int} (hd : decode Y.2.1 pc = .ok (.iand, 1)) (k : aW G Y R Z kc ks h (pc + 1) ls (ab_i (ab_and x y) :: st)) : aW G Y R Z kc ks h pc ls (ab_i y :: ab_i x :: st) := by
  intro p e s m args below meth c C H locs lsr hR hO hL hl
  refine lv_iand C.1 C.2.1 hd ?_
  have k9 := k p e s m args below meth c C H locs lsr hR hO hL hl
  simp only [List.map_cons, ab_c, ab_and, Int32.ofInt_toInt, Int64.ofInt_toInt] at k9
  exact k9
theorem aw_ior {x y : Int} (hd : decode Y.2.1 pc = .ok (.ior, 1)) (k : aW G Y R Z kc ks h (pc + 1) ls (ab_i (ab_or x y) :: st)) : aW G Y R Z kc ks h pc ls (ab_i y :: ab_i x :: st) := by
  intro p e s m args below meth c C H locs lsr hR hO hL hl
  refine lv_ior C.1 C.2.1 hd ?_
  have k9 := k p e s m args below meth c C H locs lsr hR hO hL hl
  simp only [List.map_cons, ab_c, ab_or, Int32.ofInt_toInt, Int64.ofInt_toInt] at k9
  exact k9
theorem aw_ixor {x y : Int} (hd : decode Y.2.1 pc = .ok (.ixor, 1)) (k : aW G Y R Z kc ks h (pc + 1) ls (ab_i (ab_xor x y) :: st)) : aW G Y R Z kc ks h pc ls (ab_i y :: ab_i x :: st) := by
  intro p e s m args below meth c C H locs lsr hR hO hL hl
  refine lv_ixor C.1 C.2.1 hd ?_
  have k9 := k p e s m args below meth c C H locs lsr hR hO hL hl
  simp only [List.map_cons, ab_c, ab_xor, Int32.ofInt_toInt, Int64.ofInt_toInt] at k9
  exact k9
theorem aw_ishl {x y : Int} (hd : decode Y.2.1 pc = .ok (.ishl, 1)) (k : aW G Y R Z kc ks h (pc + 1) ls (ab_i (ab_sl x y) :: st)) : aW G Y R Z kc ks h pc ls (ab_i y :: ab_i x :: st) := by
  intro p e s m args below meth c C H locs lsr hR hO hL hl
  refine lv_ishl C.1 C.2.1 hd ?_
  have k9 := k p e s m args below meth c C H locs lsr hR hO hL hl
  simp only [List.map_cons, ab_c, ab_sl, Int32.ofInt_toInt, Int64.ofInt_toInt] at k9
  exact k9
theorem aw_ishr {x y : Int} (hd : decode Y.2.1 pc = .ok (.ishr, 1)) (k : aW G Y R Z kc ks h (pc + 1) ls (ab_i (ab_sr x y) :: st)) : aW G Y R Z kc ks h pc ls (ab_i y :: ab_i x :: st) := by
  intro p e s m args below meth c C H locs lsr hR hO hL hl
  refine lv_ishr C.1 C.2.1 hd ?_
  have k9 := k p e s m args below meth c C H locs lsr hR hO hL hl
  simp only [List.map_cons, ab_c, ab_sr, Int32.ofInt_toInt, Int64.ofInt_toInt] at k9
  exact k9
theorem aw_iushr {x y : Int} (hd : decode Y.2.1 pc = .ok (.iushr, 1)) (k : aW G Y R Z kc ks h (pc + 1) ls (ab_i (ab_usr x y) :: st)) : aW G Y R Z kc ks h pc ls (ab_i y :: ab_i x :: st) := by
  intro p e s m args below meth c C H locs lsr hR hO hL hl
  refine lv_iushr C.1 C.2.1 hd rfl ?_
  have k9 := k p e s m args below meth c C H locs lsr hR hO hL hl
  simp only [List.map_cons, ab_c, ab_usr, Int32.ofInt_toInt, Int64.ofInt_toInt] at k9
  exact k9
theorem aw_land {x y : Int} (hd : decode Y.2.1 pc = .ok (.land, 1)) (k : aW G Y R Z kc ks h (pc + 1) ls (ab_l (ab_landL x y) :: st)) : aW G Y R Z kc ks h pc ls (ab_l y :: ab_l x :: st) := by
  intro p e s m args below meth c C H locs lsr hR hO hL hl
  refine lv_land C.1 C.2.1 hd ?_
  have k9 := k p e s m args below meth c C H locs lsr hR hO hL hl
  simp only [List.map_cons, ab_c, ab_landL, Int32.ofInt_toInt, Int64.ofInt_toInt] at k9
  exact k9
theorem aw_lor {x y : Int} (hd : decode Y.2.1 pc = .ok (.lor, 1)) (k : aW G Y R Z kc ks h (pc + 1) ls (ab_l (ab_lorL x y) :: st)) : aW G Y R Z kc ks h pc ls (ab_l y :: ab_l x :: st) := by
  intro p e s m args below meth c C H locs lsr hR hO hL hl
  refine lv_lor C.1 C.2.1 hd ?_
  have k9 := k p e s m args below meth c C H locs lsr hR hO hL hl
  simp only [List.map_cons, ab_c, ab_lorL, Int32.ofInt_toInt, Int64.ofInt_toInt] at k9
  exact k9
theorem aw_idiv {x y : Int} (hd : decode Y.2.1 pc = .ok (.idiv, 1)) (hy : ab_In y) (h0 : ¬ y = 0) (k : aW G Y R Z kc ks h (pc + 1) ls (ab_i (ab_div x y) :: st)) : aW G Y R Z kc ks h pc ls (ab_i y :: ab_i x :: st) := by
  intro p e s m args below meth c C H locs lsr hR hO hL hl
  refine lv_idiv C.1 C.2.1 hd (fun e9 => h0 ((ab_eqi hy ab_in0).mp e9)) ?_
  have k9 := k p e s m args below meth c C H locs lsr hR hO hL hl
  simp only [List.map_cons, ab_c, ab_div, Int32.ofInt_toInt, Int64.ofInt_toInt] at k9
  exact k9
theorem aw_irem {x y : Int} (hd : decode Y.2.1 pc = .ok (.irem, 1)) (hy : ab_In y) (h0 : ¬ y = 0) (k : aW G Y R Z kc ks h (pc + 1) ls (ab_i (ab_rem x y) :: st)) : aW G Y R Z kc ks h pc ls (ab_i y :: ab_i x :: st) := by
  intro p e s m args below meth c C H locs lsr hR hO hL hl
  refine lv_irem C.1 C.2.1 hd (fun e9 => h0 ((ab_eqi hy ab_in0).mp e9)) ?_
  have k9 := k p e s m args below meth c C H locs lsr hR hO hL hl
  simp only [List.map_cons, ab_c, ab_rem, Int32.ofInt_toInt, Int64.ofInt_toInt] at k9
  exact k9
theorem aw_ldiv {x y : Int} (hd : decode Y.2.1 pc = .ok (.ldiv, 1)) (hy : ab_Il y) (h0 : ¬ y = 0) (k : aW G Y R Z kc ks h (pc + 1) ls (ab_l (ab_ldivL x y) :: st)) : aW G Y R Z kc ks h pc ls (ab_l y :: ab_l x :: st) := by
  intro p e s m args below meth c C H locs lsr hR hO hL hl
  refine lv_ldiv C.1 C.2.1 hd (fun e9 => h0 ((ab_eql hy (by unfold ab_Il; omega)).mp e9)) ?_
  have k9 := k p e s m args below meth c C H locs lsr hR hO hL hl
  simp only [List.map_cons, ab_c, ab_ldivL, Int32.ofInt_toInt, Int64.ofInt_toInt] at k9
  exact k9
theorem aw_lrem {x y : Int} (hd : decode Y.2.1 pc = .ok (.lrem, 1)) (hy : ab_Il y) (h0 : ¬ y = 0) (k : aW G Y R Z kc ks h (pc + 1) ls (ab_l (ab_lremL x y) :: st)) : aW G Y R Z kc ks h pc ls (ab_l y :: ab_l x :: st) := by
  intro p e s m args below meth c C H locs lsr hR hO hL hl
  refine lv_lrem C.1 C.2.1 hd (fun e9 => h0 ((ab_eql hy (by unfold ab_Il; omega)).mp e9)) ?_
  have k9 := k p e s m args below meth c C H locs lsr hR hO hL hl
  simp only [List.map_cons, ab_c, ab_lremL, Int32.ofInt_toInt, Int64.ofInt_toInt] at k9
  exact k9
theorem aw_lshl {x y : Int} (hd : decode Y.2.1 pc = .ok (.lshl, 1)) (k : aW G Y R Z kc ks h (pc + 1) ls (ab_l (ab_lshlL x y) :: st)) : aW G Y R Z kc ks h pc ls (ab_i y :: ab_l x :: st) := by
  intro p e s m args below meth c C H locs lsr hR hO hL hl
  refine lv_lshl C.1 C.2.1 hd rfl ?_
  have k9 := k p e s m args below meth c C H locs lsr hR hO hL hl
  simp only [List.map_cons, ab_c, ab_lshlL, Int32.ofInt_toInt, Int64.ofInt_toInt] at k9
  exact k9
theorem aw_lshr {x y : Int} (hd : decode Y.2.1 pc = .ok (.lshr, 1)) (k : aW G Y R Z kc ks h (pc + 1) ls (ab_l (ab_lshrL x y) :: st)) : aW G Y R Z kc ks h pc ls (ab_i y :: ab_l x :: st) := by
  intro p e s m args below meth c C H locs lsr hR hO hL hl
  refine lv_lshr C.1 C.2.1 hd rfl ?_
  have k9 := k p e s m args below meth c C H locs lsr hR hO hL hl
  simp only [List.map_cons, ab_c, ab_lshrL, Int32.ofInt_toInt, Int64.ofInt_toInt] at k9
  exact k9
theorem aw_i2l {x : Int} (hd : decode Y.2.1 pc = .ok (.i2l, 1)) (k : aW G Y R Z kc ks h (pc + 1) ls (ab_l (ab_i2l x) :: st)) : aW G Y R Z kc ks h pc ls (ab_i x :: st) := by
  intro p e s m args below meth c C H locs lsr hR hO hL hl
  refine lv_i2l C.1 C.2.1 hd rfl ?_
  have k9 := k p e s m args below meth c C H locs lsr hR hO hL hl
  simp only [List.map_cons, ab_c, ab_i2l, Int32.ofInt_toInt, Int64.ofInt_toInt] at k9
  exact k9
theorem aw_l2i {x : Int} (hd : decode Y.2.1 pc = .ok (.l2i, 1)) (k : aW G Y R Z kc ks h (pc + 1) ls (ab_i (ab_l2i x) :: st)) : aW G Y R Z kc ks h pc ls (ab_l x :: st) := by
  intro p e s m args below meth c C H locs lsr hR hO hL hl
  refine lv_l2i C.1 C.2.1 hd rfl ?_
  have k9 := k p e s m args below meth c C H locs lsr hR hO hL hl
  simp only [List.map_cons, ab_c, ab_l2i, Int32.ofInt_toInt, Int64.ofInt_toInt] at k9
  exact k9
theorem aw_i2c {x : Int} (hd : decode Y.2.1 pc = .ok (.i2c, 1)) (k : aW G Y R Z kc ks h (pc + 1) ls (ab_i (ab_i2c x) :: st)) : aW G Y R Z kc ks h pc ls (ab_i x :: st) := by
  intro p e s m args below meth c C H locs lsr hR hO hL hl
  refine lv_i2c C.1 C.2.1 hd rfl ?_
  have k9 := k p e s m args below meth c C H locs lsr hR hO hL hl
  simp only [List.map_cons, ab_c, ab_i2c, Int32.ofInt_toInt, Int64.ofInt_toInt] at k9
  exact k9
theorem aw_lcmp {x y : Int} (hd : decode Y.2.1 pc = .ok (.lcmp, 1)) (k : aW G Y R Z kc ks h (pc + 1) ls (ab_i (ab_lcmp x y) :: st)) : aW G Y R Z kc ks h pc ls (ab_l y :: ab_l x :: st) := by
  intro p e s m args below meth c C H locs lsr hR hO hL hl
  refine W.lcmp C.1 C.2.1 hd ?_
  have k9 := k p e s m args below meth c C H locs lsr hR hO hL hl
  simp only [List.map_cons, ab_c, ab_lcmp, Int32.ofInt_toInt, Int64.ofInt_toInt] at k9
  exact k9
theorem aw_iconst {n : Int} (hd : decode Y.2.1 pc = .ok (.iconst n, 1)) (k : aW G Y R Z kc ks h (pc + 1) ls (ab_i n :: st)) : aW G Y R Z kc ks h pc ls st := by
  intro p e s m args below meth c C H locs lsr hR hO hL hl
  exact lv_iconst C.1 C.2.1 hd rfl (k p e s m args below meth c C H locs lsr hR hO hL hl)
theorem aw_bipush {n : Int} (hd : decode Y.2.1 pc = .ok (.bipush n, 2)) (hn : (Int8.ofInt n).toInt32 = Int32.ofInt n) (k : aW G Y R Z kc ks h (pc + 2) ls (ab_i n :: st)) : aW G Y R Z kc ks h pc ls st := by
  intro p e s m args below meth c C H locs lsr hR hO hL hl
  exact lv_bipush C.1 C.2.1 hd hn (k p e s m args below meth c C H locs lsr hR hO hL hl)
theorem aw_sipush {n : Int} (hd : decode Y.2.1 pc = .ok (.sipush n, 3)) (hn : (Int16.ofInt n).toInt32 = Int32.ofInt n) (k : aW G Y R Z kc ks h (pc + 3) ls (ab_i n :: st)) : aW G Y R Z kc ks h pc ls st := by
  intro p e s m args below meth c C H locs lsr hR hO hL hl
  exact lv_sipush C.1 C.2.1 hd hn (k p e s m args below meth c C H locs lsr hR hO hL hl)
theorem aw_lconst {n : Fin 2} {z : Int} (hd : decode Y.2.1 pc = .ok (.lconst n, 1)) (hn : Int64.ofNat (n : Nat) = Int64.ofInt z) (k : aW G Y R Z kc ks h (pc + 1) ls (ab_l z :: st)) : aW G Y R Z kc ks h pc ls st := by
  intro p e s m args below meth c C H locs lsr hR hO hL hl
  exact lv_lconst C.1 C.2.1 hd hn (k p e s m args below meth c C H locs lsr hR hO hL hl)
theorem aw_ldc {idx : Nat} {z : Int} (hd : decode Y.2.1 pc = .ok (.ldc idx, 2)) (hw : Cond.constant Y.1.cls idx (Int32.ofInt z) ∈ lw_all) (k : aW G Y R Z kc ks h (pc + 2) ls (ab_i z :: st)) : aW G Y R Z kc ks h pc ls st := by
  intro p e s m args below meth c C H locs lsr hR hO hL hl
  exact lv_ldc C.1 C.2.1 C.2.2.2.2.1 (C.2.2.2.2.2.1 _ hw) hd (k p e s m args below meth c C H locs lsr hR hO hL hl)
theorem aw_ldcw {idx : Nat} {z : Int} (hd : decode Y.2.1 pc = .ok (.ldc_w idx, 3)) (hw : Cond.constant Y.1.cls idx (Int32.ofInt z) ∈ lw_all) (k : aW G Y R Z kc ks h (pc + 3) ls (ab_i z :: st)) : aW G Y R Z kc ks h pc ls st := by
  intro p e s m args below meth c C H locs lsr hR hO hL hl
  exact lv_ldcw C.1 C.2.1 C.2.2.2.2.1 (C.2.2.2.2.2.1 _ hw) hd (k p e s m args below meth c C H locs lsr hR hO hL hl)
theorem aw_ldc2 {idx : Nat} {z : Int} (hd : decode Y.2.1 pc = .ok (.ldc2_w idx, 3)) (hw : Cond.constantLong Y.1.cls idx (Int64.ofInt z) ∈ lw_all) (k : aW G Y R Z kc ks h (pc + 3) ls (ab_l z :: st)) : aW G Y R Z kc ks h pc ls st := by
  intro p e s m args below meth c C H locs lsr hR hO hL hl
  exact lv_ldc2 C.1 C.2.1 C.2.2.2.2.1 (C.2.2.2.2.2.1 _ hw) hd (k p e s m args below meth c C H locs lsr hR hO hL hl)
theorem aw_ldcS {i : Nat} (hY : Y.1.cls = "ThreeOffers$Text") (hi : i < 15) (hd : decode Y.2.1 pc = .ok (.ldc (ab_six i), 2)) (k : aW G Y R Z kc ks h (pc + 2) ls (ab_r (1100 + i) :: st)) : aW G Y R Z kc ks h pc ls st := by
  intro p e s m args below meth c C H locs lsr hR hO hL hl
  have k9 := k p e s m args below meth c C H locs lsr hR hO hL hl
  have e9 : ab_c G (ab_r (1100 + i)) = .ref (ab_ax G (1100 + i)) := by
    show ab_rv G (1100 + i) = _
    unfold ab_rv ab_ad
    rw [if_neg (by omega), if_neg (by omega)]
  rw [List.map_cons, e9] at k9
  exact va_ldcS C.1 C.2.1 (hY ▸ C.2.2.2.2.1) (C.2.2.2.2.2.2.2.2.2.2.1 i hi) hd k9
theorem aw_dup {v : ab_V} (hd : decode Y.2.1 pc = .ok (.dup, 1)) (hv : ab_isl (some v) = false) (k : aW G Y R Z kc ks h (pc + 1) ls (v :: v :: st)) : aW G Y R Z kc ks h pc ls (v :: st) := by
  intro p e s m args below meth c C H locs lsr hR hO hL hl
  exact lv_dup C.1 C.2.1 hd (by rw [ab_cat, hv]; rfl) (k p e s m args below meth c C H locs lsr hR hO hL hl)
theorem aw_dup2 {v w : ab_V} (hd : decode Y.2.1 pc = .ok (.dup2, 1)) (hv : ab_isl (some v) = false) (hw : ab_isl (some w) = false) (k : aW G Y R Z kc ks h (pc + 1) ls (v :: w :: v :: w :: st)) : aW G Y R Z kc ks h pc ls (v :: w :: st) := by
  intro p e s m args below meth c C H locs lsr hR hO hL hl
  exact lv_dup2_11 C.1 C.2.1 hd (by rw [ab_cat, hv]; rfl) (by rw [ab_cat, hw]; rfl) (k p e s m args below meth c C H locs lsr hR hO hL hl)
theorem aw_pop {v : ab_V} (hd : decode Y.2.1 pc = .ok (.pop, 1)) (hv : ab_isl (some v) = false) (k : aW G Y R Z kc ks h (pc + 1) ls st) : aW G Y R Z kc ks h pc ls (v :: st) := by
  intro p e s m args below meth c C H locs lsr hR hO hL hl
  exact lv_pop C.1 C.2.1 hd (by rw [ab_cat, hv]; rfl) (k p e s m args below meth c C H locs lsr hR hO hL hl)
theorem aw_iload_n {n : Fin 4} {z : Int} (hd : decode Y.2.1 pc = .ok (.iload_n n, 1)) (hi : ls[(n : Nat)]? = some (some (ab_i z))) (k : aW G Y R Z kc ks h (pc + 1) ls (ab_i z :: st)) : aW G Y R Z kc ks h pc ls st := by
  intro p e s m args below meth c C H locs lsr hR hO hL hl
  exact lv_iload_n C.1 C.2.1 hd rfl (ab_has_ld hl hi) (k p e s m args below meth c C H locs lsr hR hO hL hl)
theorem aw_iload {i : Nat} {z : Int} (hd : decode Y.2.1 pc = .ok (.iload i, 2)) (hi : ls[i]? = some (some (ab_i z))) (k : aW G Y R Z kc ks h (pc + 2) ls (ab_i z :: st)) : aW G Y R Z kc ks h pc ls st := by
  intro p e s m args below meth c C H locs lsr hR hO hL hl
  exact lv_iload C.1 C.2.1 hd (ab_has_ld hl hi) (k p e s m args below meth c C H locs lsr hR hO hL hl)
theorem aw_lload_n {n : Fin 4} {z : Int} (hd : decode Y.2.1 pc = .ok (.lload_n n, 1)) (hi : ls[(n : Nat)]? = some (some (ab_l z))) (k : aW G Y R Z kc ks h (pc + 1) ls (ab_l z :: st)) : aW G Y R Z kc ks h pc ls st := by
  intro p e s m args below meth c C H locs lsr hR hO hL hl
  exact lv_lload_n C.1 C.2.1 hd rfl (ab_has_ld hl hi) (k p e s m args below meth c C H locs lsr hR hO hL hl)
theorem aw_lload {i : Nat} {z : Int} (hd : decode Y.2.1 pc = .ok (.lload i, 2)) (hi : ls[i]? = some (some (ab_l z))) (k : aW G Y R Z kc ks h (pc + 2) ls (ab_l z :: st)) : aW G Y R Z kc ks h pc ls st := by
  intro p e s m args below meth c C H locs lsr hR hO hL hl
  exact lv_lload C.1 C.2.1 hd (ab_has_ld hl hi) (k p e s m args below meth c C H locs lsr hR hO hL hl)
theorem aw_rv {r : Nat} (h0 : ¬ r = 0) : ab_c G (ab_r r) = .ref (ab_ad G r) := by
  show ab_rv G r = _
  unfold ab_rv
  rw [if_neg h0]
theorem aw_aload_n {n : Fin 4} {r : Nat} (hd : decode Y.2.1 pc = .ok (.aload_n n, 1)) (hi : ls[(n : Nat)]? = some (some (ab_r r))) (h0 : ¬ r = 0) (k : aW G Y R Z kc ks h (pc + 1) ls (ab_r r :: st)) : aW G Y R Z kc ks h pc ls st := by
  intro p e s m args below meth c C H locs lsr hR hO hL hl
  have k9 := k p e s m args below meth c C H locs lsr hR hO hL hl
  have k8 := ab_has_ld hl hi
  rw [List.map_cons, aw_rv h0] at k9
  rw [aw_rv h0] at k8
  exact lv_aload_n C.1 C.2.1 hd rfl k8 k9
theorem aw_aload {i : Nat} {r : Nat} (hd : decode Y.2.1 pc = .ok (.aload i, 2)) (hi : ls[i]? = some (some (ab_r r))) (h0 : ¬ r = 0) (k : aW G Y R Z kc ks h (pc + 2) ls (ab_r r :: st)) : aW G Y R Z kc ks h pc ls st := by
  intro p e s m args below meth c C H locs lsr hR hO hL hl
  have k9 := k p e s m args below meth c C H locs lsr hR hO hL hl
  have k8 := ab_has_ld hl hi
  rw [List.map_cons, aw_rv h0] at k9
  rw [aw_rv h0] at k8
  exact lv_aload C.1 C.2.1 hd k8 k9
theorem aw_istore_n {n : Fin 4} {z : Int} {ls' : List (Option ab_V)} (hd : decode Y.2.1 pc = .ok (.istore_n n, 1)) (hi : (n : Nat) < Y.2.2.1) (hl' : ab_st1 ls n (ab_i z) = ls') (k : aW G Y R Z kc ks h (pc + 1) ls' st) : aW G Y R Z kc ks h pc ls (ab_i z :: st) := by
  intro p e s m args below meth c C H locs lsr hR hO hL hl
  subst hl'
  exact lv_istore_n C.1 C.2.1 hd rfl hl hi rfl (fun lsr hl => k p e s m args below meth c C H locs lsr hR hO hL (ab_has1 hl))
theorem aw_istore {i : Nat} {z : Int} {ls' : List (Option ab_V)} (hd : decode Y.2.1 pc = .ok (.istore i, 2)) (hi : i < Y.2.2.1) (hl' : ab_st1 ls i (ab_i z) = ls') (k : aW G Y R Z kc ks h (pc + 2) ls' st) : aW G Y R Z kc ks h pc ls (ab_i z :: st) := by
  intro p e s m args below meth c C H locs lsr hR hO hL hl
  subst hl'
  exact lv_istore C.1 C.2.1 hd hl hi rfl (fun lsr hl => k p e s m args below meth c C H locs lsr hR hO hL (ab_has1 hl))
theorem aw_lstore_n {n : Fin 4} {z : Int} {ls' : List (Option ab_V)} (hd : decode Y.2.1 pc = .ok (.lstore_n n, 1)) (hi : (n : Nat) + 1 < Y.2.2.1) (hl' : ab_st2 ls n (ab_l z) = ls') (k : aW G Y R Z kc ks h (pc + 1) ls' st) : aW G Y R Z kc ks h pc ls (ab_l z :: st) := by
  intro p e s m args below meth c C H locs lsr hR hO hL hl
  subst hl'
  exact lv_lstore_n C.1 C.2.1 hd rfl hl hi rfl (fun lsr hl => k p e s m args below meth c C H locs lsr hR hO hL (ab_has2 hl))
theorem aw_lstore {i : Nat} {z : Int} {ls' : List (Option ab_V)} (hd : decode Y.2.1 pc = .ok (.lstore i, 2)) (hi : i + 1 < Y.2.2.1) (hl' : ab_st2 ls i (ab_l z) = ls') (k : aW G Y R Z kc ks h (pc + 2) ls' st) : aW G Y R Z kc ks h pc ls (ab_l z :: st) := by
  intro p e s m args below meth c C H locs lsr hR hO hL hl
  subst hl'
  exact lv_lstore C.1 C.2.1 hd hl hi rfl (fun lsr hl => k p e s m args below meth c C H locs lsr hR hO hL (ab_has2 hl))
theorem aw_astore_n {n : Fin 4} {r : Nat} {ls' : List (Option ab_V)} (hd : decode Y.2.1 pc = .ok (.astore_n n, 1)) (hi : (n : Nat) < Y.2.2.1) (h0 : ¬ r = 0) (hl' : ab_st1 ls (n : Nat) (ab_r r) = ls') (k : aW G Y R Z kc ks h (pc + 1) ls' st) : aW G Y R Z kc ks h pc ls (ab_r r :: st) := by
  intro p e s m args below meth c C H locs lsr hR hO hL hl
  subst hl'
  rw [List.map_cons, aw_rv h0]
  refine lv_astore_n C.1 C.2.1 hd rfl hl hi rfl (fun lsr hl => k p e s m args below meth c C H locs lsr hR hO hL (ab_has1 ?_))
  rw [aw_rv h0]
  exact hl
theorem aw_astore {i : Nat} {r : Nat} {ls' : List (Option ab_V)} (hd : decode Y.2.1 pc = .ok (.astore i, 2)) (hi : i < Y.2.2.1) (h0 : ¬ r = 0) (hl' : ab_st1 ls i (ab_r r) = ls') (k : aW G Y R Z kc ks h (pc + 2) ls' st) : aW G Y R Z kc ks h pc ls (ab_r r :: st) := by
  intro p e s m args below meth c C H locs lsr hR hO hL hl
  subst hl'
  rw [List.map_cons, aw_rv h0]
  refine lv_astore C.1 C.2.1 hd hl hi rfl (fun lsr hl => k p e s m args below meth c C H locs lsr hR hO hL (ab_has1 ?_))
  rw [aw_rv h0]
  exact hl
theorem aw_iinc {i : Nat} {n z : Int} {ls' : List (Option ab_V)} (hd : decode Y.2.1 pc = .ok (.iinc i n, 3)) (hi : i < Y.2.2.1) (hz : ls[i]? = some (some (ab_i z))) (hl' : ab_st1 ls i (ab_i (z + n)) = ls') (k : aW G Y R Z kc ks h (pc + 3) ls' st) : aW G Y R Z kc ks h pc ls st := by
  intro p e s m args below meth c C H locs lsr hR hO hL hl
  subst hl'
  obtain ⟨k9, hk9⟩ := List.getElem?_of_mem (ab_lo_at (G := G) (k := 0) hz)
  rw [Nat.zero_add] at hk9
  exact lv_iinc C.1 C.2.1 hd hl hk9 (v := Int32.ofInt (z + n)) (Int32.ofInt_add z n).symm hi rfl (fun lsr hl => k p e s m args below meth c C H locs lsr hR hO hL (ab_has1 hl))
theorem aw_if_eq {x off : Int} {tgt : Nat} (hd : decode Y.2.1 pc = .ok (.ifCond .eq off, 3)) (ht : (pc : Int) + off = (tgt : Int)) (hx : ab_In x) (kt : x = 0 → aW G Y R Z kc ks h tgt ls st) (kf : ¬ x = 0 → aW G Y R Z kc ks h (pc + 3) ls st) : aW G Y R Z kc ks h pc ls (ab_i x :: st) := by
  intro p e s m args below meth c C H locs lsr hR hO hL hl
  exact lv_if_eq C.1 C.2.1 hd ht (fun c9 => kt ((ab_eqi hx ab_in0).mp c9) p e s m args below meth c C H locs lsr hR hO hL hl) (fun c9 => kf (fun e9 => c9 ((ab_eqi hx ab_in0).mpr e9)) p e s m args below meth c C H locs lsr hR hO hL hl)
theorem aw_if_ne {x off : Int} {tgt : Nat} (hd : decode Y.2.1 pc = .ok (.ifCond .ne off, 3)) (ht : (pc : Int) + off = (tgt : Int)) (hx : ab_In x) (kt : ¬ x = 0 → aW G Y R Z kc ks h tgt ls st) (kf : x = 0 → aW G Y R Z kc ks h (pc + 3) ls st) : aW G Y R Z kc ks h pc ls (ab_i x :: st) := by
  intro p e s m args below meth c C H locs lsr hR hO hL hl
  exact lv_if_ne C.1 C.2.1 hd ht (fun c9 => kt (fun e9 => c9 ((ab_eqi hx ab_in0).mpr e9)) p e s m args below meth c C H locs lsr hR hO hL hl) (fun c9 => kf ((ab_eqi hx ab_in0).mp c9) p e s m args below meth c C H locs lsr hR hO hL hl)
theorem aw_if_lt {x off : Int} {tgt : Nat} (hd : decode Y.2.1 pc = .ok (.ifCond .lt off, 3)) (ht : (pc : Int) + off = (tgt : Int)) (hx : ab_In x) (kt : x < 0 → aW G Y R Z kc ks h tgt ls st) (kf : ¬ x < 0 → aW G Y R Z kc ks h (pc + 3) ls st) : aW G Y R Z kc ks h pc ls (ab_i x :: st) := by
  intro p e s m args below meth c C H locs lsr hR hO hL hl
  exact lv_if_lt C.1 C.2.1 hd ht (fun c9 => kt ((ab_lti hx ab_in0).mp c9) p e s m args below meth c C H locs lsr hR hO hL hl) (fun c9 => kf (fun e9 => c9 ((ab_lti hx ab_in0).mpr e9)) p e s m args below meth c C H locs lsr hR hO hL hl)
theorem aw_if_ge {x off : Int} {tgt : Nat} (hd : decode Y.2.1 pc = .ok (.ifCond .ge off, 3)) (ht : (pc : Int) + off = (tgt : Int)) (hx : ab_In x) (kt : 0 ≤ x → aW G Y R Z kc ks h tgt ls st) (kf : ¬ 0 ≤ x → aW G Y R Z kc ks h (pc + 3) ls st) : aW G Y R Z kc ks h pc ls (ab_i x :: st) := by
  intro p e s m args below meth c C H locs lsr hR hO hL hl
  exact lv_if_ge C.1 C.2.1 hd ht (fun c9 => kt ((ab_lei ab_in0 hx).mp c9) p e s m args below meth c C H locs lsr hR hO hL hl) (fun c9 => kf (fun e9 => c9 ((ab_lei ab_in0 hx).mpr e9)) p e s m args below meth c C H locs lsr hR hO hL hl)
theorem aw_if_gt {x off : Int} {tgt : Nat} (hd : decode Y.2.1 pc = .ok (.ifCond .gt off, 3)) (ht : (pc : Int) + off = (tgt : Int)) (hx : ab_In x) (kt : 0 < x → aW G Y R Z kc ks h tgt ls st) (kf : ¬ 0 < x → aW G Y R Z kc ks h (pc + 3) ls st) : aW G Y R Z kc ks h pc ls (ab_i x :: st) := by
  intro p e s m args below meth c C H locs lsr hR hO hL hl
  exact lv_if_gt C.1 C.2.1 hd ht (fun c9 => kt ((ab_lti ab_in0 hx).mp c9) p e s m args below meth c C H locs lsr hR hO hL hl) (fun c9 => kf (fun e9 => c9 ((ab_lti ab_in0 hx).mpr e9)) p e s m args below meth c C H locs lsr hR hO hL hl)
theorem aw_if_le {x off : Int} {tgt : Nat} (hd : decode Y.2.1 pc = .ok (.ifCond .le off, 3)) (ht : (pc : Int) + off = (tgt : Int)) (hx : ab_In x) (kt : x ≤ 0 → aW G Y R Z kc ks h tgt ls st) (kf : ¬ x ≤ 0 → aW G Y R Z kc ks h (pc + 3) ls st) : aW G Y R Z kc ks h pc ls (ab_i x :: st) := by
  intro p e s m args below meth c C H locs lsr hR hO hL hl
  exact lv_if_le C.1 C.2.1 hd ht (fun c9 => kt ((ab_lei hx ab_in0).mp c9) p e s m args below meth c C H locs lsr hR hO hL hl) (fun c9 => kf (fun e9 => c9 ((ab_lei hx ab_in0).mpr e9)) p e s m args below meth c C H locs lsr hR hO hL hl)
theorem aw_icmp_eq {x y off : Int} {tgt : Nat} (hd : decode Y.2.1 pc = .ok (.if_icmp .eq off, 3)) (ht : (pc : Int) + off = (tgt : Int)) (hx : ab_In x) (hy : ab_In y) (kt : x = y → aW G Y R Z kc ks h tgt ls st) (kf : ¬ x = y → aW G Y R Z kc ks h (pc + 3) ls st) : aW G Y R Z kc ks h pc ls (ab_i y :: ab_i x :: st) := by
  intro p e s m args below meth c C H locs lsr hR hO hL hl
  exact lv_icmp_eq C.1 C.2.1 hd ht (fun c9 => kt ((ab_eqi hx hy).mp c9) p e s m args below meth c C H locs lsr hR hO hL hl) (fun c9 => kf (fun e9 => c9 ((ab_eqi hx hy).mpr e9)) p e s m args below meth c C H locs lsr hR hO hL hl)
theorem aw_icmp_ne {x y off : Int} {tgt : Nat} (hd : decode Y.2.1 pc = .ok (.if_icmp .ne off, 3)) (ht : (pc : Int) + off = (tgt : Int)) (hx : ab_In x) (hy : ab_In y) (kt : ¬ x = y → aW G Y R Z kc ks h tgt ls st) (kf : x = y → aW G Y R Z kc ks h (pc + 3) ls st) : aW G Y R Z kc ks h pc ls (ab_i y :: ab_i x :: st) := by
  intro p e s m args below meth c C H locs lsr hR hO hL hl
  exact lv_icmp_ne C.1 C.2.1 hd ht (fun c9 => kt (fun e9 => c9 ((ab_eqi hx hy).mpr e9)) p e s m args below meth c C H locs lsr hR hO hL hl) (fun c9 => kf ((ab_eqi hx hy).mp c9) p e s m args below meth c C H locs lsr hR hO hL hl)
theorem aw_icmp_lt {x y off : Int} {tgt : Nat} (hd : decode Y.2.1 pc = .ok (.if_icmp .lt off, 3)) (ht : (pc : Int) + off = (tgt : Int)) (hx : ab_In x) (hy : ab_In y) (kt : x < y → aW G Y R Z kc ks h tgt ls st) (kf : ¬ x < y → aW G Y R Z kc ks h (pc + 3) ls st) : aW G Y R Z kc ks h pc ls (ab_i y :: ab_i x :: st) := by
  intro p e s m args below meth c C H locs lsr hR hO hL hl
  exact lv_icmp_lt C.1 C.2.1 hd ht (fun c9 => kt ((ab_lti hx hy).mp c9) p e s m args below meth c C H locs lsr hR hO hL hl) (fun c9 => kf (fun e9 => c9 ((ab_lti hx hy).mpr e9)) p e s m args below meth c C H locs lsr hR hO hL hl)
theorem aw_icmp_ge {x y off : Int} {tgt : Nat} (hd : decode Y.2.1 pc = .ok (.if_icmp .ge off, 3)) (ht : (pc : Int) + off = (tgt : Int)) (hx : ab_In x) (hy : ab_In y) (kt : y ≤ x → aW G Y R Z kc ks h tgt ls st) (kf : ¬ y ≤ x → aW G Y R Z kc ks h (pc + 3) ls st) : aW G Y R Z kc ks h pc ls (ab_i y :: ab_i x :: st) := by
  intro p e s m args below meth c C H locs lsr hR hO hL hl
  exact lv_icmp_ge C.1 C.2.1 hd ht (fun c9 => kt ((ab_lei hy hx).mp c9) p e s m args below meth c C H locs lsr hR hO hL hl) (fun c9 => kf (fun e9 => c9 ((ab_lei hy hx).mpr e9)) p e s m args below meth c C H locs lsr hR hO hL hl)
theorem aw_icmp_gt {x y off : Int} {tgt : Nat} (hd : decode Y.2.1 pc = .ok (.if_icmp .gt off, 3)) (ht : (pc : Int) + off = (tgt : Int)) (hx : ab_In x) (hy : ab_In y) (kt : y < x → aW G Y R Z kc ks h tgt ls st) (kf : ¬ y < x → aW G Y R Z kc ks h (pc + 3) ls st) : aW G Y R Z kc ks h pc ls (ab_i y :: ab_i x :: st) := by
  intro p e s m args below meth c C H locs lsr hR hO hL hl
  exact lv_icmp_gt C.1 C.2.1 hd ht (fun c9 => kt ((ab_lti hy hx).mp c9) p e s m args below meth c C H locs lsr hR hO hL hl) (fun c9 => kf (fun e9 => c9 ((ab_lti hy hx).mpr e9)) p e s m args below meth c C H locs lsr hR hO hL hl)
theorem aw_icmp_le {x y off : Int} {tgt : Nat} (hd : decode Y.2.1 pc = .ok (.if_icmp .le off, 3)) (ht : (pc : Int) + off = (tgt : Int)) (hx : ab_In x) (hy : ab_In y) (kt : x ≤ y → aW G Y R Z kc ks h tgt ls st) (kf : ¬ x ≤ y → aW G Y R Z kc ks h (pc + 3) ls st) : aW G Y R Z kc ks h pc ls (ab_i y :: ab_i x :: st) := by
  intro p e s m args below meth c C H locs lsr hR hO hL hl
  exact lv_icmp_le C.1 C.2.1 hd ht (fun c9 => kt ((ab_lei hx hy).mp c9) p e s m args below meth c C H locs lsr hR hO hL hl) (fun c9 => kf (fun e9 => c9 ((ab_lei hx hy).mpr e9)) p e s m args below meth c C H locs lsr hR hO hL hl)
theorem aw_goto {off : Int} {tgt : Nat} (hd : decode Y.2.1 pc = .ok (.goto off, 3)) (ht : (pc : Int) + off = (tgt : Int)) (k : aW G Y R Z kc ks h tgt ls st) : aW G Y R Z kc ks h pc ls st := by
  intro p e s m args below meth c C H locs lsr hR hO hL hl
  exact lv_goto C.1 C.2.1 hd ht (k p e s m args below meth c C H locs lsr hR hO hL hl)
theorem aw_tabOut {dflt lo hi x : Int} {offs : Array Int} {len tgt : Nat} (hd : decode Y.2.1 pc = .ok (.tableswitch dflt lo hi offs, len)) (hx : ab_In x) (hq : x < lo ∨ hi < x) (ht : (pc : Int) + dflt = (tgt : Int)) (k : aW G Y R Z kc ks h tgt ls st) : aW G Y R Z kc ks h pc ls (ab_i x :: st) := by
  intro p e s m args below meth c C H locs lsr hR hO hL hl
  exact lv_tableOut C.1 C.2.1 hd (by rw [ab_to hx]; exact hq) ht (k p e s m args below meth c C H locs lsr hR hO hL hl)
theorem aw_tabIn {dflt lo hi x : Int} {offs : Array Int} {len tgt : Nat} {off : Int} (hd : decode Y.2.1 pc = .ok (.tableswitch dflt lo hi offs, len)) (hx : ab_In x) (h1 : ¬ x < lo) (h2 : ¬ hi < x) (ho : offs[(x - lo).toNat]? = some off) (ht : (pc : Int) + off = (tgt : Int)) (k : aW G Y R Z kc ks h tgt ls st) : aW G Y R Z kc ks h pc ls (ab_i x :: st) := by
  intro p e s m args below meth c C H locs lsr hR hO hL hl
  exact lv_tableIn C.1 C.2.1 hd (by rw [ab_to hx]; exact h1) (by rw [ab_to hx]; exact h2) (by rw [ab_to hx]; exact ho) ht (k p e s m args below meth c C H locs lsr hR hO hL hl)
theorem aw_look {dflt x : Int} {ps : Array (Int × Int)} {len tgt : Nat} {off : Int} (hd : decode Y.2.1 pc = .ok (.lookupswitch dflt ps, len)) (hp : (ps.toList.zip (ps.toList.drop 1)).all (fun (a, next) => a.1 < next.1) = true) (hx : ab_In x) (ho : Op.lookupswitch.offset ps.toList dflt x = off) (ht : (pc : Int) + off = (tgt : Int)) (k : aW G Y R Z kc ks h tgt ls st) : aW G Y R Z kc ks h pc ls (ab_i x :: st) := by
  intro p e s m args below meth c C H locs lsr hR hO hL hl
  exact lv_lookup C.1 C.2.1 hd hp (by rw [ab_to hx]; exact ho) ht (k p e s m args below meth c C H locs lsr hR hO hL hl)
theorem aw_le {ls' : List (Option ab_V)} (hle : ab_le ls' ls) (k : aW G Y R Z kc ks h pc ls' st) : aW G Y R Z kc ks h pc ls st := by
  intro p e s m args below meth c C H locs lsr hR hO hL hl
  exact k p e s m args below meth c C H locs lsr hR hO hL (ab_has_le hl hle)
theorem aw_widen {kc' ks' : Nat} (h1 : kc ≤ kc') (h2 : ks ≤ ks') (k : aW G Y R Z kc' ks' h pc ls st) : aW G Y R Z kc ks h pc ls st := by
  intro p e s m args below meth c C H locs lsr hR hO hL hl
  exact W.widen h1 h2 (k p e s m args below meth c C H locs lsr hR hO hL hl)
end AR
