def R_law : String := "ThreeOffersLaw"
def lw_P (b : Addr) (xs : List Int32) (args : Array Value) (s : State) : Prop := args = #[.ref b] ∧ s.IntsAt b xs ∧ xs.length ≤ 3072 ∧ (Jvm.Cond.and given_1 narrow_1).before args s = true
def lw_Q (_ : Array Value) (s : State) (o : Outcome) (t : State) : Prop := o = .returned (some (.int 1)) ∧ Framed s o t [] 600000 7302250
def lw_Z (below : List Frame) (a : Array Value) (s : State) : State → Prop := fun t => ∃ o, t.status = .running ∧ Ended t below o ∧ lw_Q a s o t
/-- the law's own end, with 1 on the stack, nothing written that was there before, its room as the claim has it -/
theorem lw_ret {p : Program} {l : Launch} {e : Env} {s : State} {m : MethodId} {below : List Frame} {meth : Method} {c : Code} {b : Nat} (hx : p.tables.exec = Jvm.exec) (hb : c.code = code) (hr : meth.sig.returnType = ret) (hlocks : meth.locks = false) {pc : Nat} {H : Heap} {ls : Array Slot} (hdg : decode code pc = .ok (.ireturn, 1)) : W p l e room_1 s m #[Value.ref b] below meth c H [] 600000 7302250 (lw_Z below #[Value.ref b] s) (F0 m pc ls [.int 1]) := by
  intro T hT X
  obtain ⟨fs, hret, hrun, hended, hW, hframe⟩ := X.leave (v := some (.int 1)) (hlocks := hlocks) (fun h => by rw [hr] at h; cases h)
  have hmeth' : T.vm.method? m = some meth := X.method'
  refine ⟨T.setFrames fs, ?_, .returned (some (.int 1)), hrun, hended, rfl, ⟨_, rfl⟩, hW, hframe⟩
  jvm_step X.here [X.here.top, hx, hb, hdg, hmeth', hr, ret, narrow_b1]
  (try refine ⟨rfl, ?_⟩); (try refine ⟨rfl, ?_⟩)
  first | (intro acts; rw [hret _ acts rfl rfl rfl]) | rw [hret _ _ rfl rfl rfl]
  exact Steps.refl _
/-- what holds at the law's entry: the machine, the code, the tables' words (any of lw_tbl by 'hts w (by decide +kernel)'), the script of L ints xs at the cell b, what the Statement gives of the start (any of its parts by flat_of_before) -/
def lw_At (p : Program) (s : State) (m : MethodId) (meth : Method) (c : Code) (b L : Nat) (xs : Nat → Int32) : Prop :=
  p.tables.exec = Jvm.exec ∧ c.code = code ∧ meth.sig.returnType = ret ∧ c.maxLocals = 4 ∧ s.vm.findClass R_law = some m.cls ∧ (∀ w ∈ lw_tbl, w.before #[Value.ref b] s = true) ∧ va_X b L xs s s.heap ∧ b < s.heap.size ∧ meth.locks = false ∧ (Jvm.Cond.and given_1 narrow_1).before #[Value.ref b] s = true ∧ meth.name = x.name

theorem ab_inx (v : Int32) : ab_In v.toInt := ⟨Int32.le_toInt v, Int32.toInt_lt v⟩
theorem lcmp_same (x : Int) : ab_lcmp x x = 0 := by
  unfold ab_lcmp lg_cmp
  rw [if_neg (by simp), if_pos rfl]; rfl
theorem aw_same {G : ab_G} {Y : ab_Y} {R : Room} {Z : ab_Zt} {kc ks : Nat} {h : ab_H} {pc : Nat} {ls : List (Option ab_V)} {st : List ab_V} {z off : Int} {tgt : Nat} (hd : decode Y.2.1 pc = .ok (.if_icmp .eq off, 3)) (ht : (pc : Int) + off = (tgt : Int)) (kt : aW G Y R Z kc ks h tgt ls st) : aW G Y R Z kc ks h pc ls (ab_i z :: ab_i z :: st) := by
  intro p e s m args below meth c C H locs lsr hR hO hL hl
  exact lv_icmp_eq C.1 C.2.1 hd ht (fun _ => kt p e s m args below meth c C H locs lsr hR hO hL hl) (fun c9 => absurd rfl c9)
def lwZ (G : ab_G) (b : Nat) : ab_Zt := fun below args s t => (args = #[Value.ref b] ∧ s.heap.size = ab_B G + 1) → lw_Z below #[Value.ref b] s t
theorem aw_lawEnd (G : ab_G) (b : Nat) {kc ks : Nat} (h1 : kc ≤ 600000) (h2 : ks ≤ 7302250) (h : ab_H) (ls : List (Option ab_V)) : aW G YL_law room_1 (lwZ G b) kc ks h 938 ls [ab_i 1] := by
  intro p e s m args below meth c C H locs lsr hR hO hL hl
  by_cases hb : args = #[Value.ref b] ∧ s.heap.size = ab_B G + 1
  · obtain ⟨hb1, hb2⟩ := hb
    subst hb1
    refine va_forget (fun q hq => by have := hL q hq; omega) (W.widen h1 h2 ?_)
    intro T hT X
    obtain ⟨t, a1, a2⟩ := lw_ret (b := b) C.1 C.2.1 C.2.2.1 C.2.2.2.2.2.2.1 (H := H) (ls := lsr) dL_law_938 T hT X
    exact ⟨t, a1, fun _ => a2⟩
  · intro T hT X
    exact ⟨_, Steps.refl _, fun h9 => absurd h9 hb⟩
set_option maxHeartbeats 4000000 in
set_option maxRecDepth 100000 in
theorem law_loop (G : ab_G) (b : Nat) (hL9 : ab_L G ≤ 3072) : ∀ (d c : Nat) (I : Nat → Nat → Int) (F : Nat → Nat → Nat), c + d = 512 → INV c I F → aW G YL_law room_1 (lwZ G b) 104 8831 (104, I, F) 18 [some (ab_r 1002), some (ab_r 1), some (ab_r 84), some (ab_i (6 * (c : Int)))] [] := by
  intro d
  induction d with
  | zero =>
    intro c I F hc hI
    refine aw_iload_n dL_law_18 rfl ?_
    refine aw_aload_n dL_law_19 rfl (by decide) ?_
    refine aw_lsc dL_law_20 ?_
    refine aw_bipush dL_law_21 rfl ?_
    refine aw_isub dL_law_23 ?_
    refine aw_icmp_gt (tgt := 937) dL_law_24 rfl (by first | assumption | (unfold ab_In at *; omega)) (by first | assumption | (unfold ab_In at *; omega)) (fun c_24 => ?_) (fun c_24 => ?_)
    · refine aw_iconst dL_law_937 ?_
      exact aw_lawEnd G b (Nat.le_of_ble_eq_true rfl) (Nat.le_of_ble_eq_true rfl) _ _
    · exfalso; omega
  | succ d ih =>
    intro c I F hc hI
    have nxt : ∀ (I2 : Nat → Nat → Int) (F2 : Nat → Nat → Nat), INV (c + 1) I2 F2 → aW G YL_law room_1 (lwZ G b) 104 8831 (104, I2, F2) 931 [some (ab_r 1002), some (ab_r 1), some (ab_r 84), some (ab_i (6 * (c : Int)))] [] := by
      intro I2 F2 hI2
      refine aw_iinc (ls' := [some (ab_r 1002), some (ab_r 1), some (ab_r 84), some (ab_i (6 * (c : Int) + 6))]) dL_law_931 (by decide) rfl rfl ?_
      refine aw_goto (tgt := 18) dL_law_934 rfl ?_
      have h9 := ih (c + 1) I2 F2 (by omega) hI2
      rw [show 6 * ((c + 1 : Nat) : Int) = 6 * (c : Int) + 6 by omega] at h9
      exact h9
    refine aw_iload_n dL_law_18 rfl ?_
    refine aw_aload_n dL_law_19 rfl (by decide) ?_
    refine aw_lsc dL_law_20 ?_
    refine aw_bipush dL_law_21 rfl ?_
    refine aw_isub dL_law_23 ?_
    refine aw_icmp_gt (tgt := 937) dL_law_24 rfl (by first | assumption | (unfold ab_In at *; omega)) (by first | assumption | (unfold ab_In at *; omega)) (fun c_24 => ?_) (fun c_24 => ?_)
    · refine aw_iconst dL_law_937 ?_
      exact aw_lawEnd G b (Nat.le_of_ble_eq_true rfl) (Nat.le_of_ble_eq_true rfl) _ _
    · refine aw_aload_n dL_law_27 rfl (by decide) ?_
      refine aw_iload_n dL_law_28 rfl ?_
      refine aw_isc dL_law_29 (by omega) (by omega) (by omega) ?_
      refine aw_bipush dL_law_30 rfl ?_
      refine aw_iand dL_law_32 ?_
      refine aw_nm_i (fun op9 e_op9 => ?_)
      rcases (show op9 = 0 ∨ op9 = 1 ∨ op9 = 2 ∨ op9 = 3 ∨ op9 = 4 ∨ op9 = 5 ∨ op9 = 6 ∨ op9 = 7 ∨ op9 = 8 ∨ op9 = 9 ∨ op9 = 10 ∨ op9 = 11 ∨ op9 = 12 ∨ op9 = 13 ∨ op9 = 14 ∨ op9 = 15 ∨ op9 = 16 ∨ op9 = 17 ∨ op9 = 18 ∨ op9 = 19 ∨ op9 = 20 ∨ op9 = 21 ∨ op9 = 22 ∨ op9 = 23 ∨ op9 = 24 ∨ op9 = 25 ∨ (op9 < 0 ∨ 25 < op9) by omega) with c_33 | c_33 | c_33 | c_33 | c_33 | c_33 | c_33 | c_33 | c_33 | c_33 | c_33 | c_33 | c_33 | c_33 | c_33 | c_33 | c_33 | c_33 | c_33 | c_33 | c_33 | c_33 | c_33 | c_33 | c_33 | c_33 | c_33
      · refine aw_tabIn (off := 119) (tgt := 152) dL_law_33 (by rw [e_op9]; exact ab_inx _) (by omega) (by omega) (by rw [c_33]; rfl) rfl ?_
        refine aw_aload_n dL_law_152 rfl (by decide) ?_
        refine aw_aload_n dL_law_153 rfl (by decide) ?_
        refine aw_iload_n dL_law_154 rfl ?_
        refine aw_iconst dL_law_155 ?_
        refine aw_iadd dL_law_156 ?_
        refine aw_isc dL_law_157 (by omega) (by omega) (by omega) ?_
        refine aw_aload_n dL_law_158 rfl (by decide) ?_
        refine aw_iload_n dL_law_159 rfl ?_
        refine aw_iconst dL_law_160 ?_
        refine aw_iadd dL_law_161 ?_
        refine aw_isc dL_law_162 (by omega) (by omega) (by omega) ?_
        refine aw_aload_n dL_law_163 rfl (by decide) ?_
        refine aw_iload_n dL_law_164 rfl ?_
        refine aw_iconst dL_law_165 ?_
        refine aw_iadd dL_law_166 ?_
        refine aw_isc dL_law_167 (by omega) (by omega) (by omega) ?_
        refine aw_callV (as := [ab_i ((ab_xs G ((6 * (c : Int)) + 1).toNat).toInt), ab_i ((ab_xs G ((6 * (c : Int)) + 2).toNat).toInt), ab_i ((ab_xs G ((6 * (c : Int)) + 3).toNat).toInt)]) (rest := []) dL_law_168 (pr_worth G _ _ c hI (by omega) _ (ab_inx _) _ (ab_inx _) _ (ab_inx _)) ⟨Nat.le_of_ble_eq_true rfl, Nat.le_of_ble_eq_true rfl⟩ rfl kc11 rfl kX11_worth iX11_worth eX11_worth lL_13 rfl (Nat.le_of_ble_eq_true rfl) (Nat.le_of_ble_eq_true rfl) (Nat.le_of_ble_eq_true rfl) (Nat.le_of_ble_eq_true rfl) (Nat.le_of_ble_eq_true rfl) ?_
        rintro _ _ ⟨r, I1, F1, rfl, rfl, hM⟩
        refine aw_aload_n dL_law_171 rfl (by decide) ?_
        refine aw_aload_n dL_law_172 rfl (by decide) ?_
        refine aw_iload_n dL_law_173 rfl ?_
        refine aw_iconst dL_law_174 ?_
        refine aw_iadd dL_law_175 ?_
        refine aw_isc dL_law_176 (by omega) (by omega) (by omega) ?_
        refine aw_aload_n dL_law_177 rfl (by decide) ?_
        refine aw_iload_n dL_law_178 rfl ?_
        refine aw_iconst dL_law_179 ?_
        refine aw_iadd dL_law_180 ?_
        refine aw_isc dL_law_181 (by omega) (by omega) (by omega) ?_
        refine aw_aload_n dL_law_182 rfl (by decide) ?_
        refine aw_iload_n dL_law_183 rfl ?_
        refine aw_iconst dL_law_184 ?_
        refine aw_iadd dL_law_185 ?_
        refine aw_isc dL_law_186 (by omega) (by omega) (by omega) ?_
        refine aw_callV (as := [ab_i ((ab_xs G ((6 * (c : Int)) + 1).toNat).toInt), ab_i ((ab_xs G ((6 * (c : Int)) + 2).toNat).toInt), ab_i ((ab_xs G ((6 * (c : Int)) + 3).toNat).toInt)]) (rest := [ab_i r]) dL_law_187 hM ⟨Nat.le_of_ble_eq_true rfl, Nat.le_of_ble_eq_true rfl⟩ rfl kc12 rfl kX12_worth iX12_worth eX12_worth lL_17 rfl (Nat.le_of_ble_eq_true rfl) (Nat.le_of_ble_eq_true rfl) (Nat.le_of_ble_eq_true rfl) (Nat.le_of_ble_eq_true rfl) (Nat.le_of_ble_eq_true rfl) ?_
        rintro _ _ ⟨rfl, I2, F2, rfl, hI2⟩
        refine aw_same (tgt := 931) dL_law_190 rfl ?_
        exact nxt _ _ hI2
      · refine aw_tabIn (off := 162) (tgt := 195) dL_law_33 (by rw [e_op9]; exact ab_inx _) (by omega) (by omega) (by rw [c_33]; rfl) rfl ?_
        refine aw_aload_n dL_law_195 rfl (by decide) ?_
        refine aw_aload_n dL_law_196 rfl (by decide) ?_
        refine aw_iload_n dL_law_197 rfl ?_
        refine aw_iconst dL_law_198 ?_
        refine aw_iadd dL_law_199 ?_
        refine aw_isc dL_law_200 (by omega) (by omega) (by omega) ?_
        refine aw_aload_n dL_law_201 rfl (by decide) ?_
        refine aw_iload_n dL_law_202 rfl ?_
        refine aw_iconst dL_law_203 ?_
        refine aw_iadd dL_law_204 ?_
        refine aw_isc dL_law_205 (by omega) (by omega) (by omega) ?_
        refine aw_callV (as := [ab_i ((ab_xs G ((6 * (c : Int)) + 1).toNat).toInt), ab_i ((ab_xs G ((6 * (c : Int)) + 2).toNat).toInt)]) (rest := []) dL_law_206 (pr_need G _ _ c hI (by omega) _ (ab_inx _) _ (ab_inx _)) ⟨Nat.le_of_ble_eq_true rfl, Nat.le_of_ble_eq_true rfl⟩ rfl kc11 rfl kX11_need iX11_need eX11_need lL_18 rfl (Nat.le_of_ble_eq_true rfl) (Nat.le_of_ble_eq_true rfl) (Nat.le_of_ble_eq_true rfl) (Nat.le_of_ble_eq_true rfl) (Nat.le_of_ble_eq_true rfl) ?_
        rintro _ _ ⟨r, I1, F1, rfl, rfl, hM⟩
        refine aw_aload_n dL_law_209 rfl (by decide) ?_
        refine aw_aload_n dL_law_210 rfl (by decide) ?_
        refine aw_iload_n dL_law_211 rfl ?_
        refine aw_iconst dL_law_212 ?_
        refine aw_iadd dL_law_213 ?_
        refine aw_isc dL_law_214 (by omega) (by omega) (by omega) ?_
        refine aw_aload_n dL_law_215 rfl (by decide) ?_
        refine aw_iload_n dL_law_216 rfl ?_
        refine aw_iconst dL_law_217 ?_
        refine aw_iadd dL_law_218 ?_
        refine aw_isc dL_law_219 (by omega) (by omega) (by omega) ?_
        refine aw_callV (as := [ab_i ((ab_xs G ((6 * (c : Int)) + 1).toNat).toInt), ab_i ((ab_xs G ((6 * (c : Int)) + 2).toNat).toInt)]) (rest := [ab_i r]) dL_law_220 hM ⟨Nat.le_of_ble_eq_true rfl, Nat.le_of_ble_eq_true rfl⟩ rfl kc12 rfl kX12_need iX12_need eX12_need lL_22 rfl (Nat.le_of_ble_eq_true rfl) (Nat.le_of_ble_eq_true rfl) (Nat.le_of_ble_eq_true rfl) (Nat.le_of_ble_eq_true rfl) (Nat.le_of_ble_eq_true rfl) ?_
        rintro _ _ ⟨rfl, I2, F2, rfl, hI2⟩
        refine aw_same (tgt := 931) dL_law_223 rfl ?_
        exact nxt _ _ hI2
      · refine aw_tabIn (off := 195) (tgt := 228) dL_law_33 (by rw [e_op9]; exact ab_inx _) (by omega) (by omega) (by rw [c_33]; rfl) rfl ?_
        refine aw_aload_n dL_law_228 rfl (by decide) ?_
        refine aw_aload_n dL_law_229 rfl (by decide) ?_
        refine aw_iload_n dL_law_230 rfl ?_
        refine aw_iconst dL_law_231 ?_
        refine aw_iadd dL_law_232 ?_
        refine aw_isc dL_law_233 (by omega) (by omega) (by omega) ?_
        refine aw_callV (as := [ab_i ((ab_xs G ((6 * (c : Int)) + 1).toNat).toInt)]) (rest := []) dL_law_234 (pr_coming G _ _ c hI (by omega) _ (ab_inx _)) ⟨Nat.le_of_ble_eq_true rfl, Nat.le_of_ble_eq_true rfl⟩ rfl kc11 rfl kX11_coming iX11_coming eX11_coming lL_23 rfl (Nat.le_of_ble_eq_true rfl) (Nat.le_of_ble_eq_true rfl) (Nat.le_of_ble_eq_true rfl) (Nat.le_of_ble_eq_true rfl) (Nat.le_of_ble_eq_true rfl) ?_
        rintro _ _ ⟨r, I1, F1, rfl, rfl, hM⟩
        refine aw_aload_n dL_law_237 rfl (by decide) ?_
        refine aw_aload_n dL_law_238 rfl (by decide) ?_
        refine aw_iload_n dL_law_239 rfl ?_
        refine aw_iconst dL_law_240 ?_
        refine aw_iadd dL_law_241 ?_
        refine aw_isc dL_law_242 (by omega) (by omega) (by omega) ?_
        refine aw_callV (as := [ab_i ((ab_xs G ((6 * (c : Int)) + 1).toNat).toInt)]) (rest := [ab_i r]) dL_law_243 hM ⟨Nat.le_of_ble_eq_true rfl, Nat.le_of_ble_eq_true rfl⟩ rfl kc12 rfl kX12_coming iX12_coming eX12_coming lL_27 rfl (Nat.le_of_ble_eq_true rfl) (Nat.le_of_ble_eq_true rfl) (Nat.le_of_ble_eq_true rfl) (Nat.le_of_ble_eq_true rfl) (Nat.le_of_ble_eq_true rfl) ?_
        rintro _ _ ⟨rfl, I2, F2, rfl, hI2⟩
        refine aw_same (tgt := 931) dL_law_246 rfl ?_
        exact nxt _ _ hI2
      · refine aw_tabIn (off := 218) (tgt := 251) dL_law_33 (by rw [e_op9]; exact ab_inx _) (by omega) (by omega) (by rw [c_33]; rfl) rfl ?_
        refine aw_aload_n dL_law_251 rfl (by decide) ?_
        refine aw_aload_n dL_law_252 rfl (by decide) ?_
        refine aw_iload_n dL_law_253 rfl ?_
        refine aw_iconst dL_law_254 ?_
        refine aw_iadd dL_law_255 ?_
        refine aw_isc dL_law_256 (by omega) (by omega) (by omega) ?_
        refine aw_callV (as := [ab_i ((ab_xs G ((6 * (c : Int)) + 1).toNat).toInt)]) (rest := []) dL_law_257 (pr_joining G _ _ c hI (by omega) _ (ab_inx _)) ⟨Nat.le_of_ble_eq_true rfl, Nat.le_of_ble_eq_true rfl⟩ rfl kc11 rfl kX11_joining iX11_joining eX11_joining lL_28 rfl (Nat.le_of_ble_eq_true rfl) (Nat.le_of_ble_eq_true rfl) (Nat.le_of_ble_eq_true rfl) (Nat.le_of_ble_eq_true rfl) (Nat.le_of_ble_eq_true rfl) ?_
        rintro _ _ ⟨r, I1, F1, rfl, rfl, hM⟩
        refine aw_aload_n dL_law_260 rfl (by decide) ?_
        refine aw_aload_n dL_law_261 rfl (by decide) ?_
        refine aw_iload_n dL_law_262 rfl ?_
        refine aw_iconst dL_law_263 ?_
        refine aw_iadd dL_law_264 ?_
        refine aw_isc dL_law_265 (by omega) (by omega) (by omega) ?_
        refine aw_callV (as := [ab_i ((ab_xs G ((6 * (c : Int)) + 1).toNat).toInt)]) (rest := [ab_i r]) dL_law_266 hM ⟨Nat.le_of_ble_eq_true rfl, Nat.le_of_ble_eq_true rfl⟩ rfl kc12 rfl kX12_joining iX12_joining eX12_joining lL_31 rfl (Nat.le_of_ble_eq_true rfl) (Nat.le_of_ble_eq_true rfl) (Nat.le_of_ble_eq_true rfl) (Nat.le_of_ble_eq_true rfl) (Nat.le_of_ble_eq_true rfl) ?_
        rintro _ _ ⟨rfl, I2, F2, rfl, hI2⟩
        refine aw_same (tgt := 931) dL_law_269 rfl ?_
        exact nxt _ _ hI2
      · refine aw_tabIn (off := 241) (tgt := 274) dL_law_33 (by rw [e_op9]; exact ab_inx _) (by omega) (by omega) (by rw [c_33]; rfl) rfl ?_
        refine aw_aload_n dL_law_274 rfl (by decide) ?_
        refine aw_aload_n dL_law_275 rfl (by decide) ?_
        refine aw_iload_n dL_law_276 rfl ?_
        refine aw_iconst dL_law_277 ?_
        refine aw_iadd dL_law_278 ?_
        refine aw_isc dL_law_279 (by omega) (by omega) (by omega) ?_
        refine aw_callV (as := [ab_i ((ab_xs G ((6 * (c : Int)) + 1).toNat).toInt)]) (rest := []) dL_law_280 (pr_join G _ _ c hI (by omega) _ (ab_inx _)) ⟨Nat.le_of_ble_eq_true rfl, Nat.le_of_ble_eq_true rfl⟩ rfl kc11 rfl kX11_join iX11_join eX11_join lL_32 rfl (Nat.le_of_ble_eq_true rfl) (Nat.le_of_ble_eq_true rfl) (Nat.le_of_ble_eq_true rfl) (Nat.le_of_ble_eq_true rfl) (Nat.le_of_ble_eq_true rfl) ?_
        rintro _ _ ⟨r, I1, F1, rfl, rfl, hM⟩
        refine aw_aload_n dL_law_283 rfl (by decide) ?_
        refine aw_aload_n dL_law_284 rfl (by decide) ?_
        refine aw_iload_n dL_law_285 rfl ?_
        refine aw_iconst dL_law_286 ?_
        refine aw_iadd dL_law_287 ?_
        refine aw_isc dL_law_288 (by omega) (by omega) (by omega) ?_
        refine aw_callV (as := [ab_i ((ab_xs G ((6 * (c : Int)) + 1).toNat).toInt)]) (rest := [ab_i r]) dL_law_289 hM ⟨Nat.le_of_ble_eq_true rfl, Nat.le_of_ble_eq_true rfl⟩ rfl kc12 rfl kX12_join iX12_join eX12_join lL_35 rfl (Nat.le_of_ble_eq_true rfl) (Nat.le_of_ble_eq_true rfl) (Nat.le_of_ble_eq_true rfl) (Nat.le_of_ble_eq_true rfl) (Nat.le_of_ble_eq_true rfl) ?_
        rintro _ _ ⟨rfl, I2, F2, rfl, hI2⟩
        refine aw_same (tgt := 931) dL_law_292 rfl ?_
        exact nxt _ _ hI2
      · refine aw_tabIn (off := 264) (tgt := 297) dL_law_33 (by rw [e_op9]; exact ab_inx _) (by omega) (by omega) (by rw [c_33]; rfl) rfl ?_
        refine aw_aload_n dL_law_297 rfl (by decide) ?_
        refine aw_aload_n dL_law_298 rfl (by decide) ?_
        refine aw_iload_n dL_law_299 rfl ?_
        refine aw_iconst dL_law_300 ?_
        refine aw_iadd dL_law_301 ?_
        refine aw_isc dL_law_302 (by omega) (by omega) (by omega) ?_
        refine aw_callV (as := [ab_i ((ab_xs G ((6 * (c : Int)) + 1).toNat).toInt)]) (rest := []) dL_law_303 (pr_run G _ _ c hI (by omega) _ (ab_inx _)) ⟨Nat.le_of_ble_eq_true rfl, Nat.le_of_ble_eq_true rfl⟩ rfl kc11 rfl kX11_run iX11_run eX11_run lL_36 rfl (Nat.le_of_ble_eq_true rfl) (Nat.le_of_ble_eq_true rfl) (Nat.le_of_ble_eq_true rfl) (Nat.le_of_ble_eq_true rfl) (Nat.le_of_ble_eq_true rfl) ?_
        rintro _ _ ⟨r, I1, F1, rfl, rfl, hM⟩
        refine aw_aload_n dL_law_306 rfl (by decide) ?_
        refine aw_aload_n dL_law_307 rfl (by decide) ?_
        refine aw_iload_n dL_law_308 rfl ?_
        refine aw_iconst dL_law_309 ?_
        refine aw_iadd dL_law_310 ?_
        refine aw_isc dL_law_311 (by omega) (by omega) (by omega) ?_
        refine aw_callV (as := [ab_i ((ab_xs G ((6 * (c : Int)) + 1).toNat).toInt)]) (rest := [ab_i r]) dL_law_312 hM ⟨Nat.le_of_ble_eq_true rfl, Nat.le_of_ble_eq_true rfl⟩ rfl kc12 rfl kX12_run iX12_run eX12_run lL_39 rfl (Nat.le_of_ble_eq_true rfl) (Nat.le_of_ble_eq_true rfl) (Nat.le_of_ble_eq_true rfl) (Nat.le_of_ble_eq_true rfl) (Nat.le_of_ble_eq_true rfl) ?_
        rintro _ _ ⟨rfl, I2, F2, rfl, hI2⟩
        refine aw_same (tgt := 931) dL_law_315 rfl ?_
        exact nxt _ _ hI2
      · refine aw_tabIn (off := 287) (tgt := 320) dL_law_33 (by rw [e_op9]; exact ab_inx _) (by omega) (by omega) (by rw [c_33]; rfl) rfl ?_
        refine aw_aload_n dL_law_320 rfl (by decide) ?_
        refine aw_aload_n dL_law_321 rfl (by decide) ?_
        refine aw_iload_n dL_law_322 rfl ?_
        refine aw_iconst dL_law_323 ?_
        refine aw_iadd dL_law_324 ?_
        refine aw_isc dL_law_325 (by omega) (by omega) (by omega) ?_
        refine aw_aload_n dL_law_326 rfl (by decide) ?_
        refine aw_iload_n dL_law_327 rfl ?_
        refine aw_iconst dL_law_328 ?_
        refine aw_iadd dL_law_329 ?_
        refine aw_isc dL_law_330 (by omega) (by omega) (by omega) ?_
        refine aw_callV (as := [ab_i ((ab_xs G ((6 * (c : Int)) + 1).toNat).toInt), ab_i ((ab_xs G ((6 * (c : Int)) + 2).toNat).toInt)]) (rest := []) dL_law_331 (pr_person G _ _ c hI (by omega) _ (ab_inx _) _ (ab_inx _)) ⟨Nat.le_of_ble_eq_true rfl, Nat.le_of_ble_eq_true rfl⟩ rfl kc11 rfl kX11_person iX11_person eX11_person lL_40 rfl (Nat.le_of_ble_eq_true rfl) (Nat.le_of_ble_eq_true rfl) (Nat.le_of_ble_eq_true rfl) (Nat.le_of_ble_eq_true rfl) (Nat.le_of_ble_eq_true rfl) ?_
        rintro _ _ ⟨r, I1, F1, rfl, rfl, hM⟩
        refine aw_aload_n dL_law_334 rfl (by decide) ?_
        refine aw_aload_n dL_law_335 rfl (by decide) ?_
        refine aw_iload_n dL_law_336 rfl ?_
        refine aw_iconst dL_law_337 ?_
        refine aw_iadd dL_law_338 ?_
        refine aw_isc dL_law_339 (by omega) (by omega) (by omega) ?_
        refine aw_aload_n dL_law_340 rfl (by decide) ?_
        refine aw_iload_n dL_law_341 rfl ?_
        refine aw_iconst dL_law_342 ?_
        refine aw_iadd dL_law_343 ?_
        refine aw_isc dL_law_344 (by omega) (by omega) (by omega) ?_
        refine aw_callV (as := [ab_i ((ab_xs G ((6 * (c : Int)) + 1).toNat).toInt), ab_i ((ab_xs G ((6 * (c : Int)) + 2).toNat).toInt)]) (rest := [ab_i r]) dL_law_345 hM ⟨Nat.le_of_ble_eq_true rfl, Nat.le_of_ble_eq_true rfl⟩ rfl kc12 rfl kX12_person iX12_person eX12_person lL_43 rfl (Nat.le_of_ble_eq_true rfl) (Nat.le_of_ble_eq_true rfl) (Nat.le_of_ble_eq_true rfl) (Nat.le_of_ble_eq_true rfl) (Nat.le_of_ble_eq_true rfl) ?_
        rintro _ _ ⟨rfl, I2, F2, rfl, hI2⟩
        refine aw_same (tgt := 931) dL_law_348 rfl ?_
        exact nxt _ _ hI2
      · refine aw_tabIn (off := 320) (tgt := 353) dL_law_33 (by rw [e_op9]; exact ab_inx _) (by omega) (by omega) (by rw [c_33]; rfl) rfl ?_
        refine aw_aload_n dL_law_353 rfl (by decide) ?_
        refine aw_aload_n dL_law_354 rfl (by decide) ?_
        refine aw_iload_n dL_law_355 rfl ?_
        refine aw_iconst dL_law_356 ?_
        refine aw_iadd dL_law_357 ?_
        refine aw_isc dL_law_358 (by omega) (by omega) (by omega) ?_
        refine aw_aload_n dL_law_359 rfl (by decide) ?_
        refine aw_iload_n dL_law_360 rfl ?_
        refine aw_iconst dL_law_361 ?_
        refine aw_iadd dL_law_362 ?_
        refine aw_isc dL_law_363 (by omega) (by omega) (by omega) ?_
        refine aw_callV (as := [ab_i ((ab_xs G ((6 * (c : Int)) + 1).toNat).toInt), ab_i ((ab_xs G ((6 * (c : Int)) + 2).toNat).toInt)]) (rest := []) dL_law_364 (pr_of G _ _ c hI (by omega) _ (ab_inx _) _ (ab_inx _)) ⟨Nat.le_of_ble_eq_true rfl, Nat.le_of_ble_eq_true rfl⟩ rfl kc11 rfl kX11_of iX11_of eX11_of lL_44 rfl (Nat.le_of_ble_eq_true rfl) (Nat.le_of_ble_eq_true rfl) (Nat.le_of_ble_eq_true rfl) (Nat.le_of_ble_eq_true rfl) (Nat.le_of_ble_eq_true rfl) ?_
        rintro _ _ ⟨r, I1, F1, rfl, rfl, hM⟩
        refine aw_aload_n dL_law_367 rfl (by decide) ?_
        refine aw_aload_n dL_law_368 rfl (by decide) ?_
        refine aw_iload_n dL_law_369 rfl ?_
        refine aw_iconst dL_law_370 ?_
        refine aw_iadd dL_law_371 ?_
        refine aw_isc dL_law_372 (by omega) (by omega) (by omega) ?_
        refine aw_aload_n dL_law_373 rfl (by decide) ?_
        refine aw_iload_n dL_law_374 rfl ?_
        refine aw_iconst dL_law_375 ?_
        refine aw_iadd dL_law_376 ?_
        refine aw_isc dL_law_377 (by omega) (by omega) (by omega) ?_
        refine aw_callV (as := [ab_i ((ab_xs G ((6 * (c : Int)) + 1).toNat).toInt), ab_i ((ab_xs G ((6 * (c : Int)) + 2).toNat).toInt)]) (rest := [ab_i r]) dL_law_378 hM ⟨Nat.le_of_ble_eq_true rfl, Nat.le_of_ble_eq_true rfl⟩ rfl kc12 rfl kX12_of iX12_of eX12_of lL_47 rfl (Nat.le_of_ble_eq_true rfl) (Nat.le_of_ble_eq_true rfl) (Nat.le_of_ble_eq_true rfl) (Nat.le_of_ble_eq_true rfl) (Nat.le_of_ble_eq_true rfl) ?_
        rintro _ _ ⟨rfl, I2, F2, rfl, hI2⟩
        refine aw_same (tgt := 931) dL_law_381 rfl ?_
        exact nxt _ _ hI2
      · refine aw_tabIn (off := 353) (tgt := 386) dL_law_33 (by rw [e_op9]; exact ab_inx _) (by omega) (by omega) (by rw [c_33]; rfl) rfl ?_
        refine aw_aload_n dL_law_386 rfl (by decide) ?_
        refine aw_callV (as := []) (rest := []) dL_law_387 (pr_empty G _ _ c hI (by omega)) ⟨Nat.le_of_ble_eq_true rfl, Nat.le_of_ble_eq_true rfl⟩ rfl kc11 rfl kX11_empty iX11_empty eX11_empty lL_48 rfl (Nat.le_of_ble_eq_true rfl) (Nat.le_of_ble_eq_true rfl) (Nat.le_of_ble_eq_true rfl) (Nat.le_of_ble_eq_true rfl) (Nat.le_of_ble_eq_true rfl) ?_
        rintro _ _ ⟨r, I1, F1, rfl, rfl, hM⟩
        refine aw_aload_n dL_law_390 rfl (by decide) ?_
        refine aw_callV (as := []) (rest := [ab_i r]) dL_law_391 hM ⟨Nat.le_of_ble_eq_true rfl, Nat.le_of_ble_eq_true rfl⟩ rfl kc12 rfl kX12_empty iX12_empty eX12_empty lL_52 rfl (Nat.le_of_ble_eq_true rfl) (Nat.le_of_ble_eq_true rfl) (Nat.le_of_ble_eq_true rfl) (Nat.le_of_ble_eq_true rfl) (Nat.le_of_ble_eq_true rfl) ?_
        rintro _ _ ⟨rfl, I2, F2, rfl, hI2⟩
        refine aw_same (tgt := 931) dL_law_394 rfl ?_
        exact nxt _ _ hI2
      · refine aw_tabIn (off := 366) (tgt := 399) dL_law_33 (by rw [e_op9]; exact ab_inx _) (by omega) (by omega) (by rw [c_33]; rfl) rfl ?_
        refine aw_aload_n dL_law_399 rfl (by decide) ?_
        refine aw_aload_n dL_law_400 rfl (by decide) ?_
        refine aw_iload_n dL_law_401 rfl ?_
        refine aw_iconst dL_law_402 ?_
        refine aw_iadd dL_law_403 ?_
        refine aw_isc dL_law_404 (by omega) (by omega) (by omega) ?_
        refine aw_i2l dL_law_405 ?_
        refine aw_bipush dL_law_406 rfl ?_
        refine aw_lshl dL_law_408 ?_
        refine aw_aload_n dL_law_409 rfl (by decide) ?_
        refine aw_iload_n dL_law_410 rfl ?_
        refine aw_iconst dL_law_411 ?_
        refine aw_iadd dL_law_412 ?_
        refine aw_isc dL_law_413 (by omega) (by omega) (by omega) ?_
        refine aw_i2l dL_law_414 ?_
        refine aw_ldc2 (z := 4294967295) dL_law_415 nL_53 ?_
        refine aw_land dL_law_418 ?_
        refine aw_lor dL_law_419 ?_
        refine aw_aload_n dL_law_420 rfl (by decide) ?_
        refine aw_iload_n dL_law_421 rfl ?_
        refine aw_iconst dL_law_422 ?_
        refine aw_iadd dL_law_423 ?_
        refine aw_isc dL_law_424 (by omega) (by omega) (by omega) ?_
        refine aw_callV (as := [ab_l (ab_lorL (ab_lshlL (ab_i2l ((ab_xs G ((6 * (c : Int)) + 1).toNat).toInt)) 32) (ab_landL (ab_i2l ((ab_xs G ((6 * (c : Int)) + 2).toNat).toInt)) 4294967295)), ab_i ((ab_xs G ((6 * (c : Int)) + 3).toNat).toInt)]) (rest := []) dL_law_425 (pr_write G _ _ c hI (by omega) _ _ (ab_inx _)) ⟨Nat.le_of_ble_eq_true rfl, Nat.le_of_ble_eq_true rfl⟩ rfl kc11 rfl kX11_write iX11_write eX11_write lL_55 rfl (Nat.le_of_ble_eq_true rfl) (Nat.le_of_ble_eq_true rfl) (Nat.le_of_ble_eq_true rfl) (Nat.le_of_ble_eq_true rfl) (Nat.le_of_ble_eq_true rfl) ?_
        rintro _ _ ⟨r, I1, F1, rfl, rfl, hM⟩
        refine aw_aload_n dL_law_428 rfl (by decide) ?_
        refine aw_aload_n dL_law_429 rfl (by decide) ?_
        refine aw_iload_n dL_law_430 rfl ?_
        refine aw_iconst dL_law_431 ?_
        refine aw_iadd dL_law_432 ?_
        refine aw_isc dL_law_433 (by omega) (by omega) (by omega) ?_
        refine aw_i2l dL_law_434 ?_
        refine aw_bipush dL_law_435 rfl ?_
        refine aw_lshl dL_law_437 ?_
        refine aw_aload_n dL_law_438 rfl (by decide) ?_
        refine aw_iload_n dL_law_439 rfl ?_
        refine aw_iconst dL_law_440 ?_
        refine aw_iadd dL_law_441 ?_
        refine aw_isc dL_law_442 (by omega) (by omega) (by omega) ?_
        refine aw_i2l dL_law_443 ?_
        refine aw_ldc2 (z := 4294967295) dL_law_444 nL_53 ?_
        refine aw_land dL_law_447 ?_
        refine aw_lor dL_law_448 ?_
        refine aw_aload_n dL_law_449 rfl (by decide) ?_
        refine aw_iload_n dL_law_450 rfl ?_
        refine aw_iconst dL_law_451 ?_
        refine aw_iadd dL_law_452 ?_
        refine aw_isc dL_law_453 (by omega) (by omega) (by omega) ?_
        refine aw_callV (as := [ab_l (ab_lorL (ab_lshlL (ab_i2l ((ab_xs G ((6 * (c : Int)) + 1).toNat).toInt)) 32) (ab_landL (ab_i2l ((ab_xs G ((6 * (c : Int)) + 2).toNat).toInt)) 4294967295)), ab_i ((ab_xs G ((6 * (c : Int)) + 3).toNat).toInt)]) (rest := [ab_i r]) dL_law_454 hM ⟨Nat.le_of_ble_eq_true rfl, Nat.le_of_ble_eq_true rfl⟩ rfl kc12 rfl kX12_write iX12_write eX12_write lL_59 rfl (Nat.le_of_ble_eq_true rfl) (Nat.le_of_ble_eq_true rfl) (Nat.le_of_ble_eq_true rfl) (Nat.le_of_ble_eq_true rfl) (Nat.le_of_ble_eq_true rfl) ?_
        rintro _ _ ⟨rfl, I2, F2, rfl, hI2⟩
        refine aw_same (tgt := 931) dL_law_457 rfl ?_
        exact nxt _ _ hI2
      · refine aw_tabIn (off := 429) (tgt := 462) dL_law_33 (by rw [e_op9]; exact ab_inx _) (by omega) (by omega) (by rw [c_33]; rfl) rfl ?_
        refine aw_aload_n dL_law_462 rfl (by decide) ?_
        refine aw_callV (as := []) (rest := []) dL_law_463 (pr_erase G _ _ c hI (by omega)) ⟨Nat.le_of_ble_eq_true rfl, Nat.le_of_ble_eq_true rfl⟩ rfl kc11 rfl kX11_erase iX11_erase eX11_erase lL_60 rfl (Nat.le_of_ble_eq_true rfl) (Nat.le_of_ble_eq_true rfl) (Nat.le_of_ble_eq_true rfl) (Nat.le_of_ble_eq_true rfl) (Nat.le_of_ble_eq_true rfl) ?_
        rintro _ _ ⟨r, I1, F1, rfl, rfl, hM⟩
        refine aw_aload_n dL_law_466 rfl (by decide) ?_
        refine aw_callV (as := []) (rest := [ab_i r]) dL_law_467 hM ⟨Nat.le_of_ble_eq_true rfl, Nat.le_of_ble_eq_true rfl⟩ rfl kc12 rfl kX12_erase iX12_erase eX12_erase lL_63 rfl (Nat.le_of_ble_eq_true rfl) (Nat.le_of_ble_eq_true rfl) (Nat.le_of_ble_eq_true rfl) (Nat.le_of_ble_eq_true rfl) (Nat.le_of_ble_eq_true rfl) ?_
        rintro _ _ ⟨rfl, I2, F2, rfl, hI2⟩
        refine aw_same (tgt := 931) dL_law_470 rfl ?_
        exact nxt _ _ hI2
      · refine aw_tabIn (off := 442) (tgt := 475) dL_law_33 (by rw [e_op9]; exact ab_inx _) (by omega) (by omega) (by rw [c_33]; rfl) rfl ?_
        refine aw_aload_n dL_law_475 rfl (by decide) ?_
        refine aw_callV (as := []) (rest := []) dL_law_476 (pr_fault G _ _ c hI (by omega)) ⟨Nat.le_of_ble_eq_true rfl, Nat.le_of_ble_eq_true rfl⟩ rfl kc11 rfl kX11_fault iX11_fault eX11_fault lL_64 rfl (Nat.le_of_ble_eq_true rfl) (Nat.le_of_ble_eq_true rfl) (Nat.le_of_ble_eq_true rfl) (Nat.le_of_ble_eq_true rfl) (Nat.le_of_ble_eq_true rfl) ?_
        rintro _ _ ⟨r, I1, F1, rfl, rfl, hM⟩
        refine aw_aload_n dL_law_479 rfl (by decide) ?_
        refine aw_callV (as := []) (rest := [ab_i r]) dL_law_480 hM ⟨Nat.le_of_ble_eq_true rfl, Nat.le_of_ble_eq_true rfl⟩ rfl kc12 rfl kX12_fault iX12_fault eX12_fault lL_67 rfl (Nat.le_of_ble_eq_true rfl) (Nat.le_of_ble_eq_true rfl) (Nat.le_of_ble_eq_true rfl) (Nat.le_of_ble_eq_true rfl) (Nat.le_of_ble_eq_true rfl) ?_
        rintro _ _ ⟨rfl, I2, F2, rfl, hI2⟩
        refine aw_same (tgt := 931) dL_law_483 rfl ?_
        exact nxt _ _ hI2
      · refine aw_tabIn (off := 455) (tgt := 488) dL_law_33 (by rw [e_op9]; exact ab_inx _) (by omega) (by omega) (by rw [c_33]; rfl) rfl ?_
        refine aw_aload_n dL_law_488 rfl (by decide) ?_
        refine aw_callV (as := []) (rest := []) dL_law_489 (pr_rules G _ _ c hI (by omega)) ⟨Nat.le_of_ble_eq_true rfl, Nat.le_of_ble_eq_true rfl⟩ rfl kc11 rfl kX11_rules iX11_rules eX11_rules lL_68 rfl (Nat.le_of_ble_eq_true rfl) (Nat.le_of_ble_eq_true rfl) (Nat.le_of_ble_eq_true rfl) (Nat.le_of_ble_eq_true rfl) (Nat.le_of_ble_eq_true rfl) ?_
        rintro _ _ ⟨r, I1, F1, rfl, rfl, hM⟩
        refine aw_aload_n dL_law_492 rfl (by decide) ?_
        refine aw_callV (as := []) (rest := [ab_i r]) dL_law_493 hM ⟨Nat.le_of_ble_eq_true rfl, Nat.le_of_ble_eq_true rfl⟩ rfl kc12 rfl kX12_rules iX12_rules eX12_rules lL_71 rfl (Nat.le_of_ble_eq_true rfl) (Nat.le_of_ble_eq_true rfl) (Nat.le_of_ble_eq_true rfl) (Nat.le_of_ble_eq_true rfl) (Nat.le_of_ble_eq_true rfl) ?_
        rintro _ _ ⟨rfl, I2, F2, rfl, hI2⟩
        refine aw_same (tgt := 931) dL_law_496 rfl ?_
        exact nxt _ _ hI2
      · refine aw_tabIn (off := 468) (tgt := 501) dL_law_33 (by rw [e_op9]; exact ab_inx _) (by omega) (by omega) (by rw [c_33]; rfl) rfl ?_
        refine aw_aload_n dL_law_501 rfl (by decide) ?_
        refine aw_aload_n dL_law_502 rfl (by decide) ?_
        refine aw_iload_n dL_law_503 rfl ?_
        refine aw_iconst dL_law_504 ?_
        refine aw_iadd dL_law_505 ?_
        refine aw_isc dL_law_506 (by omega) (by omega) (by omega) ?_
        refine aw_callV (as := [ab_i ((ab_xs G ((6 * (c : Int)) + 1).toNat).toInt)]) (rest := []) dL_law_507 (pr_rule G _ _ c hI (by omega) _ (ab_inx _)) ⟨Nat.le_of_ble_eq_true rfl, Nat.le_of_ble_eq_true rfl⟩ rfl kc11 rfl kX11_rule iX11_rule eX11_rule lL_72 rfl (Nat.le_of_ble_eq_true rfl) (Nat.le_of_ble_eq_true rfl) (Nat.le_of_ble_eq_true rfl) (Nat.le_of_ble_eq_true rfl) (Nat.le_of_ble_eq_true rfl) ?_
        rintro _ _ ⟨r, I1, F1, rfl, rfl, hM⟩
        refine aw_aload_n dL_law_510 rfl (by decide) ?_
        refine aw_aload_n dL_law_511 rfl (by decide) ?_
        refine aw_iload_n dL_law_512 rfl ?_
        refine aw_iconst dL_law_513 ?_
        refine aw_iadd dL_law_514 ?_
        refine aw_isc dL_law_515 (by omega) (by omega) (by omega) ?_
        refine aw_callV (as := [ab_i ((ab_xs G ((6 * (c : Int)) + 1).toNat).toInt)]) (rest := [ab_i r]) dL_law_516 hM ⟨Nat.le_of_ble_eq_true rfl, Nat.le_of_ble_eq_true rfl⟩ rfl kc12 rfl kX12_rule iX12_rule eX12_rule lL_75 rfl (Nat.le_of_ble_eq_true rfl) (Nat.le_of_ble_eq_true rfl) (Nat.le_of_ble_eq_true rfl) (Nat.le_of_ble_eq_true rfl) (Nat.le_of_ble_eq_true rfl) ?_
        rintro _ _ ⟨rfl, I2, F2, rfl, hI2⟩
        refine aw_same (tgt := 931) dL_law_519 rfl ?_
        exact nxt _ _ hI2
      · refine aw_tabIn (off := 491) (tgt := 524) dL_law_33 (by rw [e_op9]; exact ab_inx _) (by omega) (by omega) (by rw [c_33]; rfl) rfl ?_
        refine aw_aload_n dL_law_524 rfl (by decide) ?_
        refine aw_aload_n dL_law_525 rfl (by decide) ?_
        refine aw_iload_n dL_law_526 rfl ?_
        refine aw_iconst dL_law_527 ?_
        refine aw_iadd dL_law_528 ?_
        refine aw_isc dL_law_529 (by omega) (by omega) (by omega) ?_
        refine aw_aload_n dL_law_530 rfl (by decide) ?_
        refine aw_iload_n dL_law_531 rfl ?_
        refine aw_iconst dL_law_532 ?_
        refine aw_iadd dL_law_533 ?_
        refine aw_isc dL_law_534 (by omega) (by omega) (by omega) ?_
        refine aw_callV (as := [ab_i ((ab_xs G ((6 * (c : Int)) + 1).toNat).toInt), ab_i ((ab_xs G ((6 * (c : Int)) + 2).toNat).toInt)]) (rest := []) dL_law_535 (pr_way G _ _ c hI (by omega) _ (ab_inx _) _ (ab_inx _)) ⟨Nat.le_of_ble_eq_true rfl, Nat.le_of_ble_eq_true rfl⟩ rfl kc11 rfl kX11_way iX11_way eX11_way lL_76 rfl (Nat.le_of_ble_eq_true rfl) (Nat.le_of_ble_eq_true rfl) (Nat.le_of_ble_eq_true rfl) (Nat.le_of_ble_eq_true rfl) (Nat.le_of_ble_eq_true rfl) ?_
        rintro _ _ ⟨r, I1, F1, rfl, rfl, hM⟩
        refine aw_aload_n dL_law_538 rfl (by decide) ?_
        refine aw_aload_n dL_law_539 rfl (by decide) ?_
        refine aw_iload_n dL_law_540 rfl ?_
        refine aw_iconst dL_law_541 ?_
        refine aw_iadd dL_law_542 ?_
        refine aw_isc dL_law_543 (by omega) (by omega) (by omega) ?_
        refine aw_aload_n dL_law_544 rfl (by decide) ?_
        refine aw_iload_n dL_law_545 rfl ?_
        refine aw_iconst dL_law_546 ?_
        refine aw_iadd dL_law_547 ?_
        refine aw_isc dL_law_548 (by omega) (by omega) (by omega) ?_
        refine aw_callV (as := [ab_i ((ab_xs G ((6 * (c : Int)) + 1).toNat).toInt), ab_i ((ab_xs G ((6 * (c : Int)) + 2).toNat).toInt)]) (rest := [ab_i r]) dL_law_549 hM ⟨Nat.le_of_ble_eq_true rfl, Nat.le_of_ble_eq_true rfl⟩ rfl kc12 rfl kX12_way iX12_way eX12_way lL_79 rfl (Nat.le_of_ble_eq_true rfl) (Nat.le_of_ble_eq_true rfl) (Nat.le_of_ble_eq_true rfl) (Nat.le_of_ble_eq_true rfl) (Nat.le_of_ble_eq_true rfl) ?_
        rintro _ _ ⟨rfl, I2, F2, rfl, hI2⟩
        refine aw_same (tgt := 931) dL_law_552 rfl ?_
        exact nxt _ _ hI2
      · refine aw_tabIn (off := 524) (tgt := 557) dL_law_33 (by rw [e_op9]; exact ab_inx _) (by omega) (by omega) (by rw [c_33]; rfl) rfl ?_
        refine aw_aload_n dL_law_557 rfl (by decide) ?_
        refine aw_aload_n dL_law_558 rfl (by decide) ?_
        refine aw_iload_n dL_law_559 rfl ?_
        refine aw_iconst dL_law_560 ?_
        refine aw_iadd dL_law_561 ?_
        refine aw_isc dL_law_562 (by omega) (by omega) (by omega) ?_
        refine aw_aload_n dL_law_563 rfl (by decide) ?_
        refine aw_iload_n dL_law_564 rfl ?_
        refine aw_iconst dL_law_565 ?_
        refine aw_iadd dL_law_566 ?_
        refine aw_isc dL_law_567 (by omega) (by omega) (by omega) ?_
        refine aw_callV (as := [ab_i ((ab_xs G ((6 * (c : Int)) + 1).toNat).toInt), ab_i ((ab_xs G ((6 * (c : Int)) + 2).toNat).toInt)]) (rest := []) dL_law_568 (pr_would G _ _ c hI (by omega) _ (ab_inx _) _ (ab_inx _)) ⟨Nat.le_of_ble_eq_true rfl, Nat.le_of_ble_eq_true rfl⟩ rfl kc11 rfl kX11_would iX11_would eX11_would lL_80 rfl (Nat.le_of_ble_eq_true rfl) (Nat.le_of_ble_eq_true rfl) (Nat.le_of_ble_eq_true rfl) (Nat.le_of_ble_eq_true rfl) (Nat.le_of_ble_eq_true rfl) ?_
        rintro _ _ ⟨r, I1, F1, rfl, rfl, hM⟩
        refine aw_aload_n dL_law_571 rfl (by decide) ?_
        refine aw_aload_n dL_law_572 rfl (by decide) ?_
        refine aw_iload_n dL_law_573 rfl ?_
        refine aw_iconst dL_law_574 ?_
        refine aw_iadd dL_law_575 ?_
        refine aw_isc dL_law_576 (by omega) (by omega) (by omega) ?_
        refine aw_aload_n dL_law_577 rfl (by decide) ?_
        refine aw_iload_n dL_law_578 rfl ?_
        refine aw_iconst dL_law_579 ?_
        refine aw_iadd dL_law_580 ?_
        refine aw_isc dL_law_581 (by omega) (by omega) (by omega) ?_
        refine aw_callV (as := [ab_i ((ab_xs G ((6 * (c : Int)) + 1).toNat).toInt), ab_i ((ab_xs G ((6 * (c : Int)) + 2).toNat).toInt)]) (rest := [ab_i r]) dL_law_582 hM ⟨Nat.le_of_ble_eq_true rfl, Nat.le_of_ble_eq_true rfl⟩ rfl kc12 rfl kX12_would iX12_would eX12_would lL_83 rfl (Nat.le_of_ble_eq_true rfl) (Nat.le_of_ble_eq_true rfl) (Nat.le_of_ble_eq_true rfl) (Nat.le_of_ble_eq_true rfl) (Nat.le_of_ble_eq_true rfl) ?_
        rintro _ _ ⟨rfl, I2, F2, rfl, hI2⟩
        refine aw_same (tgt := 931) dL_law_585 rfl ?_
        exact nxt _ _ hI2
      · refine aw_tabIn (off := 557) (tgt := 590) dL_law_33 (by rw [e_op9]; exact ab_inx _) (by omega) (by omega) (by rw [c_33]; rfl) rfl ?_
        refine aw_aload_n dL_law_590 rfl (by decide) ?_
        refine aw_aload_n dL_law_591 rfl (by decide) ?_
        refine aw_iload_n dL_law_592 rfl ?_
        refine aw_iconst dL_law_593 ?_
        refine aw_iadd dL_law_594 ?_
        refine aw_isc dL_law_595 (by omega) (by omega) (by omega) ?_
        refine aw_aload_n dL_law_596 rfl (by decide) ?_
        refine aw_iload_n dL_law_597 rfl ?_
        refine aw_iconst dL_law_598 ?_
        refine aw_iadd dL_law_599 ?_
        refine aw_isc dL_law_600 (by omega) (by omega) (by omega) ?_
        refine aw_callV (as := [ab_i ((ab_xs G ((6 * (c : Int)) + 1).toNat).toInt), ab_i ((ab_xs G ((6 * (c : Int)) + 2).toNat).toInt)]) (rest := []) dL_law_601 (pr_gain G _ _ c hI (by omega) _ (ab_inx _) _ (ab_inx _)) ⟨Nat.le_of_ble_eq_true rfl, Nat.le_of_ble_eq_true rfl⟩ rfl kc11 rfl kX11_gain iX11_gain eX11_gain lL_84 rfl (Nat.le_of_ble_eq_true rfl) (Nat.le_of_ble_eq_true rfl) (Nat.le_of_ble_eq_true rfl) (Nat.le_of_ble_eq_true rfl) (Nat.le_of_ble_eq_true rfl) ?_
        rintro _ _ ⟨r, I1, F1, rfl, rfl, hM⟩
        refine aw_aload_n dL_law_604 rfl (by decide) ?_
        refine aw_aload_n dL_law_605 rfl (by decide) ?_
        refine aw_iload_n dL_law_606 rfl ?_
        refine aw_iconst dL_law_607 ?_
        refine aw_iadd dL_law_608 ?_
        refine aw_isc dL_law_609 (by omega) (by omega) (by omega) ?_
        refine aw_aload_n dL_law_610 rfl (by decide) ?_
        refine aw_iload_n dL_law_611 rfl ?_
        refine aw_iconst dL_law_612 ?_
        refine aw_iadd dL_law_613 ?_
        refine aw_isc dL_law_614 (by omega) (by omega) (by omega) ?_
        refine aw_callV (as := [ab_i ((ab_xs G ((6 * (c : Int)) + 1).toNat).toInt), ab_i ((ab_xs G ((6 * (c : Int)) + 2).toNat).toInt)]) (rest := [ab_i r]) dL_law_615 hM ⟨Nat.le_of_ble_eq_true rfl, Nat.le_of_ble_eq_true rfl⟩ rfl kc12 rfl kX12_gain iX12_gain eX12_gain lL_87 rfl (Nat.le_of_ble_eq_true rfl) (Nat.le_of_ble_eq_true rfl) (Nat.le_of_ble_eq_true rfl) (Nat.le_of_ble_eq_true rfl) (Nat.le_of_ble_eq_true rfl) ?_
        rintro _ _ ⟨rfl, I2, F2, rfl, hI2⟩
        refine aw_same (tgt := 931) dL_law_618 rfl ?_
        exact nxt _ _ hI2
      · refine aw_tabIn (off := 590) (tgt := 623) dL_law_33 (by rw [e_op9]; exact ab_inx _) (by omega) (by omega) (by rw [c_33]; rfl) rfl ?_
        refine aw_aload_n dL_law_623 rfl (by decide) ?_
        refine aw_aload_n dL_law_624 rfl (by decide) ?_
        refine aw_iload_n dL_law_625 rfl ?_
        refine aw_iconst dL_law_626 ?_
        refine aw_iadd dL_law_627 ?_
        refine aw_isc dL_law_628 (by omega) (by omega) (by omega) ?_
        refine aw_aload_n dL_law_629 rfl (by decide) ?_
        refine aw_iload_n dL_law_630 rfl ?_
        refine aw_iconst dL_law_631 ?_
        refine aw_iadd dL_law_632 ?_
        refine aw_isc dL_law_633 (by omega) (by omega) (by omega) ?_
        refine aw_callV (as := [ab_i ((ab_xs G ((6 * (c : Int)) + 1).toNat).toInt), ab_i ((ab_xs G ((6 * (c : Int)) + 2).toNat).toInt)]) (rest := []) dL_law_634 (pr_best G _ _ c hI (by omega) _ (ab_inx _) _ (ab_inx _)) ⟨Nat.le_of_ble_eq_true rfl, Nat.le_of_ble_eq_true rfl⟩ rfl kc11 rfl kX11_best iX11_best eX11_best lL_88 rfl (Nat.le_of_ble_eq_true rfl) (Nat.le_of_ble_eq_true rfl) (Nat.le_of_ble_eq_true rfl) (Nat.le_of_ble_eq_true rfl) (Nat.le_of_ble_eq_true rfl) ?_
        rintro _ _ ⟨r, I1, F1, rfl, rfl, hM⟩
        refine aw_aload_n dL_law_637 rfl (by decide) ?_
        refine aw_aload_n dL_law_638 rfl (by decide) ?_
        refine aw_iload_n dL_law_639 rfl ?_
        refine aw_iconst dL_law_640 ?_
        refine aw_iadd dL_law_641 ?_
        refine aw_isc dL_law_642 (by omega) (by omega) (by omega) ?_
        refine aw_aload_n dL_law_643 rfl (by decide) ?_
        refine aw_iload_n dL_law_644 rfl ?_
        refine aw_iconst dL_law_645 ?_
        refine aw_iadd dL_law_646 ?_
        refine aw_isc dL_law_647 (by omega) (by omega) (by omega) ?_
        refine aw_callV (as := [ab_i ((ab_xs G ((6 * (c : Int)) + 1).toNat).toInt), ab_i ((ab_xs G ((6 * (c : Int)) + 2).toNat).toInt)]) (rest := [ab_i r]) dL_law_648 hM ⟨Nat.le_of_ble_eq_true rfl, Nat.le_of_ble_eq_true rfl⟩ rfl kc12 rfl kX12_best iX12_best eX12_best lL_91 rfl (Nat.le_of_ble_eq_true rfl) (Nat.le_of_ble_eq_true rfl) (Nat.le_of_ble_eq_true rfl) (Nat.le_of_ble_eq_true rfl) (Nat.le_of_ble_eq_true rfl) ?_
        rintro _ _ ⟨rfl, I2, F2, rfl, hI2⟩
        refine aw_same (tgt := 931) dL_law_651 rfl ?_
        exact nxt _ _ hI2
      · refine aw_tabIn (off := 623) (tgt := 656) dL_law_33 (by rw [e_op9]; exact ab_inx _) (by omega) (by omega) (by rw [c_33]; rfl) rfl ?_
        refine aw_aload_n dL_law_656 rfl (by decide) ?_
        refine aw_aload_n dL_law_657 rfl (by decide) ?_
        refine aw_iload_n dL_law_658 rfl ?_
        refine aw_iconst dL_law_659 ?_
        refine aw_iadd dL_law_660 ?_
        refine aw_isc dL_law_661 (by omega) (by omega) (by omega) ?_
        refine aw_aload_n dL_law_662 rfl (by decide) ?_
        refine aw_iload_n dL_law_663 rfl ?_
        refine aw_iconst dL_law_664 ?_
        refine aw_iadd dL_law_665 ?_
        refine aw_isc dL_law_666 (by omega) (by omega) (by omega) ?_
        refine aw_callV (as := [ab_i ((ab_xs G ((6 * (c : Int)) + 1).toNat).toInt), ab_i ((ab_xs G ((6 * (c : Int)) + 2).toNat).toInt)]) (rest := []) dL_law_667 (pr_rest G _ _ c hI (by omega) _ (ab_inx _) _ (ab_inx _)) ⟨Nat.le_of_ble_eq_true rfl, Nat.le_of_ble_eq_true rfl⟩ rfl kc11 rfl kX11_rest iX11_rest eX11_rest lL_92 rfl (Nat.le_of_ble_eq_true rfl) (Nat.le_of_ble_eq_true rfl) (Nat.le_of_ble_eq_true rfl) (Nat.le_of_ble_eq_true rfl) (Nat.le_of_ble_eq_true rfl) ?_
        rintro _ _ ⟨r, I1, F1, rfl, rfl, hM⟩
        refine aw_aload_n dL_law_670 rfl (by decide) ?_
        refine aw_aload_n dL_law_671 rfl (by decide) ?_
        refine aw_iload_n dL_law_672 rfl ?_
        refine aw_iconst dL_law_673 ?_
        refine aw_iadd dL_law_674 ?_
        refine aw_isc dL_law_675 (by omega) (by omega) (by omega) ?_
        refine aw_aload_n dL_law_676 rfl (by decide) ?_
        refine aw_iload_n dL_law_677 rfl ?_
        refine aw_iconst dL_law_678 ?_
        refine aw_iadd dL_law_679 ?_
        refine aw_isc dL_law_680 (by omega) (by omega) (by omega) ?_
        refine aw_callV (as := [ab_i ((ab_xs G ((6 * (c : Int)) + 1).toNat).toInt), ab_i ((ab_xs G ((6 * (c : Int)) + 2).toNat).toInt)]) (rest := [ab_i r]) dL_law_681 hM ⟨Nat.le_of_ble_eq_true rfl, Nat.le_of_ble_eq_true rfl⟩ rfl kc12 rfl kX12_rest iX12_rest eX12_rest lL_95 rfl (Nat.le_of_ble_eq_true rfl) (Nat.le_of_ble_eq_true rfl) (Nat.le_of_ble_eq_true rfl) (Nat.le_of_ble_eq_true rfl) (Nat.le_of_ble_eq_true rfl) ?_
        rintro _ _ ⟨rfl, I2, F2, rfl, hI2⟩
        refine aw_same (tgt := 931) dL_law_684 rfl ?_
        exact nxt _ _ hI2
      · refine aw_tabIn (off := 656) (tgt := 689) dL_law_33 (by rw [e_op9]; exact ab_inx _) (by omega) (by omega) (by rw [c_33]; rfl) rfl ?_
        refine aw_aload_n dL_law_689 rfl (by decide) ?_
        refine aw_aload_n dL_law_690 rfl (by decide) ?_
        refine aw_iload_n dL_law_691 rfl ?_
        refine aw_iconst dL_law_692 ?_
        refine aw_iadd dL_law_693 ?_
        refine aw_isc dL_law_694 (by omega) (by omega) (by omega) ?_
        refine aw_aload_n dL_law_695 rfl (by decide) ?_
        refine aw_iload_n dL_law_696 rfl ?_
        refine aw_iconst dL_law_697 ?_
        refine aw_iadd dL_law_698 ?_
        refine aw_isc dL_law_699 (by omega) (by omega) (by omega) ?_
        refine aw_aload_n dL_law_700 rfl (by decide) ?_
        refine aw_iload_n dL_law_701 rfl ?_
        refine aw_iconst dL_law_702 ?_
        refine aw_iadd dL_law_703 ?_
        refine aw_isc dL_law_704 (by omega) (by omega) (by omega) ?_
        refine aw_aload_n dL_law_705 rfl (by decide) ?_
        refine aw_iload_n dL_law_706 rfl ?_
        refine aw_iconst dL_law_707 ?_
        refine aw_iadd dL_law_708 ?_
        refine aw_isc dL_law_709 (by omega) (by omega) (by omega) ?_
        refine aw_aload_n dL_law_710 rfl (by decide) ?_
        refine aw_iload_n dL_law_711 rfl ?_
        refine aw_iconst dL_law_712 ?_
        refine aw_iadd dL_law_713 ?_
        refine aw_isc dL_law_714 (by omega) (by omega) (by omega) ?_
        refine aw_callV (as := [ab_i ((ab_xs G ((6 * (c : Int)) + 1).toNat).toInt), ab_i ((ab_xs G ((6 * (c : Int)) + 2).toNat).toInt), ab_i ((ab_xs G ((6 * (c : Int)) + 3).toNat).toInt), ab_i ((ab_xs G ((6 * (c : Int)) + 4).toNat).toInt), ab_i ((ab_xs G ((6 * (c : Int)) + 5).toNat).toInt)]) (rest := []) dL_law_715 (pr_lot G _ _ c hI (by omega) _ (ab_inx _) _ (ab_inx _) _ (ab_inx _) _ (ab_inx _) _ (ab_inx _)) ⟨Nat.le_of_ble_eq_true rfl, Nat.le_of_ble_eq_true rfl⟩ rfl kc11 rfl kX11_lot iX11_lot eX11_lot lL_96 rfl (Nat.le_of_ble_eq_true rfl) (Nat.le_of_ble_eq_true rfl) (Nat.le_of_ble_eq_true rfl) (Nat.le_of_ble_eq_true rfl) (Nat.le_of_ble_eq_true rfl) ?_
        rintro _ _ ⟨r, I1, F1, rfl, rfl, hM⟩
        refine aw_aload_n dL_law_718 rfl (by decide) ?_
        refine aw_aload_n dL_law_719 rfl (by decide) ?_
        refine aw_iload_n dL_law_720 rfl ?_
        refine aw_iconst dL_law_721 ?_
        refine aw_iadd dL_law_722 ?_
        refine aw_isc dL_law_723 (by omega) (by omega) (by omega) ?_
        refine aw_aload_n dL_law_724 rfl (by decide) ?_
        refine aw_iload_n dL_law_725 rfl ?_
        refine aw_iconst dL_law_726 ?_
        refine aw_iadd dL_law_727 ?_
        refine aw_isc dL_law_728 (by omega) (by omega) (by omega) ?_
        refine aw_aload_n dL_law_729 rfl (by decide) ?_
        refine aw_iload_n dL_law_730 rfl ?_
        refine aw_iconst dL_law_731 ?_
        refine aw_iadd dL_law_732 ?_
        refine aw_isc dL_law_733 (by omega) (by omega) (by omega) ?_
        refine aw_aload_n dL_law_734 rfl (by decide) ?_
        refine aw_iload_n dL_law_735 rfl ?_
        refine aw_iconst dL_law_736 ?_
        refine aw_iadd dL_law_737 ?_
        refine aw_isc dL_law_738 (by omega) (by omega) (by omega) ?_
        refine aw_aload_n dL_law_739 rfl (by decide) ?_
        refine aw_iload_n dL_law_740 rfl ?_
        refine aw_iconst dL_law_741 ?_
        refine aw_iadd dL_law_742 ?_
        refine aw_isc dL_law_743 (by omega) (by omega) (by omega) ?_
        refine aw_callV (as := [ab_i ((ab_xs G ((6 * (c : Int)) + 1).toNat).toInt), ab_i ((ab_xs G ((6 * (c : Int)) + 2).toNat).toInt), ab_i ((ab_xs G ((6 * (c : Int)) + 3).toNat).toInt), ab_i ((ab_xs G ((6 * (c : Int)) + 4).toNat).toInt), ab_i ((ab_xs G ((6 * (c : Int)) + 5).toNat).toInt)]) (rest := [ab_i r]) dL_law_744 hM ⟨Nat.le_of_ble_eq_true rfl, Nat.le_of_ble_eq_true rfl⟩ rfl kc12 rfl kX12_lot iX12_lot eX12_lot lL_100 rfl (Nat.le_of_ble_eq_true rfl) (Nat.le_of_ble_eq_true rfl) (Nat.le_of_ble_eq_true rfl) (Nat.le_of_ble_eq_true rfl) (Nat.le_of_ble_eq_true rfl) ?_
        rintro _ _ ⟨rfl, I2, F2, rfl, hI2⟩
        refine aw_same (tgt := 931) dL_law_747 rfl ?_
        exact nxt _ _ hI2
      · refine aw_tabIn (off := 719) (tgt := 752) dL_law_33 (by rw [e_op9]; exact ab_inx _) (by omega) (by omega) (by rw [c_33]; rfl) rfl ?_
        refine aw_aload_n dL_law_752 rfl (by decide) ?_
        refine aw_aload_n dL_law_753 rfl (by decide) ?_
        refine aw_iload_n dL_law_754 rfl ?_
        refine aw_iconst dL_law_755 ?_
        refine aw_iadd dL_law_756 ?_
        refine aw_isc dL_law_757 (by omega) (by omega) (by omega) ?_
        refine aw_aload_n dL_law_758 rfl (by decide) ?_
        refine aw_iload_n dL_law_759 rfl ?_
        refine aw_iconst dL_law_760 ?_
        refine aw_iadd dL_law_761 ?_
        refine aw_isc dL_law_762 (by omega) (by omega) (by omega) ?_
        refine aw_callV (as := [ab_i ((ab_xs G ((6 * (c : Int)) + 1).toNat).toInt), ab_i ((ab_xs G ((6 * (c : Int)) + 2).toNat).toInt)]) (rest := []) dL_law_763 (pr_holder G _ _ c hI (by omega) _ (ab_inx _) _ (ab_inx _)) ⟨Nat.le_of_ble_eq_true rfl, Nat.le_of_ble_eq_true rfl⟩ rfl kc11 rfl kX11_holder iX11_holder eX11_holder lL_101 rfl (Nat.le_of_ble_eq_true rfl) (Nat.le_of_ble_eq_true rfl) (Nat.le_of_ble_eq_true rfl) (Nat.le_of_ble_eq_true rfl) (Nat.le_of_ble_eq_true rfl) ?_
        rintro _ _ ⟨r, I1, F1, rfl, rfl, hM⟩
        refine aw_aload_n dL_law_766 rfl (by decide) ?_
        refine aw_aload_n dL_law_767 rfl (by decide) ?_
        refine aw_iload_n dL_law_768 rfl ?_
        refine aw_iconst dL_law_769 ?_
        refine aw_iadd dL_law_770 ?_
        refine aw_isc dL_law_771 (by omega) (by omega) (by omega) ?_
        refine aw_aload_n dL_law_772 rfl (by decide) ?_
        refine aw_iload_n dL_law_773 rfl ?_
        refine aw_iconst dL_law_774 ?_
        refine aw_iadd dL_law_775 ?_
        refine aw_isc dL_law_776 (by omega) (by omega) (by omega) ?_
        refine aw_callV (as := [ab_i ((ab_xs G ((6 * (c : Int)) + 1).toNat).toInt), ab_i ((ab_xs G ((6 * (c : Int)) + 2).toNat).toInt)]) (rest := [ab_i r]) dL_law_777 hM ⟨Nat.le_of_ble_eq_true rfl, Nat.le_of_ble_eq_true rfl⟩ rfl kc12 rfl kX12_holder iX12_holder eX12_holder lL_104 rfl (Nat.le_of_ble_eq_true rfl) (Nat.le_of_ble_eq_true rfl) (Nat.le_of_ble_eq_true rfl) (Nat.le_of_ble_eq_true rfl) (Nat.le_of_ble_eq_true rfl) ?_
        rintro _ _ ⟨rfl, I2, F2, rfl, hI2⟩
        refine aw_same (tgt := 931) dL_law_780 rfl ?_
        exact nxt _ _ hI2
      · refine aw_tabIn (off := 752) (tgt := 785) dL_law_33 (by rw [e_op9]; exact ab_inx _) (by omega) (by omega) (by rw [c_33]; rfl) rfl ?_
        refine aw_aload_n dL_law_785 rfl (by decide) ?_
        refine aw_aload_n dL_law_786 rfl (by decide) ?_
        refine aw_iload_n dL_law_787 rfl ?_
        refine aw_iconst dL_law_788 ?_
        refine aw_iadd dL_law_789 ?_
        refine aw_isc dL_law_790 (by omega) (by omega) (by omega) ?_
        refine aw_callV (as := [ab_i ((ab_xs G ((6 * (c : Int)) + 1).toNat).toInt)]) (rest := []) dL_law_791 (pr_swaps G _ _ c hI (by omega) _ (ab_inx _)) ⟨Nat.le_of_ble_eq_true rfl, Nat.le_of_ble_eq_true rfl⟩ rfl kc11 rfl kX11_swaps iX11_swaps eX11_swaps lL_105 rfl (Nat.le_of_ble_eq_true rfl) (Nat.le_of_ble_eq_true rfl) (Nat.le_of_ble_eq_true rfl) (Nat.le_of_ble_eq_true rfl) (Nat.le_of_ble_eq_true rfl) ?_
        rintro _ _ ⟨r, I1, F1, rfl, rfl, hM⟩
        refine aw_aload_n dL_law_794 rfl (by decide) ?_
        refine aw_aload_n dL_law_795 rfl (by decide) ?_
        refine aw_iload_n dL_law_796 rfl ?_
        refine aw_iconst dL_law_797 ?_
        refine aw_iadd dL_law_798 ?_
        refine aw_isc dL_law_799 (by omega) (by omega) (by omega) ?_
        refine aw_callV (as := [ab_i ((ab_xs G ((6 * (c : Int)) + 1).toNat).toInt)]) (rest := [ab_i r]) dL_law_800 hM ⟨Nat.le_of_ble_eq_true rfl, Nat.le_of_ble_eq_true rfl⟩ rfl kc12 rfl kX12_swaps iX12_swaps eX12_swaps lL_108 rfl (Nat.le_of_ble_eq_true rfl) (Nat.le_of_ble_eq_true rfl) (Nat.le_of_ble_eq_true rfl) (Nat.le_of_ble_eq_true rfl) (Nat.le_of_ble_eq_true rfl) ?_
        rintro _ _ ⟨rfl, I2, F2, rfl, hI2⟩
        refine aw_same (tgt := 931) dL_law_803 rfl ?_
        exact nxt _ _ hI2
      · refine aw_tabIn (off := 775) (tgt := 808) dL_law_33 (by rw [e_op9]; exact ab_inx _) (by omega) (by omega) (by rw [c_33]; rfl) rfl ?_
        refine aw_aload_n dL_law_808 rfl (by decide) ?_
        refine aw_callV (as := []) (rest := []) dL_law_809 (pr_rings G _ _ c hI (by omega)) ⟨Nat.le_of_ble_eq_true rfl, Nat.le_of_ble_eq_true rfl⟩ rfl kc11 rfl kX11_rings iX11_rings eX11_rings lL_109 rfl (Nat.le_of_ble_eq_true rfl) (Nat.le_of_ble_eq_true rfl) (Nat.le_of_ble_eq_true rfl) (Nat.le_of_ble_eq_true rfl) (Nat.le_of_ble_eq_true rfl) ?_
        rintro _ _ ⟨r, I1, F1, rfl, rfl, hM⟩
        refine aw_aload_n dL_law_812 rfl (by decide) ?_
        refine aw_callV (as := []) (rest := [ab_i r]) dL_law_813 hM ⟨Nat.le_of_ble_eq_true rfl, Nat.le_of_ble_eq_true rfl⟩ rfl kc12 rfl kX12_rings iX12_rings eX12_rings lL_112 rfl (Nat.le_of_ble_eq_true rfl) (Nat.le_of_ble_eq_true rfl) (Nat.le_of_ble_eq_true rfl) (Nat.le_of_ble_eq_true rfl) (Nat.le_of_ble_eq_true rfl) ?_
        rintro _ _ ⟨rfl, I2, F2, rfl, hI2⟩
        refine aw_same (tgt := 931) dL_law_816 rfl ?_
        exact nxt _ _ hI2
      · refine aw_tabIn (off := 788) (tgt := 821) dL_law_33 (by rw [e_op9]; exact ab_inx _) (by omega) (by omega) (by rw [c_33]; rfl) rfl ?_
        refine aw_aload_n dL_law_821 rfl (by decide) ?_
        refine aw_aload_n dL_law_822 rfl (by decide) ?_
        refine aw_iload_n dL_law_823 rfl ?_
        refine aw_iconst dL_law_824 ?_
        refine aw_iadd dL_law_825 ?_
        refine aw_isc dL_law_826 (by omega) (by omega) (by omega) ?_
        refine aw_aload_n dL_law_827 rfl (by decide) ?_
        refine aw_iload_n dL_law_828 rfl ?_
        refine aw_iconst dL_law_829 ?_
        refine aw_iadd dL_law_830 ?_
        refine aw_isc dL_law_831 (by omega) (by omega) (by omega) ?_
        refine aw_callV (as := [ab_i ((ab_xs G ((6 * (c : Int)) + 1).toNat).toInt), ab_i ((ab_xs G ((6 * (c : Int)) + 2).toNat).toInt)]) (rest := []) dL_law_832 (pr_chain G _ _ c hI (by omega) _ (ab_inx _) _ (ab_inx _)) ⟨Nat.le_of_ble_eq_true rfl, Nat.le_of_ble_eq_true rfl⟩ rfl kc11 rfl kX11_chain iX11_chain eX11_chain lL_113 rfl (Nat.le_of_ble_eq_true rfl) (Nat.le_of_ble_eq_true rfl) (Nat.le_of_ble_eq_true rfl) (Nat.le_of_ble_eq_true rfl) (Nat.le_of_ble_eq_true rfl) ?_
        rintro _ _ ⟨r, I1, F1, rfl, rfl, hM⟩
        refine aw_aload_n dL_law_835 rfl (by decide) ?_
        refine aw_aload_n dL_law_836 rfl (by decide) ?_
        refine aw_iload_n dL_law_837 rfl ?_
        refine aw_iconst dL_law_838 ?_
        refine aw_iadd dL_law_839 ?_
        refine aw_isc dL_law_840 (by omega) (by omega) (by omega) ?_
        refine aw_aload_n dL_law_841 rfl (by decide) ?_
        refine aw_iload_n dL_law_842 rfl ?_
        refine aw_iconst dL_law_843 ?_
        refine aw_iadd dL_law_844 ?_
        refine aw_isc dL_law_845 (by omega) (by omega) (by omega) ?_
        refine aw_callV (as := [ab_i ((ab_xs G ((6 * (c : Int)) + 1).toNat).toInt), ab_i ((ab_xs G ((6 * (c : Int)) + 2).toNat).toInt)]) (rest := [ab_i r]) dL_law_846 hM ⟨Nat.le_of_ble_eq_true rfl, Nat.le_of_ble_eq_true rfl⟩ rfl kc12 rfl kX12_chain iX12_chain eX12_chain lL_116 rfl (Nat.le_of_ble_eq_true rfl) (Nat.le_of_ble_eq_true rfl) (Nat.le_of_ble_eq_true rfl) (Nat.le_of_ble_eq_true rfl) (Nat.le_of_ble_eq_true rfl) ?_
        rintro _ _ ⟨rfl, I2, F2, rfl, hI2⟩
        refine aw_same (tgt := 931) dL_law_849 rfl ?_
        exact nxt _ _ hI2
      · refine aw_tabIn (off := 821) (tgt := 854) dL_law_33 (by rw [e_op9]; exact ab_inx _) (by omega) (by omega) (by rw [c_33]; rfl) rfl ?_
        refine aw_aload_n dL_law_854 rfl (by decide) ?_
        refine aw_aload_n dL_law_855 rfl (by decide) ?_
        refine aw_iload_n dL_law_856 rfl ?_
        refine aw_iconst dL_law_857 ?_
        refine aw_iadd dL_law_858 ?_
        refine aw_isc dL_law_859 (by omega) (by omega) (by omega) ?_
        refine aw_aload_n dL_law_860 rfl (by decide) ?_
        refine aw_iload_n dL_law_861 rfl ?_
        refine aw_iconst dL_law_862 ?_
        refine aw_iadd dL_law_863 ?_
        refine aw_isc dL_law_864 (by omega) (by omega) (by omega) ?_
        refine aw_aload_n dL_law_865 rfl (by decide) ?_
        refine aw_iload_n dL_law_866 rfl ?_
        refine aw_iconst dL_law_867 ?_
        refine aw_iadd dL_law_868 ?_
        refine aw_isc dL_law_869 (by omega) (by omega) (by omega) ?_
        refine aw_aload_n dL_law_870 rfl (by decide) ?_
        refine aw_iload_n dL_law_871 rfl ?_
        refine aw_iconst dL_law_872 ?_
        refine aw_iadd dL_law_873 ?_
        refine aw_isc dL_law_874 (by omega) (by omega) (by omega) ?_
        refine aw_callV (as := [ab_i ((ab_xs G ((6 * (c : Int)) + 1).toNat).toInt), ab_i ((ab_xs G ((6 * (c : Int)) + 2).toNat).toInt), ab_i ((ab_xs G ((6 * (c : Int)) + 3).toNat).toInt), ab_i ((ab_xs G ((6 * (c : Int)) + 4).toNat).toInt)]) (rest := []) dL_law_875 (pr_mean G _ _ c hI (by omega) _ _ _ _ (ab_inx _) (ab_inx _) (ab_inx _) (ab_inx _)) ⟨Nat.le_of_ble_eq_true rfl, Nat.le_of_ble_eq_true rfl⟩ rfl kc11 rfl kX11_mean iX11_mean eX11_mean lL_117 rfl (Nat.le_of_ble_eq_true rfl) (Nat.le_of_ble_eq_true rfl) (Nat.le_of_ble_eq_true rfl) (Nat.le_of_ble_eq_true rfl) (Nat.le_of_ble_eq_true rfl) ?_
        rintro _ _ ⟨r, I1, F1, rfl, rfl, hM⟩
        refine aw_aload_n dL_law_878 rfl (by decide) ?_
        refine aw_aload_n dL_law_879 rfl (by decide) ?_
        refine aw_iload_n dL_law_880 rfl ?_
        refine aw_iconst dL_law_881 ?_
        refine aw_iadd dL_law_882 ?_
        refine aw_isc dL_law_883 (by omega) (by omega) (by omega) ?_
        refine aw_aload_n dL_law_884 rfl (by decide) ?_
        refine aw_iload_n dL_law_885 rfl ?_
        refine aw_iconst dL_law_886 ?_
        refine aw_iadd dL_law_887 ?_
        refine aw_isc dL_law_888 (by omega) (by omega) (by omega) ?_
        refine aw_aload_n dL_law_889 rfl (by decide) ?_
        refine aw_iload_n dL_law_890 rfl ?_
        refine aw_iconst dL_law_891 ?_
        refine aw_iadd dL_law_892 ?_
        refine aw_isc dL_law_893 (by omega) (by omega) (by omega) ?_
        refine aw_aload_n dL_law_894 rfl (by decide) ?_
        refine aw_iload_n dL_law_895 rfl ?_
        refine aw_iconst dL_law_896 ?_
        refine aw_iadd dL_law_897 ?_
        refine aw_isc dL_law_898 (by omega) (by omega) (by omega) ?_
        refine aw_callV (as := [ab_i ((ab_xs G ((6 * (c : Int)) + 1).toNat).toInt), ab_i ((ab_xs G ((6 * (c : Int)) + 2).toNat).toInt), ab_i ((ab_xs G ((6 * (c : Int)) + 3).toNat).toInt), ab_i ((ab_xs G ((6 * (c : Int)) + 4).toNat).toInt)]) (rest := [ab_l r]) dL_law_899 hM ⟨Nat.le_of_ble_eq_true rfl, Nat.le_of_ble_eq_true rfl⟩ rfl kc12 rfl kX12_mean iX12_mean eX12_mean lL_121 rfl (Nat.le_of_ble_eq_true rfl) (Nat.le_of_ble_eq_true rfl) (Nat.le_of_ble_eq_true rfl) (Nat.le_of_ble_eq_true rfl) (Nat.le_of_ble_eq_true rfl) ?_
        rintro _ _ ⟨rfl, I2, F2, rfl, hI2⟩
        refine aw_lcmp dL_law_902 ?_
        refine aw_to (z := 0) (lcmp_same _) ?_
        refine aw_if_eq (tgt := 931) dL_law_903 rfl ⟨by decide, by decide⟩ (fun _ => ?_) (fun c9 => absurd rfl c9)
        exact nxt _ _ hI2
      · refine aw_tabIn (off := 875) (tgt := 908) dL_law_33 (by rw [e_op9]; exact ab_inx _) (by omega) (by omega) (by rw [c_33]; rfl) rfl ?_
        refine aw_aload_n dL_law_908 rfl (by decide) ?_
        refine aw_aload_n dL_law_909 rfl (by decide) ?_
        refine aw_iload_n dL_law_910 rfl ?_
        refine aw_iconst dL_law_911 ?_
        refine aw_iadd dL_law_912 ?_
        refine aw_isc dL_law_913 (by omega) (by omega) (by omega) ?_
        refine aw_callV (as := [ab_i ((ab_xs G ((6 * (c : Int)) + 1).toNat).toInt)]) (rest := []) dL_law_914 (pr_count G _ _ c hI (by omega) _ (ab_inx _)) ⟨Nat.le_of_ble_eq_true rfl, Nat.le_of_ble_eq_true rfl⟩ rfl kc11 rfl kX11_count iX11_count eX11_count lL_122 rfl (Nat.le_of_ble_eq_true rfl) (Nat.le_of_ble_eq_true rfl) (Nat.le_of_ble_eq_true rfl) (Nat.le_of_ble_eq_true rfl) (Nat.le_of_ble_eq_true rfl) ?_
        rintro _ _ ⟨r, I1, F1, rfl, rfl, hM⟩
        refine aw_aload_n dL_law_917 rfl (by decide) ?_
        refine aw_aload_n dL_law_918 rfl (by decide) ?_
        refine aw_iload_n dL_law_919 rfl ?_
        refine aw_iconst dL_law_920 ?_
        refine aw_iadd dL_law_921 ?_
        refine aw_isc dL_law_922 (by omega) (by omega) (by omega) ?_
        refine aw_callV (as := [ab_i ((ab_xs G ((6 * (c : Int)) + 1).toNat).toInt)]) (rest := [ab_i r]) dL_law_923 hM ⟨Nat.le_of_ble_eq_true rfl, Nat.le_of_ble_eq_true rfl⟩ rfl kc12 rfl kX12_count iX12_count eX12_count lL_125 rfl (Nat.le_of_ble_eq_true rfl) (Nat.le_of_ble_eq_true rfl) (Nat.le_of_ble_eq_true rfl) (Nat.le_of_ble_eq_true rfl) (Nat.le_of_ble_eq_true rfl) ?_
        rintro _ _ ⟨rfl, I2, F2, rfl, hI2⟩
        refine aw_same (tgt := 931) dL_law_926 rfl ?_
        exact nxt _ _ hI2
      · refine aw_tabOut (tgt := 931) dL_law_33 (by rw [e_op9]; exact ab_inx _) c_33 rfl ?_
        exact nxt _ _ (hI.up (by omega))
set_option maxHeartbeats 4000000 in
set_option maxRecDepth 100000 in
theorem law_start (G : ab_G) (b : Nat) (hL9 : ab_L G ≤ 3072) : aW G YL_law room_1 (lwZ G b) 0 0 (0, fun _ _ => 0, fun _ _ => 0) 0 [some (ab_r 1002), none, none, none] [] := by
  have z2 : ∀ i j : Nat, 84 ≤ i → (fun _ _ => 0 : Nat → Nat → Nat) i j = 0 := fun _ _ _ => rfl
  refine aw_new (k := 11) dL_law_0 kc11 clL_7 inX11 iiX11 rfl (by decide) (fun _ => rfl) (fun _ => rfl) hyX11 (by decide) (by decide) ?_
  refine aw_dup dL_law_3 rfl ?_
  refine aw_callI (as := []) (rest := [ab_r 1]) dL_law_4 (ct_X11_init G _ _ ⟨fun _ _ _ => rfl, fun _ _ _ => rfl⟩) (by decide) rfl rfl kX11_init iX11_init lL_9 rfl (Nat.le_of_ble_eq_true rfl) (Nat.le_of_ble_eq_true rfl) (Nat.le_of_ble_eq_true rfl) (Nat.le_of_ble_eq_true rfl) (Nat.le_of_ble_eq_true rfl) ?_
  rintro _ _ ⟨rfl, J, rfl, a1, a2, a3, a4⟩
  have z1 : ∀ i j, 84 ≤ i → J i j = 0 := fun i j hi => by rw [a4 i j (by omega) (by omega)]
  refine aw_astore_n (ls' := [some (ab_r 1002), some (ab_r 1), none, none]) dL_law_7 (by decide) (by decide) rfl ?_
  refine aw_new (k := 12) dL_law_8 kc12 clL_10 inX12 iiX12 rfl (by decide) (fun j => by exact z1 _ j (by omega)) (fun j => by rw [ab_w_i (by omega), ab_w_i (by omega), ab_w_i (by omega), ab_w_i (by omega), ab_w_i (by omega), ab_w_i (by omega), ab_w_i (by omega), ab_w_i (by omega), ab_w_i (by omega), ab_w_i (by omega), ab_w_i (by omega), ab_w_i (by omega), ab_w_i (by omega), ab_w_i (by omega), ab_w_i (by omega), ab_w_i (by omega), ab_w_i (by omega), ab_w_i (by omega), ab_w_i (by omega), rw_n (by omega), ab_w_i (by omega), ab_w_i (by omega), rw_n (by omega), ab_w_i (by omega), ab_w_i (by omega), rw_n (by omega), ab_w_i (by omega), ab_w_i (by omega), rw_n (by omega), ab_w_i (by omega), ab_w_i (by omega), rw_n (by omega), ab_w_i (by omega), ab_w_i (by omega), ab_w_i (by omega), ab_w_i (by omega), ab_w_i (by omega), ab_w_i (by omega), ab_w_i (by omega), ab_w_i (by omega), ab_w_i (by omega), ab_w_i (by omega), ab_w_i (by omega), ab_w_i (by omega), ab_w_i (by omega), ab_w_i (by omega), ab_w_i (by omega), ab_w_i (by omega), ab_w_i (by omega), ab_w_i (by omega), rw_n (by omega)]) hyX12 (by decide) (by decide) ?_
  refine aw_dup dL_law_11 rfl ?_
  refine aw_callI (as := []) (rest := [ab_r 84]) dL_law_12 (ct_X12_init G _ _ ⟨fun i j hi => by exact z1 i j (by omega), fun i j hi => by rw [ab_w_i (by omega), ab_w_i (by omega), ab_w_i (by omega), ab_w_i (by omega), ab_w_i (by omega), ab_w_i (by omega), ab_w_i (by omega), ab_w_i (by omega), ab_w_i (by omega), ab_w_i (by omega), ab_w_i (by omega), ab_w_i (by omega), ab_w_i (by omega), ab_w_i (by omega), ab_w_i (by omega), ab_w_i (by omega), ab_w_i (by omega), ab_w_i (by omega), ab_w_i (by omega), rw_n (by omega), ab_w_i (by omega), ab_w_i (by omega), rw_n (by omega), ab_w_i (by omega), ab_w_i (by omega), rw_n (by omega), ab_w_i (by omega), ab_w_i (by omega), rw_n (by omega), ab_w_i (by omega), ab_w_i (by omega), rw_n (by omega), ab_w_i (by omega), ab_w_i (by omega), ab_w_i (by omega), ab_w_i (by omega), ab_w_i (by omega), ab_w_i (by omega), ab_w_i (by omega), ab_w_i (by omega), ab_w_i (by omega), ab_w_i (by omega), ab_w_i (by omega), ab_w_i (by omega), ab_w_i (by omega), ab_w_i (by omega), ab_w_i (by omega), ab_w_i (by omega), ab_w_i (by omega), ab_w_i (by omega), rw_n (by omega)]⟩) (by decide) rfl rfl kX12_init iX12_init lL_12 rfl (Nat.le_of_ble_eq_true rfl) (Nat.le_of_ble_eq_true rfl) (Nat.le_of_ble_eq_true rfl) (Nat.le_of_ble_eq_true rfl) (Nat.le_of_ble_eq_true rfl) ?_
  rintro _ _ ⟨rfl, K, rfl, b1, b2, b3⟩
  refine aw_astore_n (ls' := [some (ab_r 1002), some (ab_r 1), some (ab_r 84), none]) dL_law_15 (by decide) (by decide) rfl ?_
  refine aw_iconst dL_law_16 ?_
  refine aw_istore_n (ls' := [some (ab_r 1002), some (ab_r 1), some (ab_r 84), some (ab_i 0)]) dL_law_17 (by decide) rfl ?_
  exact law_loop G b hL9 512 0 K fAll (by omega) (inv_0 (fun s hs => (b3 8 s (by omega) (by omega)).trans (a1 s hs)) ⟨(b3 13 0 (by omega) (by omega)).trans a2.1, (b3 13 1 (by omega) (by omega)).trans a2.2.1, (b3 13 2 (by omega) (by omega)).trans a2.2.2.1, (b3 13 3 (by omega) (by omega)).trans a2.2.2.2⟩ (fun s hs => ⟨(b3 14 s (by omega) (by omega)).trans (a3 s hs).1, (b3 15 s (by omega) (by omega)).trans (a3 s hs).2.1, (b3 16 s (by omega) (by omega)).trans (a3 s hs).2.2⟩) b1 b2 (fun i b h1 h2 h3 h4 => (b3 i b h3 h4).trans (a4 i b h1 h2)))
