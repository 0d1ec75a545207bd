def ab_Qc (G : ab_G) (Q : Option ab_V → ab_H → Prop) : Array Value → State → Outcome → State → Prop := fun _ st o t => ∃ (r : Option ab_V) (h' : ab_H), o = .returned (r.map (ab_c G)) ∧ Q r h' ∧ ab_Rep G h' t.heap ∧ ∀ q : Nat, q ≤ ab_B G → t.heap[q]? = st.heap[q]?
def ab_Pc (G : ab_G) (as : List ab_V) (h : ab_H) : Array Value → State → Prop := fun a U => a = (as.map (ab_c G)).toArray ∧ ab_Rep G h U.heap ∧ ab_Gl G U
abbrev ab_cw (Y : ab_Y) : Cond := Cond.code Y.1 Y.2.1 Y.2.2.1 Y.2.2.2
/-- THE CONTRACT: the method Y, called with the arguments as at the heap h, returns, and Q holds of its answer and of the heap then; d: how many frames it needs; mc, ms: cells and slots that it makes -/
def Ct (G : ab_G) (d mc ms : Nat) (Y : ab_Y) (as : List ab_V) (h : ab_H) (Q : Option ab_V → ab_H → Prop) : Prop :=
  Met G.1 Y.1 (ab_cw Y :: lw_all) (ab_rm d mc ms) (ab_Pc G as h) (ab_Qc G Q) mc ms (ab_A G)
def ab_Z (G : ab_G) (Q : Option ab_V → ab_H → Prop) (mc ms : Nat) : ab_Zt := fun below args s => MQ below (ab_Qc G Q) args s mc ms (ab_A G)
/-- what is known of a method by the tables: np parameters (the receiver not counted) -/
def ab_YK (Y : ab_Y) (np : Nat) : Prop := ab_cw Y ∈ lw_all ∧ Cond.initialized Y.1.cls ∈ lw_all ∧ (Y.1.cls ≠ "java/lang/invoke/MethodHandle" ∧ Y.1.cls ≠ "java/lang/invoke/VarHandle") ∧ (parseMethodDescriptor Y.1.desc).map (fun d => d.parameters.length) = some np ∧ plainName Y.1.cls = true
theorem ab_goods {Y : ab_Y} (h : ab_cw Y ∈ lw_all) : GoodIn lw_all (ab_cw Y :: lw_all) := fun w hw => by
  rcases List.mem_cons.mp hw with e | e
  · subst e; exact ⟨h, good_of_word (List.mem_filter.mp h).2⟩
  · exact ⟨e, good_of_word (List.mem_filter.mp e).2⟩
theorem ab_blind {G : ab_G} {as : List ab_V} {h : ab_H} : FrameBlind (ab_Pc G as h) := fun a U g mk q => ⟨q.1, q.2.1, q.2.2.same (s := U) (U := U.calling g mk a) rfl rfl⟩
theorem Ct.ofW {G : ab_G} {d mc ms np : Nat} {Y : ab_Y} {as : List ab_V} {h : ab_H} {Q : Option ab_V → ab_H → Prop} (hY : ab_YK Y np) {ls : List (Option ab_V)} (hn : (ab_en as).length ≤ Y.2.2.1) (hls : ab_en as ++ List.replicate (Y.2.2.1 - (ab_en as).length) none = ls) (body : aW G Y (ab_rm d mc ms) (ab_Z G Q mc ms) 0 0 h 0 ls []) : Ct G d mc ms Y as h Q := by
  refine Met.ofW (cc := Y.2.1) (maxL := Y.2.2.1) (ret := Y.2.2.2) hY.2.2.2.2 rfl ?_
  intro p e s m args below meth c s₁ B hml hv
  obtain ⟨rfl, hR, hG⟩ := hv
  have hts := atoms_spec (ws := ab_cw Y :: lw_all) B.pre
  have hl := lv_entry (as.map (ab_c G)) (n := Y.2.2.1) (by rw [ab_en_len]; exact hn)
  rw [lg_entry_eq]
  rw [ab_en_args G as 0] at hl
  subst hls
  exact body p e s m _ below meth c ⟨B.exec, B.bytes, B.returns, hml, findClass_of_methodNamed B.named, fun w hw => hts w (List.mem_cons_of_mem _ hw), B.notSynchronized, (name_of_methodNamed B.named B.method).1, hG⟩ s.heap [] _ hR (fun _ _ => rfl) (fun _ h => by cases h) (ab_lo_pad G _ _ hl)
/-- a contract with a weaker end, more room -/
theorem Ct.mono {G : ab_G} {d mc ms : Nat} {Y : ab_Y} {as : List ab_V} {h : ab_H} {Q Q' : Option ab_V → ab_H → Prop} (hC : Ct G d mc ms Y as h Q) (hQ : ∀ r h', Q r h' → Q' r h') : Ct G d mc ms Y as h Q' := by
  intro p e ha hc hk s m args below hf happ hP hK
  obtain ⟨k, o, h1, h2, h3, ⟨r, h', hq⟩, hL⟩ := hC p e ha hc hk s m args below hf happ hP hK
  exact ⟨k, o, h1, h2, h3, ⟨r, h', hq.1, hQ r h' hq.2.1, hq.2.2⟩, hL⟩
theorem ab_cats {G : ab_G} : ∀ (rest : List ab_V), (((rest.map (ab_c G)).map fun v => v.category)).sum ≤ 2 * rest.length
  | [] => by simp
  | v :: t => by
    have := ab_cats (G := G) t
    have hc : (ab_c G v).category ≤ 2 := by rw [ab_cat]; split <;> omega
    simp only [List.map_cons, List.sum_cons, List.length_cons]
    omega
theorem ab_callOK {G : ab_G} {Y' : ab_Y} {d' mc ms np idx : Nat} {R : Room} {s : State} {args : Array Value} {own : String} (hts : ∀ w ∈ lw_all, w.before args s = true) (hY : ab_YK Y' np) (hl : Cond.methodLink own idx Y'.1 ∈ lw_all) (h1 : d' + 1 ≤ R.frames) (h2 : 64 * d' + 19 + Y'.2.2.1 ≤ R.locals) : CallB R s args own idx Y'.1 Y'.2.1 Y'.2.2.1 Y'.2.2.2 (ab_cw Y' :: lw_all) (ab_rm d' mc ms) mc ms np := by
  refine ⟨rfl, rfl, h1, by show 8 + (Y'.2.2.1 + 11) + 64 * d' ≤ _; omega, pay_in hts (ab_goods hY.1), List.mem_cons_self, hts _ hY.1, hts _ hY.2.1, hY.2.2.1, fun sig h => ?_, hts _ hl⟩
  have h2 := hY.2.2.2.1
  rw [h] at h2
  exact (Option.some.inj h2).symm
section AC
variable {G : ab_G} {Y : ab_Y} {R : Room} {Z : ab_Zt} {kc ks : Nat} {h : ab_H} {pc : Nat} {ls : List (Option ab_V)} {st : List ab_V}
theorem ab_after {p : Program} {e : Env} {s : State} {m : MethodId} {args : Array Value} {below : List Frame} {meth : Method} {c : Code} {H : Heap} {locs : List Loc} {lsr : Array Slot} {mc ms : Nat} {rest : List ab_V} {a : Array Value} {Q' : Option ab_V → ab_H → Prop} {st0 : List Value}
    (Cx : ab_Cx G Y p s m args meth c) (hO : ∀ q : Nat, q ≤ ab_B G → H[q]? = s.heap[q]?) (hL : ∀ q ∈ locs, ab_B G < q.base) (hl : lv_has lsr Y.2.2.1 (ab_lo G 0 ls))
    (hr : va_Run p G.1 e R s m args below meth c H locs kc ks mc ms (F0 m pc lsr st0) (rest.map (ab_c G)) (ab_Qc G Q' a) (ab_A G))
    (kk : ∀ (r : Option ab_V) (h' : ab_H), Q' r h' → aW G Y R Z (kc + mc) (ks + ms) h' (pc + 3) ls (r.toList ++ rest)) : W p G.1 e R s m args below meth c H locs kc ks (Z below args s) (F0 m pc lsr st0) := by
  intro T hT X
  obtain ⟨v, st₀, t, T', L, h0, X', hLf, e1, e2, ⟨r, h', hv, hQ', hR', hO'⟩, hgo⟩ := hr T hT X
  have hv' : v = r.map (ab_c G) := Outcome.returned.inj hv
  subst hv'
  obtain ⟨t2, a1, b1⟩ := kk r h' hQ' p e s m args below meth c Cx T'.heap (locs ++ L) lsr (by rw [e1]; exact hR') (fun q hq => by rw [e1, hO' q hq, h0]; exact hO q hq) (fun q hq => by
    rcases List.mem_append.mp hq with h9 | h9
    · exact hL q h9
    · exact hLf q h9) hl T' rfl X'
  refine ⟨t2, hgo t2 ?_, b1⟩
  have e9 : (r.toList ++ rest).map (ab_c G) = (r.map (ab_c G)).toList ++ rest.map (ab_c G) := by
    rw [List.map_append]; cases r <;> rfl
  rw [e9] at a1
  exact a1
theorem aw_callS {d' mc ms idx : Nat} {Y' : ab_Y} {as rest : List ab_V} {Q' : Option ab_V → ab_H → Prop} (hd : decode Y.2.1 pc = .ok (.invokestatic idx, 3)) (hM : Ct G d' mc ms Y' as h Q') (hY : ab_YK Y' as.length) (hs : Cond.static Y'.1 ∈ lw_all) (hlk : Cond.methodLink Y.1.cls idx Y'.1 ∈ lw_all) (hst : st = as.reverse ++ rest) (hw : rest.length ≤ 4) (h1 : d' + 1 ≤ R.frames) (h2 : 64 * d' + 19 + Y'.2.2.1 ≤ R.locals) (h3 : kc + mc ≤ R.cells) (h4 : ks + ms ≤ R.slots)
    (kk : ∀ (r : Option ab_V) (h' : ab_H), Q' r h' → aW G Y R Z (kc + mc) (ks + ms) h' (pc + 3) ls (r.toList ++ rest)) : aW G Y R Z kc ks h pc ls st := by
  intro p e s m args below meth c Cx H locs lsr hR hO hL hl
  have hts := Cx.2.2.2.2.2.1
  subst hst
  have hb : ab_B G < H.size := by rw [hR.2.1]; omega
  refine ab_after Cx hO hL hl (va_runS (As := as.map (ab_c G)) (Ts := lw_all) ⟨Cx.1, Cx.2.1, Cx.2.2.2.1, Cx.2.2.2.2.1, hts⟩ hM ⟨ab_callOK (G := G) hts hY hlk h1 h2, hts _ hs⟩ ⟨ab_blind, fun U hU hW => ⟨rfl, by rw [hU]; exact hR, Cx.2.2.2.2.2.2.2.2.warm hW (fun q hq => by rw [hU]; exact hO q hq) (by rw [hU]; exact hb)⟩⟩ rfl (by rw [List.length_map]) hl.1 (by show (as.reverse ++ rest).map _ = _; rw [List.map_append, List.map_reverse]) (by have := ab_cats (G := G) rest; show 2 * 0 + _ ≤ 8; omega) hd ⟨h3, h4⟩) kk
theorem ab_rcv {n : Nat} {I : Nat → Nat → Int} {F : Nat → Nat → Nat} {s : State} {H : Heap} {i k : Nat} {C : String} {T : u_T} {N : Nat} (hG : ab_Gl G s) (hR : ab_Rep G (n, I, F) H) (hi : 1 ≤ i ∧ i ≤ n) (hk : (ab_sh i).1 = k) (hc : ab_KC k C T N) : ∃ cellB : Cell, H[ab_ad G i]? = some cellB ∧ cellB.vm.isStatics = false ∧ s.vm.findClass C = some cellB.cls := by
  obtain ⟨cell, q1, q2, q3, q4⟩ := ab_cellO hR hi hk hc
  obtain ⟨hS, hfc, -⟩ := hG.1.1 k _ hc.2.1
  exact ⟨cell, q1, by rw [q3]; rfl, by rw [q2]; exact hfc⟩
theorem aw_callV {d' mc ms idx b k : Nat} {C : String} {T : u_T} {N : Nat} {Y' : ab_Y} {as rest : List ab_V} {Q' : Option ab_V → ab_H → Prop} (hd : decode Y.2.1 pc = .ok (.invokevirtual idx, 3)) (hM : Ct G d' mc ms Y' (ab_r b :: as) h Q') (hi : 1 ≤ b ∧ b ≤ h.1) (hk : (ab_sh b).1 = k) (hc : ab_KC k C T N) (hC : Y'.1.cls = C) (hY : ab_YK Y' as.length) (hin : Cond.instanceMethod Y'.1 ∈ lw_all) (hse : Cond.selects Y'.1.cls Y'.1 Y'.1 ∈ lw_all) (hlk : Cond.methodLink Y.1.cls idx Y'.1 ∈ lw_all) (hst : st = as.reverse ++ ab_r b :: rest) (hw : rest.length ≤ 4) (h1 : d' + 1 ≤ R.frames) (h2 : 64 * d' + 19 + Y'.2.2.1 ≤ R.locals) (h3 : kc + mc ≤ R.cells) (h4 : ks + ms ≤ R.slots)
    (kk : ∀ (r : Option ab_V) (h' : ab_H), Q' r h' → aW G Y R Z (kc + mc) (ks + ms) h' (pc + 3) ls (r.toList ++ rest)) : aW G Y R Z kc ks h pc ls st := by
  intro p e s m args below meth c Cx H locs lsr hR hO hL hl
  have hts := Cx.2.2.2.2.2.1
  subst hst
  have hb : ab_B G < H.size := by rw [hR.2.1]; omega
  have hG := Cx.2.2.2.2.2.2.2.2
  have e0 : ab_c G (ab_r b) = .ref (ab_ad G b) := aw_rv (by omega)
  subst hC
  refine ab_after Cx hO hL hl (va_runV (C := Y'.1.cls) (b := ab_ad G b) (As := as.map (ab_c G)) (Ts := lw_all) ⟨Cx.1, Cx.2.1, Cx.2.2.2.1, Cx.2.2.2.2.1, hts⟩ hM ⟨ab_callOK (G := G) hts hY hlk h1 h2, hts _ hin, hts _ hse⟩ ⟨ab_blind, ab_rcv (n := h.1) (I := h.2.1) (F := h.2.2) hG hR hi hk hc, fun U hU hW => ⟨by rw [List.map_cons, e0], by rw [hU]; exact hR, hG.warm hW (fun q hq => by rw [hU]; exact hO q hq) (by rw [hU]; exact hb)⟩⟩ rfl (by rw [List.length_map]) hl.1 (by show (as.reverse ++ ab_r b :: rest).map _ = _; rw [List.map_append, List.map_reverse, List.map_cons, e0]) (by have := ab_cats (G := G) rest; show 2 * 0 + _ ≤ 8; omega) hd ⟨h3, h4⟩) kk
theorem aw_callI {d' mc ms idx b : Nat} {Y' : ab_Y} {as rest : List ab_V} {Q' : Option ab_V → ab_H → Prop} (hd : decode Y.2.1 pc = .ok (.invokespecial idx, 3)) (hM : Ct G d' mc ms Y' (ab_r b :: as) h Q') (hb0 : ¬ b = 0) (hnm : Y'.1.name = "<init>") (hret : Y'.2.2.2 = none) (hY : ab_YK Y' as.length) (hin : Cond.instanceMethod Y'.1 ∈ lw_all) (hlk : Cond.methodLink Y.1.cls idx Y'.1 ∈ lw_all) (hst : st = as.reverse ++ ab_r b :: rest) (hw : rest.length ≤ 4) (h1 : d' + 1 ≤ R.frames) (h2 : 64 * d' + 19 + Y'.2.2.1 ≤ R.locals) (h3 : kc + mc ≤ R.cells) (h4 : ks + ms ≤ R.slots)
    (kk : ∀ (r : Option ab_V) (h' : ab_H), Q' r h' → aW G Y R Z (kc + mc) (ks + ms) h' (pc + 3) ls (r.toList ++ rest)) : aW G Y R Z kc ks h pc ls st := by
  intro p e s m args below meth c Cx H locs lsr hR hO hL hl
  have hts := Cx.2.2.2.2.2.1
  subst hst
  have hb : ab_B G < H.size := by rw [hR.2.1]; omega
  have hG := Cx.2.2.2.2.2.2.2.2
  have e0 : ab_c G (ab_r b) = .ref (ab_ad G b) := aw_rv hb0
  have hcb := ab_callOK (G := G) (R := R) (args := args) (mc := mc) (ms := ms) (d' := d') hts hY hlk h1 h2
  rw [hret] at hcb
  refine ab_after Cx hO hL hl (va_runI (b := ab_ad G b) (As := as.map (ab_c G)) (Ts := lw_all) ⟨Cx.1, Cx.2.1, Cx.2.2.2.1, Cx.2.2.2.2.1, hts⟩ hM ⟨hcb, hnm, hts _ hin⟩ ⟨ab_blind, fun U hU hW => ⟨by rw [List.map_cons, e0], by rw [hU]; exact hR, hG.warm hW (fun q hq => by rw [hU]; exact hO q hq) (by rw [hU]; exact hb)⟩⟩ rfl (by rw [List.length_map]) hl.1 (by show (as.reverse ++ ab_r b :: rest).map _ = _; rw [List.map_append, List.map_reverse, List.map_cons, e0]) (by have := ab_cats (G := G) rest; show 2 * 0 + _ ≤ 8; omega) hd ⟨h3, h4⟩) kk
theorem aw_callIN {d' mc ms idx b : Nat} {host : String} {Y' : ab_Y} {as rest : List ab_V} {Q' : Option ab_V → ab_H → Prop} (hd : decode Y.2.1 pc = .ok (.invokespecial idx, 3)) (hM : Ct G d' mc ms Y' (ab_r b :: as) h Q') (hb0 : ¬ b = 0) (hnm : Y'.1.name = "<init>") (hret : Y'.2.2.2 = none) (hY : ab_YK Y' as.length) (hin : Cond.instanceMethod Y'.1 ∈ lw_all) (hlk : Cond.methodLinkNest Y.1.cls idx Y'.1 host ∈ lw_nest) (hst : st = as.reverse ++ ab_r b :: rest) (hw : rest.length ≤ 4) (h1 : d' + 1 ≤ R.frames) (h2 : 64 * d' + 19 + Y'.2.2.1 ≤ R.locals) (h3 : kc + mc ≤ R.cells) (h4 : ks + ms ≤ R.slots)
    (kk : ∀ (r : Option ab_V) (h' : ab_H), Q' r h' → aW G Y R Z (kc + mc) (ks + ms) h' (pc + 3) ls (r.toList ++ rest)) : aW G Y R Z kc ks h pc ls st := by
  intro p e s m args below meth c Cx H locs lsr hR hO hL hl
  have hts := Cx.2.2.2.2.2.1
  subst hst
  have hb : ab_B G < H.size := by rw [hR.2.1]; omega
  have hG := Cx.2.2.2.2.2.2.2.2
  have e0 : ab_c G (ab_r b) = .ref (ab_ad G b) := aw_rv hb0
  have hcb : va_CN R s args Y.1.cls idx Y'.1 host Y'.2.1 Y'.2.2.1 Y'.2.2.2 (ab_cw Y' :: lw_all) (ab_rm d' mc ms) mc ms as.length := by
    refine ⟨⟨rfl, rfl, h1, by show 8 + (Y'.2.2.1 + 11) + 64 * d' ≤ _; omega, pay_in hts (ab_goods hY.1), List.mem_cons_self⟩, hts _ hY.1, hts _ hY.2.1, hY.2.2.1, fun sig h => ?_, (hG.2.2.2.2 _ hlk).use rfl⟩
    have h2 := hY.2.2.2.1
    rw [h] at h2
    exact (Option.some.inj h2).symm
  rw [hret] at hcb
  refine ab_after Cx hO hL hl (va_runIN (b := ab_ad G b) (As := as.map (ab_c G)) (Ts := lw_all) ⟨Cx.1, Cx.2.1, Cx.2.2.2.1, Cx.2.2.2.2.1, hts⟩ hM ⟨hcb, hnm, hts _ hin⟩ ⟨ab_blind, fun U hU hW => ⟨by rw [List.map_cons, e0], by rw [hU]; exact hR, hG.warm hW (fun q hq => by rw [hU]; exact hO q hq) (by rw [hU]; exact hb)⟩⟩ rfl (by rw [List.length_map]) hl.1 (by show (as.reverse ++ ab_r b :: rest).map _ = _; rw [List.map_append, List.map_reverse, List.map_cons, e0]) (by have := ab_cats (G := G) rest; show 2 * 0 + _ ≤ 8; omega) hd ⟨h3, h4⟩) kk
-- returns
theorem ab_end {Q : Option ab_V → ab_H → Prop} {s t : State} {H : Heap} {args : Array Value} {r : Option ab_V} (hR : ab_Rep G h H) (hO : ∀ q : Nat, q ≤ ab_B G → H[q]? = s.heap[q]?) (hq : Q r h) (ht : t.heap = H) : ab_Qc G Q args s (.returned (r.map (ab_c G))) t :=
  ⟨r, h, rfl, hq, by rw [ht]; exact hR, fun q h9 => by rw [ht]; exact hO q h9⟩
theorem aw_ireturn {Q : Option ab_V → ab_H → Prop} {z : Int} (hd : decode Y.2.1 pc = .ok (.ireturn, 1)) (hr : Y.2.2.2 = some .int) (hq : Q (some (ab_i z)) h) : aW G Y R (ab_Z G Q kc ks) kc ks h pc ls [ab_i z] := by
  intro p e s m args below meth c Cx H locs lsr hR hO hL hl
  exact W.iret Cx.1 Cx.2.1 (Cx.2.2.1.trans hr) (fun t ht hW => ab_end (r := some (ab_i z)) hR hO hq ht) hL hd Cx.2.2.2.2.2.2.1
theorem aw_zreturn {Q : Option ab_V → ab_H → Prop} {z : Int} {ty : FieldType} (hd : decode Y.2.1 pc = .ok (.ireturn, 1)) (hr : Y.2.2.2 = some ty) (hn : narrow ty (.int (Int32.ofInt z)) = .int (Int32.ofInt z)) (hq : Q (some (ab_i z)) h) : aW G Y R (ab_Z G Q kc ks) kc ks h pc ls [ab_i z] := by
  intro p e s m args below meth c Cx H locs lsr hR hO hL hl
  exact W.zret Cx.1 Cx.2.1 (Cx.2.2.1.trans hr) hn (fun t ht hW => ab_end (r := some (ab_i z)) hR hO hq ht) hL hd Cx.2.2.2.2.2.2.1
theorem aw_breturn {Q : Option ab_V → ab_H → Prop} {z : Int} (hd : decode Y.2.1 pc = .ok (.ireturn, 1)) (hr : Y.2.2.2 = some .boolean) (hz : z = 0 ∨ z = 1) (hq : Q (some (ab_i z)) h) : aW G Y R (ab_Z G Q kc ks) kc ks h pc ls [ab_i z] :=
  aw_zreturn hd hr (by rcases hz with rfl | rfl <;> rfl) hq
theorem aw_lreturn {Q : Option ab_V → ab_H → Prop} {z : Int} (hd : decode Y.2.1 pc = .ok (.lreturn, 1)) (hr : Y.2.2.2 = some .long) (hq : Q (some (ab_l z)) h) : aW G Y R (ab_Z G Q kc ks) kc ks h pc ls [ab_l z] := by
  intro p e s m args below meth c Cx H locs lsr hR hO hL hl
  exact W.lret Cx.1 Cx.2.1 (Cx.2.2.1.trans hr) (fun t ht hW => ab_end (r := some (ab_l z)) hR hO hq ht) hL hd Cx.2.2.2.2.2.2.1
theorem aw_return {Q : Option ab_V → ab_H → Prop} (hd : decode Y.2.1 pc = .ok (.return_, 1)) (hr : Y.2.2.2 = none) (hq : Q none h) : aW G Y R (ab_Z G Q kc ks) kc ks h pc ls [] := by
  intro p e s m args below meth c Cx H locs lsr hR hO hL hl
  exact W.vret Cx.1 Cx.2.1 (Cx.2.2.1.trans hr) (fun t ht hW => ab_end (r := none) hR hO hq ht) hL hd Cx.2.2.2.2.2.2.1
-- statics, old arrays
theorem ab_vaS {s : State} {H : Heap} {locs : List Loc} (hR : ab_Rep G h H) (hG : ab_Gl G s) (hs : s.heap.size ≤ H.size) (hO : ∀ q : Nat, q ≤ ab_B G → H[q]? = s.heap[q]?) (hL : ∀ q ∈ locs, ab_B G < q.base) : va_S (ab_A G) s.heap H locs :=
  ⟨hs, fun q _ hq => hO q (Nat.not_lt.mp hq), hL⟩
end AC
