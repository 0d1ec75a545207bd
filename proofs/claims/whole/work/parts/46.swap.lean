set_option maxHeartbeats 4000000 in
set_option maxRecDepth 100000 in
theorem ct_ntz (G : ab_G) (h0 : ab_H) (m : Nat) (hm : m ≠ 0) (hm2 : m < 256) : Ct G 0 0 0 YJ6_numberOfTrailingZeros_0f7a4 [ab_i (m : Int)] h0 (fun r h => r = some (ab_i (tz8 m : Int)) ∧ h = h0) := by
  refine Ct.ofW kJ6_numberOfTrailingZeros_0f7a4 (ls := [some (ab_i (m : Int)), none]) (Nat.le_of_ble_eq_true rfl) rfl ?_
  obtain ⟨h1, h2, _⟩ := tz_all ⟨m, hm2⟩ hm
  simp only [] at h1 h2
  generalize tz8 m = z at h1 h2 ⊢
  rcases (show z = 0 ∨ z = 1 ∨ z = 2 ∨ z = 3 ∨ z = 4 ∨ z = 5 ∨ z = 6 ∨ z = 7 by omega) with rfl | rfl | rfl | rfl | rfl | rfl | rfl | rfl
  · refine aw_iload_n dJ6_numberOfTrailingZeros_0f7a4_0 rfl ?_
    refine aw_iconst dJ6_numberOfTrailingZeros_0f7a4_1 ?_
    refine aw_ixor dJ6_numberOfTrailingZeros_0f7a4_2 ?_
    refine aw_iload_n dJ6_numberOfTrailingZeros_0f7a4_3 rfl ?_
    refine aw_iconst dJ6_numberOfTrailingZeros_0f7a4_4 ?_
    refine aw_isub dJ6_numberOfTrailingZeros_0f7a4_5 ?_
    refine aw_iand dJ6_numberOfTrailingZeros_0f7a4_6 ?_
    refine aw_to (z := 0) (h1.trans rfl) ?_
    refine aw_istore_n (ls' := [some (ab_i 0), none]) dJ6_numberOfTrailingZeros_0f7a4_7 (by decide) rfl ?_
    refine aw_iload_n dJ6_numberOfTrailingZeros_0f7a4_8 rfl ?_
    refine aw_if_gt (tgt := 17) dJ6_numberOfTrailingZeros_0f7a4_9 rfl ⟨by decide, by decide⟩ (fun c9 => absurd c9 (by decide)) (fun _ => ?_)
    refine aw_iload_n dJ6_numberOfTrailingZeros_0f7a4_12 rfl ?_
    refine aw_bipush dJ6_numberOfTrailingZeros_0f7a4_13 rfl ?_
    refine aw_iand dJ6_numberOfTrailingZeros_0f7a4_15 ?_
    refine aw_to (z := 0) (by decide) ?_
    refine aw_ireturn dJ6_numberOfTrailingZeros_0f7a4_16 rfl ?_
    exact ⟨rfl, rfl⟩
  · refine aw_iload_n dJ6_numberOfTrailingZeros_0f7a4_0 rfl ?_
    refine aw_iconst dJ6_numberOfTrailingZeros_0f7a4_1 ?_
    refine aw_ixor dJ6_numberOfTrailingZeros_0f7a4_2 ?_
    refine aw_iload_n dJ6_numberOfTrailingZeros_0f7a4_3 rfl ?_
    refine aw_iconst dJ6_numberOfTrailingZeros_0f7a4_4 ?_
    refine aw_isub dJ6_numberOfTrailingZeros_0f7a4_5 ?_
    refine aw_iand dJ6_numberOfTrailingZeros_0f7a4_6 ?_
    refine aw_to (z := 1) (h1.trans rfl) ?_
    refine aw_istore_n (ls' := [some (ab_i 1), none]) dJ6_numberOfTrailingZeros_0f7a4_7 (by decide) rfl ?_
    refine aw_iload_n dJ6_numberOfTrailingZeros_0f7a4_8 rfl ?_
    refine aw_if_gt (tgt := 17) dJ6_numberOfTrailingZeros_0f7a4_9 rfl ⟨by decide, by decide⟩ (fun _ => ?_) (fun c9 => absurd (by decide) c9)
    refine aw_iconst dJ6_numberOfTrailingZeros_0f7a4_17 ?_
    refine aw_istore_n (ls' := [some (ab_i 1), some (ab_i 1)]) dJ6_numberOfTrailingZeros_0f7a4_18 (by decide) rfl ?_
    refine aw_iload_n dJ6_numberOfTrailingZeros_0f7a4_19 rfl ?_
    refine aw_ldcw (z := 65536) dJ6_numberOfTrailingZeros_0f7a4_20 nJ6_264 ?_
    refine aw_icmp_le (tgt := 34) dJ6_numberOfTrailingZeros_0f7a4_23 rfl ⟨by decide, by decide⟩ ⟨by decide, by decide⟩ (fun _ => ?_) (fun c9 => absurd (by decide) c9)
    refine aw_iload_n dJ6_numberOfTrailingZeros_0f7a4_34 rfl ?_
    refine aw_sipush dJ6_numberOfTrailingZeros_0f7a4_35 rfl ?_
    refine aw_icmp_le (tgt := 49) dJ6_numberOfTrailingZeros_0f7a4_38 rfl ⟨by decide, by decide⟩ ⟨by decide, by decide⟩ (fun _ => ?_) (fun c9 => absurd (by decide) c9)
    refine aw_iload_n dJ6_numberOfTrailingZeros_0f7a4_49 rfl ?_
    refine aw_bipush dJ6_numberOfTrailingZeros_0f7a4_50 rfl ?_
    refine aw_icmp_le (tgt := 62) dJ6_numberOfTrailingZeros_0f7a4_52 rfl ⟨by decide, by decide⟩ ⟨by decide, by decide⟩ (fun _ => ?_) (fun c9 => absurd (by decide) c9)
    refine aw_iload_n dJ6_numberOfTrailingZeros_0f7a4_62 rfl ?_
    refine aw_iconst dJ6_numberOfTrailingZeros_0f7a4_63 ?_
    refine aw_icmp_le (tgt := 74) dJ6_numberOfTrailingZeros_0f7a4_64 rfl ⟨by decide, by decide⟩ ⟨by decide, by decide⟩ (fun _ => ?_) (fun c9 => absurd (by decide) c9)
    refine aw_iload_n dJ6_numberOfTrailingZeros_0f7a4_74 rfl ?_
    refine aw_iload_n dJ6_numberOfTrailingZeros_0f7a4_75 rfl ?_
    refine aw_iconst dJ6_numberOfTrailingZeros_0f7a4_76 ?_
    refine aw_iushr dJ6_numberOfTrailingZeros_0f7a4_77 ?_
    refine aw_to (z := 0) (by decide) ?_
    refine aw_iadd dJ6_numberOfTrailingZeros_0f7a4_78 ?_
    refine aw_ireturn dJ6_numberOfTrailingZeros_0f7a4_79 rfl ?_
    exact ⟨rfl, rfl⟩
  · refine aw_iload_n dJ6_numberOfTrailingZeros_0f7a4_0 rfl ?_
    refine aw_iconst dJ6_numberOfTrailingZeros_0f7a4_1 ?_
    refine aw_ixor dJ6_numberOfTrailingZeros_0f7a4_2 ?_
    refine aw_iload_n dJ6_numberOfTrailingZeros_0f7a4_3 rfl ?_
    refine aw_iconst dJ6_numberOfTrailingZeros_0f7a4_4 ?_
    refine aw_isub dJ6_numberOfTrailingZeros_0f7a4_5 ?_
    refine aw_iand dJ6_numberOfTrailingZeros_0f7a4_6 ?_
    refine aw_to (z := 3) (h1.trans rfl) ?_
    refine aw_istore_n (ls' := [some (ab_i 3), none]) dJ6_numberOfTrailingZeros_0f7a4_7 (by decide) rfl ?_
    refine aw_iload_n dJ6_numberOfTrailingZeros_0f7a4_8 rfl ?_
    refine aw_if_gt (tgt := 17) dJ6_numberOfTrailingZeros_0f7a4_9 rfl ⟨by decide, by decide⟩ (fun _ => ?_) (fun c9 => absurd (by decide) c9)
    refine aw_iconst dJ6_numberOfTrailingZeros_0f7a4_17 ?_
    refine aw_istore_n (ls' := [some (ab_i 3), some (ab_i 1)]) dJ6_numberOfTrailingZeros_0f7a4_18 (by decide) rfl ?_
    refine aw_iload_n dJ6_numberOfTrailingZeros_0f7a4_19 rfl ?_
    refine aw_ldcw (z := 65536) dJ6_numberOfTrailingZeros_0f7a4_20 nJ6_264 ?_
    refine aw_icmp_le (tgt := 34) dJ6_numberOfTrailingZeros_0f7a4_23 rfl ⟨by decide, by decide⟩ ⟨by decide, by decide⟩ (fun _ => ?_) (fun c9 => absurd (by decide) c9)
    refine aw_iload_n dJ6_numberOfTrailingZeros_0f7a4_34 rfl ?_
    refine aw_sipush dJ6_numberOfTrailingZeros_0f7a4_35 rfl ?_
    refine aw_icmp_le (tgt := 49) dJ6_numberOfTrailingZeros_0f7a4_38 rfl ⟨by decide, by decide⟩ ⟨by decide, by decide⟩ (fun _ => ?_) (fun c9 => absurd (by decide) c9)
    refine aw_iload_n dJ6_numberOfTrailingZeros_0f7a4_49 rfl ?_
    refine aw_bipush dJ6_numberOfTrailingZeros_0f7a4_50 rfl ?_
    refine aw_icmp_le (tgt := 62) dJ6_numberOfTrailingZeros_0f7a4_52 rfl ⟨by decide, by decide⟩ ⟨by decide, by decide⟩ (fun _ => ?_) (fun c9 => absurd (by decide) c9)
    refine aw_iload_n dJ6_numberOfTrailingZeros_0f7a4_62 rfl ?_
    refine aw_iconst dJ6_numberOfTrailingZeros_0f7a4_63 ?_
    refine aw_icmp_le (tgt := 74) dJ6_numberOfTrailingZeros_0f7a4_64 rfl ⟨by decide, by decide⟩ ⟨by decide, by decide⟩ (fun _ => ?_) (fun c9 => absurd (by decide) c9)
    refine aw_iload_n dJ6_numberOfTrailingZeros_0f7a4_74 rfl ?_
    refine aw_iload_n dJ6_numberOfTrailingZeros_0f7a4_75 rfl ?_
    refine aw_iconst dJ6_numberOfTrailingZeros_0f7a4_76 ?_
    refine aw_iushr dJ6_numberOfTrailingZeros_0f7a4_77 ?_
    refine aw_to (z := 1) (by decide) ?_
    refine aw_iadd dJ6_numberOfTrailingZeros_0f7a4_78 ?_
    refine aw_ireturn dJ6_numberOfTrailingZeros_0f7a4_79 rfl ?_
    exact ⟨rfl, rfl⟩
  · refine aw_iload_n dJ6_numberOfTrailingZeros_0f7a4_0 rfl ?_
    refine aw_iconst dJ6_numberOfTrailingZeros_0f7a4_1 ?_
    refine aw_ixor dJ6_numberOfTrailingZeros_0f7a4_2 ?_
    refine aw_iload_n dJ6_numberOfTrailingZeros_0f7a4_3 rfl ?_
    refine aw_iconst dJ6_numberOfTrailingZeros_0f7a4_4 ?_
    refine aw_isub dJ6_numberOfTrailingZeros_0f7a4_5 ?_
    refine aw_iand dJ6_numberOfTrailingZeros_0f7a4_6 ?_
    refine aw_to (z := 7) (h1.trans rfl) ?_
    refine aw_istore_n (ls' := [some (ab_i 7), none]) dJ6_numberOfTrailingZeros_0f7a4_7 (by decide) rfl ?_
    refine aw_iload_n dJ6_numberOfTrailingZeros_0f7a4_8 rfl ?_
    refine aw_if_gt (tgt := 17) dJ6_numberOfTrailingZeros_0f7a4_9 rfl ⟨by decide, by decide⟩ (fun _ => ?_) (fun c9 => absurd (by decide) c9)
    refine aw_iconst dJ6_numberOfTrailingZeros_0f7a4_17 ?_
    refine aw_istore_n (ls' := [some (ab_i 7), some (ab_i 1)]) dJ6_numberOfTrailingZeros_0f7a4_18 (by decide) rfl ?_
    refine aw_iload_n dJ6_numberOfTrailingZeros_0f7a4_19 rfl ?_
    refine aw_ldcw (z := 65536) dJ6_numberOfTrailingZeros_0f7a4_20 nJ6_264 ?_
    refine aw_icmp_le (tgt := 34) dJ6_numberOfTrailingZeros_0f7a4_23 rfl ⟨by decide, by decide⟩ ⟨by decide, by decide⟩ (fun _ => ?_) (fun c9 => absurd (by decide) c9)
    refine aw_iload_n dJ6_numberOfTrailingZeros_0f7a4_34 rfl ?_
    refine aw_sipush dJ6_numberOfTrailingZeros_0f7a4_35 rfl ?_
    refine aw_icmp_le (tgt := 49) dJ6_numberOfTrailingZeros_0f7a4_38 rfl ⟨by decide, by decide⟩ ⟨by decide, by decide⟩ (fun _ => ?_) (fun c9 => absurd (by decide) c9)
    refine aw_iload_n dJ6_numberOfTrailingZeros_0f7a4_49 rfl ?_
    refine aw_bipush dJ6_numberOfTrailingZeros_0f7a4_50 rfl ?_
    refine aw_icmp_le (tgt := 62) dJ6_numberOfTrailingZeros_0f7a4_52 rfl ⟨by decide, by decide⟩ ⟨by decide, by decide⟩ (fun _ => ?_) (fun c9 => absurd (by decide) c9)
    refine aw_iload_n dJ6_numberOfTrailingZeros_0f7a4_62 rfl ?_
    refine aw_iconst dJ6_numberOfTrailingZeros_0f7a4_63 ?_
    refine aw_icmp_le (tgt := 74) dJ6_numberOfTrailingZeros_0f7a4_64 rfl ⟨by decide, by decide⟩ ⟨by decide, by decide⟩ (fun c9 => absurd c9 (by decide)) (fun _ => ?_)
    refine aw_iinc (ls' := [some (ab_i 7), some (ab_i 3)]) dJ6_numberOfTrailingZeros_0f7a4_67 (by decide) rfl rfl ?_
    refine aw_iload_n dJ6_numberOfTrailingZeros_0f7a4_70 rfl ?_
    refine aw_iconst dJ6_numberOfTrailingZeros_0f7a4_71 ?_
    refine aw_iushr dJ6_numberOfTrailingZeros_0f7a4_72 ?_
    refine aw_to (z := 1) (by decide) ?_
    refine aw_istore_n (ls' := [some (ab_i 1), some (ab_i 3)]) dJ6_numberOfTrailingZeros_0f7a4_73 (by decide) rfl ?_
    refine aw_iload_n dJ6_numberOfTrailingZeros_0f7a4_74 rfl ?_
    refine aw_iload_n dJ6_numberOfTrailingZeros_0f7a4_75 rfl ?_
    refine aw_iconst dJ6_numberOfTrailingZeros_0f7a4_76 ?_
    refine aw_iushr dJ6_numberOfTrailingZeros_0f7a4_77 ?_
    refine aw_to (z := 0) (by decide) ?_
    refine aw_iadd dJ6_numberOfTrailingZeros_0f7a4_78 ?_
    refine aw_ireturn dJ6_numberOfTrailingZeros_0f7a4_79 rfl ?_
    exact ⟨rfl, rfl⟩
  · refine aw_iload_n dJ6_numberOfTrailingZeros_0f7a4_0 rfl ?_
    refine aw_iconst dJ6_numberOfTrailingZeros_0f7a4_1 ?_
    refine aw_ixor dJ6_numberOfTrailingZeros_0f7a4_2 ?_
    refine aw_iload_n dJ6_numberOfTrailingZeros_0f7a4_3 rfl ?_
    refine aw_iconst dJ6_numberOfTrailingZeros_0f7a4_4 ?_
    refine aw_isub dJ6_numberOfTrailingZeros_0f7a4_5 ?_
    refine aw_iand dJ6_numberOfTrailingZeros_0f7a4_6 ?_
    refine aw_to (z := 15) (h1.trans rfl) ?_
    refine aw_istore_n (ls' := [some (ab_i 15), none]) dJ6_numberOfTrailingZeros_0f7a4_7 (by decide) rfl ?_
    refine aw_iload_n dJ6_numberOfTrailingZeros_0f7a4_8 rfl ?_
    refine aw_if_gt (tgt := 17) dJ6_numberOfTrailingZeros_0f7a4_9 rfl ⟨by decide, by decide⟩ (fun _ => ?_) (fun c9 => absurd (by decide) c9)
    refine aw_iconst dJ6_numberOfTrailingZeros_0f7a4_17 ?_
    refine aw_istore_n (ls' := [some (ab_i 15), some (ab_i 1)]) dJ6_numberOfTrailingZeros_0f7a4_18 (by decide) rfl ?_
    refine aw_iload_n dJ6_numberOfTrailingZeros_0f7a4_19 rfl ?_
    refine aw_ldcw (z := 65536) dJ6_numberOfTrailingZeros_0f7a4_20 nJ6_264 ?_
    refine aw_icmp_le (tgt := 34) dJ6_numberOfTrailingZeros_0f7a4_23 rfl ⟨by decide, by decide⟩ ⟨by decide, by decide⟩ (fun _ => ?_) (fun c9 => absurd (by decide) c9)
    refine aw_iload_n dJ6_numberOfTrailingZeros_0f7a4_34 rfl ?_
    refine aw_sipush dJ6_numberOfTrailingZeros_0f7a4_35 rfl ?_
    refine aw_icmp_le (tgt := 49) dJ6_numberOfTrailingZeros_0f7a4_38 rfl ⟨by decide, by decide⟩ ⟨by decide, by decide⟩ (fun _ => ?_) (fun c9 => absurd (by decide) c9)
    refine aw_iload_n dJ6_numberOfTrailingZeros_0f7a4_49 rfl ?_
    refine aw_bipush dJ6_numberOfTrailingZeros_0f7a4_50 rfl ?_
    refine aw_icmp_le (tgt := 62) dJ6_numberOfTrailingZeros_0f7a4_52 rfl ⟨by decide, by decide⟩ ⟨by decide, by decide⟩ (fun _ => ?_) (fun c9 => absurd (by decide) c9)
    refine aw_iload_n dJ6_numberOfTrailingZeros_0f7a4_62 rfl ?_
    refine aw_iconst dJ6_numberOfTrailingZeros_0f7a4_63 ?_
    refine aw_icmp_le (tgt := 74) dJ6_numberOfTrailingZeros_0f7a4_64 rfl ⟨by decide, by decide⟩ ⟨by decide, by decide⟩ (fun c9 => absurd c9 (by decide)) (fun _ => ?_)
    refine aw_iinc (ls' := [some (ab_i 15), some (ab_i 3)]) dJ6_numberOfTrailingZeros_0f7a4_67 (by decide) rfl rfl ?_
    refine aw_iload_n dJ6_numberOfTrailingZeros_0f7a4_70 rfl ?_
    refine aw_iconst dJ6_numberOfTrailingZeros_0f7a4_71 ?_
    refine aw_iushr dJ6_numberOfTrailingZeros_0f7a4_72 ?_
    refine aw_to (z := 3) (by decide) ?_
    refine aw_istore_n (ls' := [some (ab_i 3), some (ab_i 3)]) dJ6_numberOfTrailingZeros_0f7a4_73 (by decide) rfl ?_
    refine aw_iload_n dJ6_numberOfTrailingZeros_0f7a4_74 rfl ?_
    refine aw_iload_n dJ6_numberOfTrailingZeros_0f7a4_75 rfl ?_
    refine aw_iconst dJ6_numberOfTrailingZeros_0f7a4_76 ?_
    refine aw_iushr dJ6_numberOfTrailingZeros_0f7a4_77 ?_
    refine aw_to (z := 1) (by decide) ?_
    refine aw_iadd dJ6_numberOfTrailingZeros_0f7a4_78 ?_
    refine aw_ireturn dJ6_numberOfTrailingZeros_0f7a4_79 rfl ?_
    exact ⟨rfl, rfl⟩
  · refine aw_iload_n dJ6_numberOfTrailingZeros_0f7a4_0 rfl ?_
    refine aw_iconst dJ6_numberOfTrailingZeros_0f7a4_1 ?_
    refine aw_ixor dJ6_numberOfTrailingZeros_0f7a4_2 ?_
    refine aw_iload_n dJ6_numberOfTrailingZeros_0f7a4_3 rfl ?_
    refine aw_iconst dJ6_numberOfTrailingZeros_0f7a4_4 ?_
    refine aw_isub dJ6_numberOfTrailingZeros_0f7a4_5 ?_
    refine aw_iand dJ6_numberOfTrailingZeros_0f7a4_6 ?_
    refine aw_to (z := 31) (h1.trans rfl) ?_
    refine aw_istore_n (ls' := [some (ab_i 31), none]) dJ6_numberOfTrailingZeros_0f7a4_7 (by decide) rfl ?_
    refine aw_iload_n dJ6_numberOfTrailingZeros_0f7a4_8 rfl ?_
    refine aw_if_gt (tgt := 17) dJ6_numberOfTrailingZeros_0f7a4_9 rfl ⟨by decide, by decide⟩ (fun _ => ?_) (fun c9 => absurd (by decide) c9)
    refine aw_iconst dJ6_numberOfTrailingZeros_0f7a4_17 ?_
    refine aw_istore_n (ls' := [some (ab_i 31), some (ab_i 1)]) dJ6_numberOfTrailingZeros_0f7a4_18 (by decide) rfl ?_
    refine aw_iload_n dJ6_numberOfTrailingZeros_0f7a4_19 rfl ?_
    refine aw_ldcw (z := 65536) dJ6_numberOfTrailingZeros_0f7a4_20 nJ6_264 ?_
    refine aw_icmp_le (tgt := 34) dJ6_numberOfTrailingZeros_0f7a4_23 rfl ⟨by decide, by decide⟩ ⟨by decide, by decide⟩ (fun _ => ?_) (fun c9 => absurd (by decide) c9)
    refine aw_iload_n dJ6_numberOfTrailingZeros_0f7a4_34 rfl ?_
    refine aw_sipush dJ6_numberOfTrailingZeros_0f7a4_35 rfl ?_
    refine aw_icmp_le (tgt := 49) dJ6_numberOfTrailingZeros_0f7a4_38 rfl ⟨by decide, by decide⟩ ⟨by decide, by decide⟩ (fun _ => ?_) (fun c9 => absurd (by decide) c9)
    refine aw_iload_n dJ6_numberOfTrailingZeros_0f7a4_49 rfl ?_
    refine aw_bipush dJ6_numberOfTrailingZeros_0f7a4_50 rfl ?_
    refine aw_icmp_le (tgt := 62) dJ6_numberOfTrailingZeros_0f7a4_52 rfl ⟨by decide, by decide⟩ ⟨by decide, by decide⟩ (fun c9 => absurd c9 (by decide)) (fun _ => ?_)
    refine aw_iinc (ls' := [some (ab_i 31), some (ab_i 5)]) dJ6_numberOfTrailingZeros_0f7a4_55 (by decide) rfl rfl ?_
    refine aw_iload_n dJ6_numberOfTrailingZeros_0f7a4_58 rfl ?_
    refine aw_iconst dJ6_numberOfTrailingZeros_0f7a4_59 ?_
    refine aw_iushr dJ6_numberOfTrailingZeros_0f7a4_60 ?_
    refine aw_to (z := 1) (by decide) ?_
    refine aw_istore_n (ls' := [some (ab_i 1), some (ab_i 5)]) dJ6_numberOfTrailingZeros_0f7a4_61 (by decide) rfl ?_
    refine aw_iload_n dJ6_numberOfTrailingZeros_0f7a4_62 rfl ?_
    refine aw_iconst dJ6_numberOfTrailingZeros_0f7a4_63 ?_
    refine aw_icmp_le (tgt := 74) dJ6_numberOfTrailingZeros_0f7a4_64 rfl ⟨by decide, by decide⟩ ⟨by decide, by decide⟩ (fun _ => ?_) (fun c9 => absurd (by decide) c9)
    refine aw_iload_n dJ6_numberOfTrailingZeros_0f7a4_74 rfl ?_
    refine aw_iload_n dJ6_numberOfTrailingZeros_0f7a4_75 rfl ?_
    refine aw_iconst dJ6_numberOfTrailingZeros_0f7a4_76 ?_
    refine aw_iushr dJ6_numberOfTrailingZeros_0f7a4_77 ?_
    refine aw_to (z := 0) (by decide) ?_
    refine aw_iadd dJ6_numberOfTrailingZeros_0f7a4_78 ?_
    refine aw_ireturn dJ6_numberOfTrailingZeros_0f7a4_79 rfl ?_
    exact ⟨rfl, rfl⟩
  · refine aw_iload_n dJ6_numberOfTrailingZeros_0f7a4_0 rfl ?_
    refine aw_iconst dJ6_numberOfTrailingZeros_0f7a4_1 ?_
    refine aw_ixor dJ6_numberOfTrailingZeros_0f7a4_2 ?_
    refine aw_iload_n dJ6_numberOfTrailingZeros_0f7a4_3 rfl ?_
    refine aw_iconst dJ6_numberOfTrailingZeros_0f7a4_4 ?_
    refine aw_isub dJ6_numberOfTrailingZeros_0f7a4_5 ?_
    refine aw_iand dJ6_numberOfTrailingZeros_0f7a4_6 ?_
    refine aw_to (z := 63) (h1.trans rfl) ?_
    refine aw_istore_n (ls' := [some (ab_i 63), none]) dJ6_numberOfTrailingZeros_0f7a4_7 (by decide) rfl ?_
    refine aw_iload_n dJ6_numberOfTrailingZeros_0f7a4_8 rfl ?_
    refine aw_if_gt (tgt := 17) dJ6_numberOfTrailingZeros_0f7a4_9 rfl ⟨by decide, by decide⟩ (fun _ => ?_) (fun c9 => absurd (by decide) c9)
    refine aw_iconst dJ6_numberOfTrailingZeros_0f7a4_17 ?_
    refine aw_istore_n (ls' := [some (ab_i 63), some (ab_i 1)]) dJ6_numberOfTrailingZeros_0f7a4_18 (by decide) rfl ?_
    refine aw_iload_n dJ6_numberOfTrailingZeros_0f7a4_19 rfl ?_
    refine aw_ldcw (z := 65536) dJ6_numberOfTrailingZeros_0f7a4_20 nJ6_264 ?_
    refine aw_icmp_le (tgt := 34) dJ6_numberOfTrailingZeros_0f7a4_23 rfl ⟨by decide, by decide⟩ ⟨by decide, by decide⟩ (fun _ => ?_) (fun c9 => absurd (by decide) c9)
    refine aw_iload_n dJ6_numberOfTrailingZeros_0f7a4_34 rfl ?_
    refine aw_sipush dJ6_numberOfTrailingZeros_0f7a4_35 rfl ?_
    refine aw_icmp_le (tgt := 49) dJ6_numberOfTrailingZeros_0f7a4_38 rfl ⟨by decide, by decide⟩ ⟨by decide, by decide⟩ (fun _ => ?_) (fun c9 => absurd (by decide) c9)
    refine aw_iload_n dJ6_numberOfTrailingZeros_0f7a4_49 rfl ?_
    refine aw_bipush dJ6_numberOfTrailingZeros_0f7a4_50 rfl ?_
    refine aw_icmp_le (tgt := 62) dJ6_numberOfTrailingZeros_0f7a4_52 rfl ⟨by decide, by decide⟩ ⟨by decide, by decide⟩ (fun c9 => absurd c9 (by decide)) (fun _ => ?_)
    refine aw_iinc (ls' := [some (ab_i 63), some (ab_i 5)]) dJ6_numberOfTrailingZeros_0f7a4_55 (by decide) rfl rfl ?_
    refine aw_iload_n dJ6_numberOfTrailingZeros_0f7a4_58 rfl ?_
    refine aw_iconst dJ6_numberOfTrailingZeros_0f7a4_59 ?_
    refine aw_iushr dJ6_numberOfTrailingZeros_0f7a4_60 ?_
    refine aw_to (z := 3) (by decide) ?_
    refine aw_istore_n (ls' := [some (ab_i 3), some (ab_i 5)]) dJ6_numberOfTrailingZeros_0f7a4_61 (by decide) rfl ?_
    refine aw_iload_n dJ6_numberOfTrailingZeros_0f7a4_62 rfl ?_
    refine aw_iconst dJ6_numberOfTrailingZeros_0f7a4_63 ?_
    refine aw_icmp_le (tgt := 74) dJ6_numberOfTrailingZeros_0f7a4_64 rfl ⟨by decide, by decide⟩ ⟨by decide, by decide⟩ (fun _ => ?_) (fun c9 => absurd (by decide) c9)
    refine aw_iload_n dJ6_numberOfTrailingZeros_0f7a4_74 rfl ?_
    refine aw_iload_n dJ6_numberOfTrailingZeros_0f7a4_75 rfl ?_
    refine aw_iconst dJ6_numberOfTrailingZeros_0f7a4_76 ?_
    refine aw_iushr dJ6_numberOfTrailingZeros_0f7a4_77 ?_
    refine aw_to (z := 1) (by decide) ?_
    refine aw_iadd dJ6_numberOfTrailingZeros_0f7a4_78 ?_
    refine aw_ireturn dJ6_numberOfTrailingZeros_0f7a4_79 rfl ?_
    exact ⟨rfl, rfl⟩
  · refine aw_iload_n dJ6_numberOfTrailingZeros_0f7a4_0 rfl ?_
    refine aw_iconst dJ6_numberOfTrailingZeros_0f7a4_1 ?_
    refine aw_ixor dJ6_numberOfTrailingZeros_0f7a4_2 ?_
    refine aw_iload_n dJ6_numberOfTrailingZeros_0f7a4_3 rfl ?_
    refine aw_iconst dJ6_numberOfTrailingZeros_0f7a4_4 ?_
    refine aw_isub dJ6_numberOfTrailingZeros_0f7a4_5 ?_
    refine aw_iand dJ6_numberOfTrailingZeros_0f7a4_6 ?_
    refine aw_to (z := 127) (h1.trans rfl) ?_
    refine aw_istore_n (ls' := [some (ab_i 127), none]) dJ6_numberOfTrailingZeros_0f7a4_7 (by decide) rfl ?_
    refine aw_iload_n dJ6_numberOfTrailingZeros_0f7a4_8 rfl ?_
    refine aw_if_gt (tgt := 17) dJ6_numberOfTrailingZeros_0f7a4_9 rfl ⟨by decide, by decide⟩ (fun _ => ?_) (fun c9 => absurd (by decide) c9)
    refine aw_iconst dJ6_numberOfTrailingZeros_0f7a4_17 ?_
    refine aw_istore_n (ls' := [some (ab_i 127), some (ab_i 1)]) dJ6_numberOfTrailingZeros_0f7a4_18 (by decide) rfl ?_
    refine aw_iload_n dJ6_numberOfTrailingZeros_0f7a4_19 rfl ?_
    refine aw_ldcw (z := 65536) dJ6_numberOfTrailingZeros_0f7a4_20 nJ6_264 ?_
    refine aw_icmp_le (tgt := 34) dJ6_numberOfTrailingZeros_0f7a4_23 rfl ⟨by decide, by decide⟩ ⟨by decide, by decide⟩ (fun _ => ?_) (fun c9 => absurd (by decide) c9)
    refine aw_iload_n dJ6_numberOfTrailingZeros_0f7a4_34 rfl ?_
    refine aw_sipush dJ6_numberOfTrailingZeros_0f7a4_35 rfl ?_
    refine aw_icmp_le (tgt := 49) dJ6_numberOfTrailingZeros_0f7a4_38 rfl ⟨by decide, by decide⟩ ⟨by decide, by decide⟩ (fun _ => ?_) (fun c9 => absurd (by decide) c9)
    refine aw_iload_n dJ6_numberOfTrailingZeros_0f7a4_49 rfl ?_
    refine aw_bipush dJ6_numberOfTrailingZeros_0f7a4_50 rfl ?_
    refine aw_icmp_le (tgt := 62) dJ6_numberOfTrailingZeros_0f7a4_52 rfl ⟨by decide, by decide⟩ ⟨by decide, by decide⟩ (fun c9 => absurd c9 (by decide)) (fun _ => ?_)
    refine aw_iinc (ls' := [some (ab_i 127), some (ab_i 5)]) dJ6_numberOfTrailingZeros_0f7a4_55 (by decide) rfl rfl ?_
    refine aw_iload_n dJ6_numberOfTrailingZeros_0f7a4_58 rfl ?_
    refine aw_iconst dJ6_numberOfTrailingZeros_0f7a4_59 ?_
    refine aw_iushr dJ6_numberOfTrailingZeros_0f7a4_60 ?_
    refine aw_to (z := 7) (by decide) ?_
    refine aw_istore_n (ls' := [some (ab_i 7), some (ab_i 5)]) dJ6_numberOfTrailingZeros_0f7a4_61 (by decide) rfl ?_
    refine aw_iload_n dJ6_numberOfTrailingZeros_0f7a4_62 rfl ?_
    refine aw_iconst dJ6_numberOfTrailingZeros_0f7a4_63 ?_
    refine aw_icmp_le (tgt := 74) dJ6_numberOfTrailingZeros_0f7a4_64 rfl ⟨by decide, by decide⟩ ⟨by decide, by decide⟩ (fun c9 => absurd c9 (by decide)) (fun _ => ?_)
    refine aw_iinc (ls' := [some (ab_i 7), some (ab_i 7)]) dJ6_numberOfTrailingZeros_0f7a4_67 (by decide) rfl rfl ?_
    refine aw_iload_n dJ6_numberOfTrailingZeros_0f7a4_70 rfl ?_
    refine aw_iconst dJ6_numberOfTrailingZeros_0f7a4_71 ?_
    refine aw_iushr dJ6_numberOfTrailingZeros_0f7a4_72 ?_
    refine aw_to (z := 1) (by decide) ?_
    refine aw_istore_n (ls' := [some (ab_i 1), some (ab_i 7)]) dJ6_numberOfTrailingZeros_0f7a4_73 (by decide) rfl ?_
    refine aw_iload_n dJ6_numberOfTrailingZeros_0f7a4_74 rfl ?_
    refine aw_iload_n dJ6_numberOfTrailingZeros_0f7a4_75 rfl ?_
    refine aw_iconst dJ6_numberOfTrailingZeros_0f7a4_76 ?_
    refine aw_iushr dJ6_numberOfTrailingZeros_0f7a4_77 ?_
    refine aw_to (z := 0) (by decide) ?_
    refine aw_iadd dJ6_numberOfTrailingZeros_0f7a4_78 ?_
    refine aw_ireturn dJ6_numberOfTrailingZeros_0f7a4_79 rfl ?_
    exact ⟨rfl, rfl⟩
set_option maxHeartbeats 4000000 in
set_option maxRecDepth 100000 in
theorem ct_X8_pointedTo (G : ab_G) (I0 I : Nat → Nat → Int) (F : Nat → Nat → Nat) (hF : ab_FB F) (N : Nat) (hN : I0 76 3 = (N : Int)) (hN8 : N ≤ 8) (hh : ∀ j, j < 8 → (0 ≤ I0 77 j ∧ I0 77 j ≤ 3) ∧ (0 ≤ I0 78 j ∧ I0 78 j ≤ 3)) (hw : ∀ s k, s < 4 → k < 4 → 0 ≤ I0 (4 + s) k ∧ I0 (4 + s) k ≤ 99) (hfr : SFX I0 I) (h m : Nat) (hh9 : h < N) (hm : m < 2 ^ N) : Ct G 1 0 0 YX8_pointedTo [ab_r 79, ab_i (h : Int), ab_i (m : Int)] (104, I, F) (fun r h9 => r = some (ab_i ((spt (whX I0) N (tbS m) h) : Int)) ∧ h9 = (104, I, F)) := by
  have h256 := (bit_all ⟨N, by omega⟩).2.2
  simp only [] at h256
  refine Ct.ofW kX8_pointedTo (ls := [some (ab_r 79), some (ab_i (h : Int)), some (ab_i (m : Int)), none, none]) (Nat.le_of_ble_eq_true rfl) rfl ?_
  generalize hZ : ab_Z G (fun r h9 => r = some (ab_i ((spt (whX I0) N (tbS m) h) : Int)) ∧ h9 = (104, I, F)) 0 0 = Z
  have e76 : I 76 3 = (N : Int) := (hfr 76 3 (by decide) (by decide)).trans hN
  have hh8 : h < 8 := by omega
  have hhj := hh h hh8
  obtain ⟨s, hs0⟩ : ∃ s : Nat, I0 77 h = (s : Int) := ⟨(I0 77 h).toNat, by omega⟩
  have hs : s < 4 := by omega
  have e77 : I 77 h = (s : Int) := (hfr 77 h (by decide) (by omega)).trans hs0
  have ew : ∀ b, I (4 + s) b = I0 (4 + s) b := fun b => hfr (4 + s) b (by omega) (by omega)
  have loop : ∀ (e j b : Nat), j + e = N → b = sptc (whX I0) (tbS m) h j → aW G YX8_pointedTo (ab_rm 1 0 0) Z 0 0 (104, I, F) 5 [some (ab_r 79), some (ab_i (h : Int)), some (ab_i (m : Int)), some (ab_i (b : Int)), some (ab_i (j : Int))] [] := by
    intro e
    induction e with
    | zero =>
      intro j b hj hb
      have hjN : j = N := by omega
      subst hjN
      refine aw_iload dX8_pointedTo_5 rfl ?_
      refine aw_aload_n dX8_pointedTo_7 rfl (by decide) ?_
      refine aw_getrv (r := 76) dX8_pointedTo_8 fX8_19 ⟨Nat.le_of_ble_eq_true rfl, Nat.le_of_ble_eq_true rfl⟩ rfl rfl (hF.at 79 0 76 rfl rfl rfl) ?_
      refine aw_getiv (v := (j : Int)) dX8_pointedTo_11 fX8_23 ⟨Nat.le_of_ble_eq_true rfl, Nat.le_of_ble_eq_true rfl⟩ rfl rfl e76 ?_
      refine aw_icmp_ge (tgt := 68) dX8_pointedTo_14 rfl (by first | assumption | (unfold ab_In at *; omega)) (by first | assumption | (unfold ab_In at *; omega)) (fun c_14 => ?_) (fun c_14 => ?_)
      · refine aw_iload_n dX8_pointedTo_68 rfl ?_
        rw [← hZ]
        refine aw_ireturn dX8_pointedTo_69 rfl ?_
        exact ⟨by rw [hb]; rfl, rfl⟩
      · exfalso; omega
    | succ e ih =>
      intro j b hj hb
      have hj8 : j < 8 := by omega
      have hbN : b < N := by rw [hb]; exact sptc_lt hh9 (by omega)
      have hb8 : b < 8 := by omega
      have h1 := hh j hj8
      have h2 := hh b hb8
      obtain ⟨kj, hkj0⟩ : ∃ kj : Nat, I0 78 j = (kj : Int) := ⟨(I0 78 j).toNat, by omega⟩
      obtain ⟨kb, hkb0⟩ : ∃ kb : Nat, I0 78 b = (kb : Int) := ⟨(I0 78 b).toNat, by omega⟩
      have hkj : kj < 4 := by omega
      have hkb : kb < 4 := by omega
      have e78 : I 78 j = (kj : Int) := (hfr 78 j (by decide) (by omega)).trans hkj0
      have e78b : I 78 b = (kb : Int) := (hfr 78 b (by decide) (by omega)).trans hkb0
      have w1 := whX_at hh8 hj8 hs0 hkj0
      have w2 := whX_at hh8 hb8 hs0 hkb0
      have hw1 := hw s kj hs hkj
      have hw2 := hw s kb hs hkb
      have hbm := (bit_m ⟨m, by omega⟩ ⟨j, hj8⟩).1
      simp only [] at hbm
      by_cases hbt : m.testBit j = true
      · rw [if_pos hbt] at hbm
        refine aw_iload dX8_pointedTo_5 rfl ?_
        refine aw_aload_n dX8_pointedTo_7 rfl (by decide) ?_
        refine aw_getrv (r := 76) dX8_pointedTo_8 fX8_19 ⟨Nat.le_of_ble_eq_true rfl, Nat.le_of_ble_eq_true rfl⟩ rfl rfl (hF.at 79 0 76 rfl rfl rfl) ?_
        refine aw_getiv (v := (N : Int)) dX8_pointedTo_11 fX8_23 ⟨Nat.le_of_ble_eq_true rfl, Nat.le_of_ble_eq_true rfl⟩ rfl rfl e76 ?_
        refine aw_icmp_ge (tgt := 68) dX8_pointedTo_14 rfl (by first | assumption | (unfold ab_In at *; omega)) (by first | assumption | (unfold ab_In at *; omega)) (fun c_14 => ?_) (fun c_14 => ?_)
        · exfalso; omega
        · refine aw_iload_n dX8_pointedTo_17 rfl ?_
          refine aw_iload dX8_pointedTo_18 rfl ?_
          refine aw_ishr dX8_pointedTo_20 ?_
          refine aw_iconst dX8_pointedTo_21 ?_
          refine aw_iand dX8_pointedTo_22 ?_
          refine aw_to (z := 1) hbm ?_
          refine aw_if_ne (tgt := 29) dX8_pointedTo_23 rfl ⟨by decide, by decide⟩ (fun _ => ?_) (fun c9 => absurd c9 (by decide))
          refine aw_aload_n dX8_pointedTo_29 rfl (by decide) ?_
          refine aw_getrv (r := 76) dX8_pointedTo_30 fX8_19 ⟨Nat.le_of_ble_eq_true rfl, Nat.le_of_ble_eq_true rfl⟩ rfl rfl (hF.at 79 0 76 rfl rfl rfl) ?_
          refine aw_iload_n dX8_pointedTo_33 rfl ?_
          refine aw_aload_n dX8_pointedTo_34 rfl (by decide) ?_
          refine aw_getrv (r := 76) dX8_pointedTo_35 fX8_19 ⟨Nat.le_of_ble_eq_true rfl, Nat.le_of_ble_eq_true rfl⟩ rfl rfl (hF.at 79 0 76 rfl rfl rfl) ?_
          refine aw_getrv (r := 78) dX8_pointedTo_38 fX8_41 ⟨Nat.le_of_ble_eq_true rfl, Nat.le_of_ble_eq_true rfl⟩ rfl rfl (hF.at 76 2 78 rfl rfl rfl) ?_
          refine aw_iload dX8_pointedTo_41 rfl ?_
          refine aw_ialdq (q := j) (v := (kj : Int)) dX8_pointedTo_43 ⟨Nat.le_of_ble_eq_true rfl, Nat.le_of_ble_eq_true rfl⟩ rfl (by omega) (by omega) (by decide) rfl e78 ?_
          refine aw_aload_n dX8_pointedTo_44 rfl (by decide) ?_
          refine aw_getrv (r := 76) dX8_pointedTo_45 fX8_19 ⟨Nat.le_of_ble_eq_true rfl, Nat.le_of_ble_eq_true rfl⟩ rfl rfl (hF.at 79 0 76 rfl rfl rfl) ?_
          refine aw_getrv (r := 78) dX8_pointedTo_48 fX8_41 ⟨Nat.le_of_ble_eq_true rfl, Nat.le_of_ble_eq_true rfl⟩ rfl rfl (hF.at 76 2 78 rfl rfl rfl) ?_
          refine aw_iload_n dX8_pointedTo_51 rfl ?_
          refine aw_ialdq (q := b) (v := (kb : Int)) dX8_pointedTo_52 ⟨Nat.le_of_ble_eq_true rfl, Nat.le_of_ble_eq_true rfl⟩ rfl (by omega) (by omega) (by decide) rfl e78b ?_
          refine aw_callV (as := [ab_i (h : Int), ab_i (kj : Int), ab_i (kb : Int)]) (rest := []) dX8_pointedTo_53 (ct_X2_likesMore G I F hF h s kj kb hh8 e77 hs hkj hkb (by rw [ew]; unfold ab_In; omega) (by rw [ew]; unfold ab_In; omega)) ⟨Nat.le_of_ble_eq_true rfl, Nat.le_of_ble_eq_true rfl⟩ rfl kc2 rfl kX2_likesMore iX2_likesMore eX2_likesMore lX8_44 rfl (Nat.le_of_ble_eq_true rfl) (by decide) (by decide) (by decide) (by decide) ?_
          rintro r9 _ ⟨e9, rfl⟩
          rw [ew, ew] at e9
          by_cases q01 : I0 (4 + s) kb < I0 (4 + s) kj
          · rw [if_pos q01] at e9
            subst e9
            refine aw_if_eq (tgt := 62) dX8_pointedTo_56 rfl ⟨by decide, by decide⟩ (fun c9 => absurd c9 (by decide)) (fun _ => ?_)
            refine aw_iload dX8_pointedTo_59 rfl ?_
            refine aw_istore_n (ls' := [some (ab_r 79), some (ab_i (h : Int)), some (ab_i (m : Int)), some (ab_i (j : Int)), some (ab_i (j : Int))]) dX8_pointedTo_61 (by decide) rfl ?_
            refine aw_iinc (ls' := [some (ab_r 79), some (ab_i (h : Int)), some (ab_i (m : Int)), some (ab_i (j : Int)), some (ab_i ((j : Int) + 1))]) dX8_pointedTo_62 (by decide) rfl rfl ?_
            refine aw_goto (tgt := 5) dX8_pointedTo_65 rfl ?_
            exact ih (j + 1) j (by omega) (sptc_yes (show tbS m j = true from hbt) (by rw [← hb, w1, w2]; exact q01)).symm
          · rw [if_neg q01] at e9
            subst e9
            refine aw_if_eq (tgt := 62) dX8_pointedTo_56 rfl ⟨by decide, by decide⟩ (fun _ => ?_) (fun c9 => absurd (by decide) c9)
            refine aw_iinc (ls' := [some (ab_r 79), some (ab_i (h : Int)), some (ab_i (m : Int)), some (ab_i (b : Int)), some (ab_i ((j : Int) + 1))]) dX8_pointedTo_62 (by decide) rfl rfl ?_
            refine aw_goto (tgt := 5) dX8_pointedTo_65 rfl ?_
            exact ih (j + 1) b (by omega) (by rw [sptc_no (Or.inr (by rw [← hb, w1, w2]; exact q01))]; exact hb)
      · rw [if_neg hbt] at hbm
        have hbf : m.testBit j = false := by simpa using hbt
        refine aw_iload dX8_pointedTo_5 rfl ?_
        refine aw_aload_n dX8_pointedTo_7 rfl (by decide) ?_
        refine aw_getrv (r := 76) dX8_pointedTo_8 fX8_19 ⟨Nat.le_of_ble_eq_true rfl, Nat.le_of_ble_eq_true rfl⟩ rfl rfl (hF.at 79 0 76 rfl rfl rfl) ?_
        refine aw_getiv (v := (N : Int)) dX8_pointedTo_11 fX8_23 ⟨Nat.le_of_ble_eq_true rfl, Nat.le_of_ble_eq_true rfl⟩ rfl rfl e76 ?_
        refine aw_icmp_ge (tgt := 68) dX8_pointedTo_14 rfl (by first | assumption | (unfold ab_In at *; omega)) (by first | assumption | (unfold ab_In at *; omega)) (fun c_14 => ?_) (fun c_14 => ?_)
        · exfalso; omega
        · refine aw_iload_n dX8_pointedTo_17 rfl ?_
          refine aw_iload dX8_pointedTo_18 rfl ?_
          refine aw_ishr dX8_pointedTo_20 ?_
          refine aw_iconst dX8_pointedTo_21 ?_
          refine aw_iand dX8_pointedTo_22 ?_
          refine aw_to (z := 0) hbm ?_
          refine aw_if_ne (tgt := 29) dX8_pointedTo_23 rfl ⟨by decide, by decide⟩ (fun c9 => absurd rfl c9) (fun _ => ?_)
          refine aw_goto (tgt := 62) dX8_pointedTo_26 rfl ?_
          refine aw_iinc (ls' := [some (ab_r 79), some (ab_i (h : Int)), some (ab_i (m : Int)), some (ab_i (b : Int)), some (ab_i ((j : Int) + 1))]) dX8_pointedTo_62 (by decide) rfl rfl ?_
          refine aw_goto (tgt := 5) dX8_pointedTo_65 rfl ?_
          exact ih (j + 1) b (by omega) (by rw [sptc_no (Or.inl (show tbS m j = false from hbf))]; exact hb)
  refine aw_iload_n dX8_pointedTo_0 rfl ?_
  refine aw_istore_n (ls' := [some (ab_r 79), some (ab_i (h : Int)), some (ab_i (m : Int)), some (ab_i (h : Int)), none]) dX8_pointedTo_1 (by decide) rfl ?_
  refine aw_iconst dX8_pointedTo_2 ?_
  refine aw_istore (ls' := [some (ab_r 79), some (ab_i (h : Int)), some (ab_i (m : Int)), some (ab_i (h : Int)), some (ab_i 0)]) dX8_pointedTo_3 (by decide) rfl ?_
  exact loop N 0 h (by omega) rfl
set_option maxHeartbeats 4000000 in
set_option maxRecDepth 100000 in
theorem ct_X8_closeRing (G : ab_G) (I0 I : Nat → Nat → Int) (F : Nat → Nat → Nat) (hF : ab_FB F) (N : Nat) (hN : I0 76 3 = (N : Int)) (hN8 : N ≤ 8) (hh : ∀ j, j < 8 → (0 ≤ I0 77 j ∧ I0 77 j ≤ 3) ∧ (0 ≤ I0 78 j ∧ I0 78 j ≤ 3)) (hw : ∀ s k, s < 4 → k < 4 → 0 ≤ I0 (4 + s) k ∧ I0 (4 + s) k ≤ 99) (hfr : SFX I0 I) (m : Nat) (hm0 : m ≠ 0) (hm : m < 2 ^ N) : Ct G 2 0 0 YX8_closeRing [ab_r 79, ab_i (m : Int)] (104, I, F) (fun r h9 => ∃ (m2 : Nat) (J : Nat → Nat → Int) (C : Nat → Bool), r = some (ab_i (m2 : Int)) ∧ h9 = (104, J, F) ∧ SFX I0 J ∧ m2 < 2 ^ N ∧ pc8 m2 < pc8 m ∧ Ring (whX I0) N (tbS m) C ∧ tbS m2 = sdf (tbS m) C ∧ (∀ h, C h = true → J 80 h = ((spt (whX I0) N (tbS m)) h : Int)) ∧ (∀ h, C h = false → J 80 h = I 80 h) ∧ ((Svr C ∧ J 79 2 = I 79 2 + 1) ∨ (¬ Svr C ∧ J 79 2 = I 79 2))) := by
  have h256 := (bit_all ⟨N, by omega⟩).2.2
  simp only [] at h256
  refine Ct.ofW kX8_closeRing (ls := [some (ab_r 79), some (ab_i (m : Int)), none, none, none]) (Nat.le_of_ble_eq_true rfl) rfl ?_
  generalize hZ : ab_Z G (fun r h9 => ∃ (m2 : Nat) (J : Nat → Nat → Int) (C : Nat → Bool), r = some (ab_i (m2 : Int)) ∧ h9 = (104, J, F) ∧ SFX I0 J ∧ m2 < 2 ^ N ∧ pc8 m2 < pc8 m ∧ Ring (whX I0) N (tbS m) C ∧ tbS m2 = sdf (tbS m) C ∧ (∀ h, C h = true → J 80 h = ((spt (whX I0) N (tbS m)) h : Int)) ∧ (∀ h, C h = false → J 80 h = I 80 h) ∧ ((Svr C ∧ J 79 2 = I 79 2 + 1) ∨ (¬ Svr C ∧ J 79 2 = I 79 2))) 0 0 = Z
  obtain ⟨_, hz8, hzb⟩ := tz_all ⟨m, by omega⟩ hm0
  simp only [] at hz8 hzb
  have hzN := tb_lt hm hzb
  have hlt : ∀ k, itp (spt (whX I0) N (tbS m)) k (tz8 m) < N := fun k => itp_lt hzN k
  have hin : ∀ k, tbS m (itp (spt (whX I0) N (tbS m)) k (tz8 m)) = true := fun k => itp_in hzb k
  obtain ⟨n, hn0, hnN, hcy⟩ := itp_cyc (wh := whX I0) (S := tbS m) (N := N) hzN hN8
  generalize hye : itp (spt (whX I0) N (tbS m)) 8 (tz8 m) = y at hcy
  have hyN : y < N := by rw [← hye]; exact hlt 8
  have hyS : tbS m y = true := by rw [← hye]; exact hin 8
  have s79 : ∀ (l lf : Nat) (J : Nat → Nat → Int) (one : Int), l ≤ 8 → lf ≤ m → 0 < l → (∀ k, ∃ i, i < l ∧ itp (spt (whX I0) N (tbS m)) k y = itp (spt (whX I0) N (tbS m)) i y) → (∀ o, lf.testBit o = true ↔ m.testBit o = true ∧ vis (spt (whX I0) N (tbS m)) y l o = false) → pc8 lf + l = pc8 m → (1 < l → itp (spt (whX I0) N (tbS m)) 1 y ≠ y) → (∀ o, vis (spt (whX I0) N (tbS m)) y l o = true → J 80 o = ((spt (whX I0) N (tbS m)) o : Int)) → (∀ o, vis (spt (whX I0) N (tbS m)) y l o = false → J 80 o = I 80 o) → SFX I0 J → J 79 2 = I 79 2 → aW G YX8_closeRing (ab_rm 2 0 0) Z 0 0 (104, J, F) 79 [some (ab_r 79), some (ab_i (m : Int)), some (ab_i one), some (ab_i (lf : Int)), some (ab_i (l : Int))] [] := by
    intro l lf J one hl8 hlm hl0 hclo hbt hpc h1 hJ1 hJ2 hsf hq
    have hR : Ring (whX I0) N (tbS m) (vis (spt (whX I0) N (tbS m)) y l) := vis_ring hn0 hcy hyS hclo
    have htb : tbS lf = sdf (tbS m) (vis (spt (whX I0) N (tbS m)) y l) := tb_sdf hbt
    refine aw_iload dX8_closeRing_79 rfl ?_
    refine aw_iconst dX8_closeRing_81 ?_
    refine aw_icmp_le (tgt := 95) dX8_closeRing_82 rfl (by first | assumption | (unfold ab_In at *; omega)) (by first | assumption | (unfold ab_In at *; omega)) (fun c_82 => ?_) (fun c_82 => ?_)
    · refine aw_iload_n dX8_closeRing_95 rfl ?_
      rw [← hZ]
      refine aw_ireturn dX8_closeRing_96 rfl ?_
      exact ⟨lf, J, vis (spt (whX I0) N (tbS m)) y l, rfl, rfl, hsf, by omega, by omega, hR, htb, hJ1, hJ2, Or.inr ⟨vis_one (by omega), hq⟩⟩
    · refine aw_aload_n dX8_closeRing_85 rfl (by decide) ?_
      refine aw_dup dX8_closeRing_86 rfl ?_
      refine aw_geti dX8_closeRing_87 fX8_15 ⟨Nat.le_of_ble_eq_true rfl, Nat.le_of_ble_eq_true rfl⟩ rfl rfl ?_
      refine aw_iconst dX8_closeRing_90 ?_
      refine aw_iadd dX8_closeRing_91 ?_
      refine aw_puti dX8_closeRing_92 fX8_15 ⟨Nat.le_of_ble_eq_true rfl, Nat.le_of_ble_eq_true rfl⟩ rfl rfl ?_
      refine aw_iload_n dX8_closeRing_95 rfl ?_
      rw [← hZ]
      refine aw_ireturn dX8_closeRing_96 rfl ?_
      exact ⟨lf, _, vis (spt (whX I0) N (tbS m)) y l, rfl, rfl, fun i b q1 q2 => by rw [ab_u_o (by omega)]; exact hsf i b q1 q2, by omega, by omega, hR, htb, fun h hh => by rw [ab_u_i (by decide)]; exact hJ1 h hh, fun h hh => by rw [ab_u_i (by decide)]; exact hJ2 h hh, Or.inl ⟨vis_svr (by omega) (h1 (by omega)), by rw [ab_u_s, hq]⟩⟩
  have loop : ∀ (e l lf one : Nat) (J : Nat → Nat → Int), l + e = 8 → lf ≤ m → one = itp (spt (whX I0) N (tbS m)) l y → (∀ o, lf.testBit o = true ↔ m.testBit o = true ∧ vis (spt (whX I0) N (tbS m)) y l o = false) → pc8 lf + l = pc8 m → (1 < l → itp (spt (whX I0) N (tbS m)) 1 y ≠ y) → (∀ o, vis (spt (whX I0) N (tbS m)) y l o = true → J 80 o = ((spt (whX I0) N (tbS m)) o : Int)) → (∀ o, vis (spt (whX I0) N (tbS m)) y l o = false → J 80 o = I 80 o) → SFX I0 J → J 79 2 = I 79 2 → aW G YX8_closeRing (ab_rm 2 0 0) Z 0 0 (104, J, F) 31 [some (ab_r 79), some (ab_i (m : Int)), some (ab_i (one : Int)), some (ab_i (lf : Int)), some (ab_i (l : Int))] [] := by
    intro e
    induction e with
    | zero =>
      intro l lf one J hle hlm hone hbt hpc h1 hJ1 hJ2 hsf hq
      refine aw_iload dX8_closeRing_31 rfl ?_
      refine aw_bipush dX8_closeRing_33 rfl ?_
      refine aw_icmp_ge (tgt := 79) dX8_closeRing_35 rfl (by first | assumption | (unfold ab_In at *; omega)) (by first | assumption | (unfold ab_In at *; omega)) (fun c_35 => ?_) (fun c_35 => ?_)
      · exact s79 l lf J (one : Int) (by omega) hlm (by omega) (itp_clo2 hn0 (by omega) hcy) hbt hpc h1 hJ1 hJ2 hsf hq
      · exfalso; omega
    | succ e ih =>
      intro l lf one J hle hlm hone hbt hpc h1 hJ1 hJ2 hsf hq
      have hoN : one < N := by rw [hone]; exact itp_lt hyN l
      have hoS : m.testBit one = true := by rw [hone]; exact itp_in hyS l
      have ho8 : one < 8 := by omega
      have hbm := (bit_m ⟨lf, by omega⟩ ⟨one, ho8⟩).1
      simp only [] at hbm
      by_cases hb : lf.testBit one = true
      · rw [if_pos hb] at hbm
        have hcl := clr_all ⟨lf, by omega⟩ ⟨one, ho8⟩
        simp only [] at hcl
        have hct := fun o => clr_tb (m := lf) (h := one) (o := o) (by omega) ho8
        obtain ⟨lf2, hlf2⟩ : ∃ lf2, clrb lf one = lf2 := ⟨_, rfl⟩
        rw [hlf2] at hcl
        have hcl1 := hcl.1
        have hnv : vis (spt (whX I0) N (tbS m)) y l one = false := ((hbt one).mp hb).2
        have hvs : ∀ o, (vis (spt (whX I0) N (tbS m)) y (l + 1) o = true ↔ vis (spt (whX I0) N (tbS m)) y l o = true ∨ one = o) := fun o => by
          rw [vis_true, vis_true]
          constructor
          · rintro ⟨i, hi, he⟩
            by_cases q : i = l
            · right; rw [hone, ← q]; exact he
            · left; exact ⟨i, by omega, he⟩
          · rintro (⟨i, hi, he⟩ | he)
            · exact ⟨i, by omega, he⟩
            · exact ⟨l, by omega, by rw [← hone]; exact he⟩
        have hvf : ∀ o, (vis (spt (whX I0) N (tbS m)) y (l + 1) o = false ↔ vis (spt (whX I0) N (tbS m)) y l o = false ∧ one ≠ o) := fun o => by
          have := hvs o
          cases e1 : vis (spt (whX I0) N (tbS m)) y (l + 1) o <;> cases e2 : vis (spt (whX I0) N (tbS m)) y l o <;> simp_all
        obtain ⟨w, hwe⟩ : ∃ w, (spt (whX I0) N (tbS m)) one = w := ⟨_, rfl⟩
        have hwN : w < N := by rw [← hwe]; exact spt_lt hoN
        refine aw_iload dX8_closeRing_31 rfl ?_
        refine aw_bipush dX8_closeRing_33 rfl ?_
        refine aw_icmp_ge (tgt := 79) dX8_closeRing_35 rfl (by first | assumption | (unfold ab_In at *; omega)) (by first | assumption | (unfold ab_In at *; omega)) (fun c_35 => ?_) (fun c_35 => ?_)
        · exfalso; omega
        · refine aw_iload_n dX8_closeRing_38 rfl ?_
          refine aw_iload_n dX8_closeRing_39 rfl ?_
          refine aw_ishr dX8_closeRing_40 ?_
          refine aw_iconst dX8_closeRing_41 ?_
          refine aw_iand dX8_closeRing_42 ?_
          refine aw_to (z := 1) hbm ?_
          refine aw_if_eq (tgt := 79) dX8_closeRing_43 rfl ⟨by decide, by decide⟩ (fun c9 => absurd c9 (by decide)) (fun _ => ?_)
          refine aw_iload_n dX8_closeRing_46 rfl ?_
          refine aw_iconst dX8_closeRing_47 ?_
          refine aw_iload_n dX8_closeRing_48 rfl ?_
          refine aw_ishl dX8_closeRing_49 ?_
          refine aw_iconst dX8_closeRing_50 ?_
          refine aw_ixor dX8_closeRing_51 ?_
          refine aw_iand dX8_closeRing_52 ?_
          refine aw_to (z := (lf2 : Int)) hcl1 ?_
          refine aw_istore_n (ls' := [some (ab_r 79), some (ab_i (m : Int)), some (ab_i (one : Int)), some (ab_i (lf2 : Int)), some (ab_i (l : Int))]) dX8_closeRing_53 (by decide) rfl ?_
          refine aw_aload_n dX8_closeRing_54 rfl (by decide) ?_
          refine aw_getrv (r := 80) dX8_closeRing_55 fX8_9 ⟨Nat.le_of_ble_eq_true rfl, Nat.le_of_ble_eq_true rfl⟩ rfl rfl (hF.at 79 1 80 rfl rfl rfl) ?_
          refine aw_iload_n dX8_closeRing_58 rfl ?_
          refine aw_aload_n dX8_closeRing_59 rfl (by decide) ?_
          refine aw_iload_n dX8_closeRing_60 rfl ?_
          refine aw_iload_n dX8_closeRing_61 rfl ?_
          refine aw_callV (as := [ab_i (one : Int), ab_i (m : Int)]) (rest := [ab_i (one : Int), ab_r 80]) dX8_closeRing_62 (ct_X8_pointedTo G I0 J F hF N hN hN8 hh hw hsf one m hoN hm) ⟨Nat.le_of_ble_eq_true rfl, Nat.le_of_ble_eq_true rfl⟩ rfl kc8 rfl kX8_pointedTo iX8_pointedTo eX8_pointedTo lX8_37 rfl (Nat.le_of_ble_eq_true rfl) (by decide) (by decide) (by decide) (by decide) ?_
          rintro _ _ ⟨rfl, rfl⟩
          rw [hwe]
          refine aw_iastv (q := one) dX8_closeRing_65 ⟨Nat.le_of_ble_eq_true rfl, Nat.le_of_ble_eq_true rfl⟩ rfl (by omega) (by omega) (by decide) rfl ?_
          refine aw_aload_n dX8_closeRing_66 rfl (by decide) ?_
          refine aw_getrv (r := 80) dX8_closeRing_67 fX8_9 ⟨Nat.le_of_ble_eq_true rfl, Nat.le_of_ble_eq_true rfl⟩ rfl rfl (hF.at 79 1 80 rfl rfl rfl) ?_
          refine aw_iload_n dX8_closeRing_70 rfl ?_
          refine aw_ialdq (q := one) (v := (w : Int)) dX8_closeRing_71 ⟨Nat.le_of_ble_eq_true rfl, Nat.le_of_ble_eq_true rfl⟩ rfl (by omega) (by omega) (by decide) rfl ab_u_s ?_
          refine aw_istore_n (ls' := [some (ab_r 79), some (ab_i (m : Int)), some (ab_i (w : Int)), some (ab_i (lf2 : Int)), some (ab_i (l : Int))]) dX8_closeRing_72 (by decide) rfl ?_
          refine aw_iinc (ls' := [some (ab_r 79), some (ab_i (m : Int)), some (ab_i (w : Int)), some (ab_i (lf2 : Int)), some (ab_i ((l : Int) + 1))]) dX8_closeRing_73 (by decide) rfl rfl ?_
          refine aw_goto (tgt := 31) dX8_closeRing_76 rfl ?_
          refine ih (l + 1) lf2 w (ab_u J 80 one (w : Int)) (by omega) (by omega) (by rw [itp, ← hone]; exact hwe.symm) (fun o => ?_) ?_ (fun q => ?_) (fun o ho => ?_) (fun o ho => ?_) (fun i b q1 q2 => by rw [ab_u_i q1]; exact hsf i b q1 q2) (by rw [ab_u_i (by decide)]; exact hq)
          · rw [← hlf2, hct o, hbt o, hvf o, and_assoc]
          · have := hcl.2.2 hb; omega
          · by_cases q2 : 1 < l
            · exact h1 q2
            · have q3 : l = 1 := by omega
              rw [← q3, ← hone]
              intro q4
              have : vis (spt (whX I0) N (tbS m)) y l one = true := vis_true.mpr ⟨0, by omega, q4.symm⟩
              rw [this] at hnv; cases hnv
          · rcases (hvs o).mp ho with q | q
            · rw [ab_u_j (fun q2 => by rw [q2, hnv] at q; cases q)]; exact hJ1 o q
            · rw [← q, ab_u_s, hwe]
          · have q := (hvf o).mp ho
            rw [ab_u_j (Ne.symm q.2)]; exact hJ2 o q.1
      · rw [if_neg hb] at hbm
        have hv : vis (spt (whX I0) N (tbS m)) y l one = true := by
          cases q : vis (spt (whX I0) N (tbS m)) y l one with
          | true => rfl
          | false => exact absurd ((hbt one).mpr ⟨hoS, q⟩) hb
        obtain ⟨i, hi, he⟩ := vis_true.mp hv
        refine aw_iload dX8_closeRing_31 rfl ?_
        refine aw_bipush dX8_closeRing_33 rfl ?_
        refine aw_icmp_ge (tgt := 79) dX8_closeRing_35 rfl (by first | assumption | (unfold ab_In at *; omega)) (by first | assumption | (unfold ab_In at *; omega)) (fun c_35 => ?_) (fun c_35 => ?_)
        · exfalso; omega
        · refine aw_iload_n dX8_closeRing_38 rfl ?_
          refine aw_iload_n dX8_closeRing_39 rfl ?_
          refine aw_ishr dX8_closeRing_40 ?_
          refine aw_iconst dX8_closeRing_41 ?_
          refine aw_iand dX8_closeRing_42 ?_
          refine aw_to (z := 0) hbm ?_
          refine aw_if_eq (tgt := 79) dX8_closeRing_43 rfl ⟨by decide, by decide⟩ (fun _ => ?_) (fun c9 => absurd (by decide) c9)
          exact s79 l lf J (one : Int) (by omega) hlm (by omega) (itp_clo1 hi (by rw [he, hone])) hbt hpc h1 hJ1 hJ2 hsf hq
  have lpA : ∀ (e k x : Nat), k + e = 8 → x = itp (spt (whX I0) N (tbS m)) k (tz8 m) → aW G YX8_closeRing (ab_rm 2 0 0) Z 0 0 (104, I, F) 7 [some (ab_r 79), some (ab_i (m : Int)), some (ab_i (x : Int)), some (ab_i (k : Int)), none] [] := by
    intro e
    induction e with
    | zero =>
      intro k x hk hx
      have hk8 : k = 8 := by omega
      have hxy : x = y := by rw [hx, hk8]; exact hye
      subst hxy
      refine aw_iload_n dX8_closeRing_7 rfl ?_
      refine aw_bipush dX8_closeRing_8 rfl ?_
      refine aw_icmp_ge (tgt := 26) dX8_closeRing_10 rfl (by first | assumption | (unfold ab_In at *; omega)) (by first | assumption | (unfold ab_In at *; omega)) (fun c_10 => ?_) (fun c_10 => ?_)
      · refine aw_iload_n dX8_closeRing_26 rfl ?_
        refine aw_istore_n (ls' := [some (ab_r 79), some (ab_i (m : Int)), some (ab_i (x : Int)), some (ab_i (m : Int)), none]) dX8_closeRing_27 (by decide) rfl ?_
        refine aw_iconst dX8_closeRing_28 ?_
        refine aw_istore (ls' := [some (ab_r 79), some (ab_i (m : Int)), some (ab_i (x : Int)), some (ab_i (m : Int)), some (ab_i 0)]) dX8_closeRing_29 (by decide) rfl ?_
        refine loop 8 0 m x I (by omega) (Nat.le_refl m) rfl (fun o => ?_) (by omega) (by omega) (fun o ho => ?_) (fun _ _ => rfl) hfr rfl
        · have : vis (spt (whX I0) N (tbS m)) x 0 o = false := by unfold vis; rfl
          rw [this]; simp
        · have : vis (spt (whX I0) N (tbS m)) x 0 o = false := by unfold vis; rfl
          rw [this] at ho; cases ho
      · exfalso; omega
    | succ e ih =>
      intro k x hk hx
      have hxN : x < N := by rw [hx]; exact hlt k
      refine aw_iload_n dX8_closeRing_7 rfl ?_
      refine aw_bipush dX8_closeRing_8 rfl ?_
      refine aw_icmp_ge (tgt := 26) dX8_closeRing_10 rfl (by first | assumption | (unfold ab_In at *; omega)) (by first | assumption | (unfold ab_In at *; omega)) (fun c_10 => ?_) (fun c_10 => ?_)
      · exfalso; omega
      · refine aw_aload_n dX8_closeRing_13 rfl (by decide) ?_
        refine aw_iload_n dX8_closeRing_14 rfl ?_
        refine aw_iload_n dX8_closeRing_15 rfl ?_
        refine aw_callV (as := [ab_i (x : Int), ab_i (m : Int)]) (rest := []) dX8_closeRing_16 (ct_X8_pointedTo G I0 I F hF N hN hN8 hh hw hfr x m hxN hm) ⟨Nat.le_of_ble_eq_true rfl, Nat.le_of_ble_eq_true rfl⟩ rfl kc8 rfl kX8_pointedTo iX8_pointedTo eX8_pointedTo lX8_37 rfl (Nat.le_of_ble_eq_true rfl) (by decide) (by decide) (by decide) (by decide) ?_
        rintro _ _ ⟨rfl, rfl⟩
        refine aw_istore_n (ls' := [some (ab_r 79), some (ab_i (m : Int)), some (ab_i ((spt (whX I0) N (tbS m)) x : Int)), some (ab_i (k : Int)), none]) dX8_closeRing_19 (by decide) rfl ?_
        refine aw_iinc (ls' := [some (ab_r 79), some (ab_i (m : Int)), some (ab_i ((spt (whX I0) N (tbS m)) x : Int)), some (ab_i ((k : Int) + 1)), none]) dX8_closeRing_20 (by decide) rfl rfl ?_
        refine aw_goto (tgt := 7) dX8_closeRing_23 rfl ?_
        exact ih (k + 1) _ (by omega) (by rw [itp, ← hx])
  refine aw_iload_n dX8_closeRing_0 rfl ?_
  refine aw_callS (as := [ab_i (m : Int)]) (rest := []) dX8_closeRing_1 (ct_ntz G (104, I, F) m hm0 (by omega)) kJ6_numberOfTrailingZeros_0f7a4 sJ6_numberOfTrailingZeros_0f7a4 lX8_32 rfl (Nat.le_of_ble_eq_true rfl) (by decide) (by decide) (by decide) (by decide) ?_
  rintro _ _ ⟨rfl, rfl⟩
  refine aw_istore_n (ls' := [some (ab_r 79), some (ab_i (m : Int)), some (ab_i (tz8 m : Int)), none, none]) dX8_closeRing_4 (by decide) rfl ?_
  refine aw_iconst dX8_closeRing_5 ?_
  refine aw_istore_n (ls' := [some (ab_r 79), some (ab_i (m : Int)), some (ab_i (tz8 m : Int)), some (ab_i 0), none]) dX8_closeRing_6 (by decide) rfl ?_
  exact lpA 8 0 _ (by omega) rfl
set_option maxHeartbeats 4000000 in
set_option maxRecDepth 100000 in
theorem ct_X8_settle (G : ab_G) (I0 : Nat → Nat → Int) (F : Nat → Nat → Nat) (hF : ab_FB F) (N : Nat) (hN : I0 76 3 = (N : Int)) (hN8 : N ≤ 8) (hh : ∀ j, j < 8 → (0 ≤ I0 77 j ∧ I0 77 j ≤ 3) ∧ (0 ≤ I0 78 j ∧ I0 78 j ≤ 3)) (hw : ∀ s k, s < 4 → k < 4 → 0 ≤ I0 (4 + s) k ∧ I0 (4 + s) k ≤ 99) : Ct G 3 0 0 YX8_settle [ab_r 79] (104, I0, F) (fun r h9 => r = none ∧ ∃ J : Nat → Nat → Int, h9 = (104, J, F) ∧ SFX I0 J ∧ SWP (whX I0) N (2 ^ N - 1) (I0 80) (J 80) 0 (J 79 2)) := by
  have h256 := (bit_all ⟨N, by omega⟩)
  simp only [] at h256
  refine Ct.ofW kX8_settle (ls := [some (ab_r 79), none, none]) (Nat.le_of_ble_eq_true rfl) rfl ?_
  generalize hZ : ab_Z G (fun r h9 => r = none ∧ ∃ J : Nat → Nat → Int, h9 = (104, J, F) ∧ SFX I0 J ∧ SWP (whX I0) N (2 ^ N - 1) (I0 80) (J 80) 0 (J 79 2)) 0 0 = Z
  have loop : ∀ (u m k : Nat) (J : Nat → Nat → Int), k + u = 8 → pc8 m ≤ u → m < 2 ^ N → SFX I0 J → (∀ J2 : Nat → Nat → Int, SFX I0 J2 → SWP (whX I0) N m (J 80) (J2 80) (J 79 2) (J2 79 2) → SWP (whX I0) N (2 ^ N - 1) (I0 80) (J2 80) 0 (J2 79 2)) → aW G YX8_settle (ab_rm 3 0 0) Z 0 0 (104, J, F) 19 [some (ab_r 79), some (ab_i (m : Int)), some (ab_i (k : Int))] [] := by
    intro u
    induction u with
    | zero =>
      intro m k J hk hpc hm hsf hK
      have hm0 : m = 0 := pc_0 ⟨m, by omega⟩ (by show pc8 m = 0; omega)
      subst hm0
      refine aw_iload_n dX8_settle_19 rfl ?_
      refine aw_bipush dX8_settle_20 rfl ?_
      refine aw_icmp_ge (tgt := 41) dX8_settle_22 rfl (by first | assumption | (unfold ab_In at *; omega)) (by first | assumption | (unfold ab_In at *; omega)) (fun c_22 => ?_) (fun c_22 => ?_)
      · rw [← hZ]
        refine aw_return dX8_settle_41 rfl ?_
        exact ⟨rfl, J, rfl, hsf, hK J hsf SWP.zero⟩
      · exfalso; omega
    | succ u ih =>
      intro m k J hk hpc hm hsf hK
      by_cases hm0 : m = 0
      · subst hm0
        refine aw_iload_n dX8_settle_19 rfl ?_
        refine aw_bipush dX8_settle_20 rfl ?_
        refine aw_icmp_ge (tgt := 41) dX8_settle_22 rfl (by first | assumption | (unfold ab_In at *; omega)) (by first | assumption | (unfold ab_In at *; omega)) (fun c_22 => ?_) (fun c_22 => ?_)
        · exfalso; omega
        · refine aw_iload_n dX8_settle_25 rfl ?_
          refine aw_if_eq (tgt := 41) dX8_settle_26 rfl (by first | assumption | (unfold ab_In at *; omega)) (fun c_26 => ?_) (fun c_26 => ?_)
          · rw [← hZ]
            refine aw_return dX8_settle_41 rfl ?_
            exact ⟨rfl, J, rfl, hsf, hK J hsf SWP.zero⟩
          · exfalso; omega
      · skip
        refine aw_iload_n dX8_settle_19 rfl ?_
        refine aw_bipush dX8_settle_20 rfl ?_
        refine aw_icmp_ge (tgt := 41) dX8_settle_22 rfl (by first | assumption | (unfold ab_In at *; omega)) (by first | assumption | (unfold ab_In at *; omega)) (fun c_22 => ?_) (fun c_22 => ?_)
        · exfalso; omega
        · refine aw_iload_n dX8_settle_25 rfl ?_
          refine aw_if_eq (tgt := 41) dX8_settle_26 rfl (by first | assumption | (unfold ab_In at *; omega)) (fun c_26 => ?_) (fun c_26 => ?_)
          · exfalso; omega
          · refine aw_aload_n dX8_settle_29 rfl (by decide) ?_
            refine aw_iload_n dX8_settle_30 rfl ?_
            refine aw_callV (as := [ab_i (m : Int)]) (rest := []) dX8_settle_31 (ct_X8_closeRing G I0 J F hF N hN hN8 hh hw hsf m hm0 hm) ⟨Nat.le_of_ble_eq_true rfl, Nat.le_of_ble_eq_true rfl⟩ rfl kc8 rfl kX8_closeRing iX8_closeRing eX8_closeRing lX8_28 rfl (Nat.le_of_ble_eq_true rfl) (by decide) (by decide) (by decide) (by decide) ?_
            rintro _ _ ⟨m2, J2, C, rfl, rfl, hs2, hm2, hp2, hR, htb, h1, h2, hr⟩
            refine aw_istore_n (ls' := [some (ab_r 79), some (ab_i (m2 : Int)), some (ab_i (k : Int))]) dX8_settle_34 (by decide) rfl ?_
            refine aw_iinc (ls' := [some (ab_r 79), some (ab_i (m2 : Int)), some (ab_i ((k : Int) + 1))]) dX8_settle_35 (by decide) rfl rfl ?_
            refine aw_goto (tgt := 19) dX8_settle_38 rfl ?_
            exact ih m2 (k + 1) J2 (by omega) (by omega) hm2 hs2 (fun J3 q1 q2 => hK J3 q1 (SWP.step hR htb h1 h2 hr q2))
  refine aw_aload_n dX8_settle_0 rfl (by decide) ?_
  refine aw_iconst dX8_settle_1 ?_
  refine aw_puti dX8_settle_2 fX8_15 ⟨Nat.le_of_ble_eq_true rfl, Nat.le_of_ble_eq_true rfl⟩ rfl rfl ?_
  refine aw_iconst dX8_settle_5 ?_
  refine aw_aload_n dX8_settle_6 rfl (by decide) ?_
  refine aw_getrv (r := 76) dX8_settle_7 fX8_19 ⟨Nat.le_of_ble_eq_true rfl, Nat.le_of_ble_eq_true rfl⟩ rfl rfl (hF.at 79 0 76 rfl rfl rfl) ?_
  refine aw_getiv (v := (N : Int)) dX8_settle_10 fX8_23 ⟨Nat.le_of_ble_eq_true rfl, Nat.le_of_ble_eq_true rfl⟩ rfl rfl ((ab_u_i (by decide)).trans hN) ?_
  refine aw_ishl dX8_settle_13 ?_
  refine aw_iconst dX8_settle_14 ?_
  refine aw_isub dX8_settle_15 ?_
  refine aw_to (z := ((2 ^ N - 1 : Nat) : Int)) h256.1 ?_
  refine aw_istore_n (ls' := [some (ab_r 79), some (ab_i ((2 ^ N - 1 : Nat) : Int)), none]) dX8_settle_16 (by decide) rfl ?_
  refine aw_iconst dX8_settle_17 ?_
  refine aw_istore_n (ls' := [some (ab_r 79), some (ab_i ((2 ^ N - 1 : Nat) : Int)), some (ab_i 0)]) dX8_settle_18 (by decide) rfl ?_
  refine loop 8 _ 0 (ab_u I0 79 2 0) (by omega) ?_ (by omega) (fun i b q1 q2 => ab_u_o (by omega)) (fun J2 _ q => ?_)
  · have := pc_N ⟨N, by omega⟩
    simp only [] at this; omega
  · rw [show (ab_u I0 79 2 0) 80 = I0 80 from funext fun b => ab_u_i (by decide), ab_u_s] at q; exact q
set_option maxHeartbeats 4000000 in
set_option maxRecDepth 100000 in
theorem ct_X11_swaps_bad (G : ab_G) (I : Nat → Nat → Int) (F : Nat → Nat → Nat) (hF : ab_FB F) (a : Int) (ha : ab_In a) (hr : 0 ≤ I 76 3 ∧ I 76 3 ≤ 8) (hbad : ¬ (0 ≤ a ∧ a ≤ I 76 3 - 1)) : Ct G 4 0 0 YX11_swaps [ab_r 1, ab_i a] (104, I, F) (fun r h => r = some (ab_i (-2)) ∧ h = (104, I, F)) := by
  refine Ct.ofW kX11_swaps (ls := [some (ab_r 1), some (ab_i a)]) (Nat.le_of_ble_eq_true rfl) rfl ?_
  refine aw_iload_n dX11_swaps_0 rfl ?_
  refine aw_iconst dX11_swaps_1 ?_
  refine aw_aload_n dX11_swaps_2 rfl (by decide) ?_
  refine aw_getrv (r := 76) dX11_swaps_3 fX11_62 ⟨Nat.le_of_ble_eq_true rfl, Nat.le_of_ble_eq_true rfl⟩ rfl rfl (hF.at 1 8 76 rfl rfl rfl) ?_
  refine aw_geti dX11_swaps_6 fX11_251 ⟨Nat.le_of_ble_eq_true rfl, Nat.le_of_ble_eq_true rfl⟩ rfl rfl ?_
  refine aw_iconst dX11_swaps_9 ?_
  refine aw_isub dX11_swaps_10 ?_
  refine aw_callS (as := [ab_i a, ab_i 0, ab_i ((I 76 3) - 1)]) (rest := []) dX11_swaps_11 (ct_X11_within G (104, I, F) a 0 (I 76 3 - 1) (by first | assumption | (unfold ab_In at *; omega)) (by first | assumption | (unfold ab_In at *; omega)) (by first | assumption | (unfold ab_In at *; omega))) kX11_within sX11_within lX11_89 rfl (Nat.le_of_ble_eq_true rfl) (by decide) (by decide) (by decide) (by decide) ?_
  rintro r9 _ ⟨e9, rfl⟩
  by_cases q1 : 0 ≤ a ∧ a ≤ I 76 3 - 1
  · rw [if_pos q1] at e9
    subst e9
    refine aw_if_ne (tgt := 20) dX11_swaps_14 rfl ⟨by decide, by decide⟩ (fun _ => ?_) (fun c9 => absurd c9 (by decide))
    exfalso; omega
  · rw [if_neg q1] at e9
    subst e9
    refine aw_if_ne (tgt := 20) dX11_swaps_14 rfl ⟨by decide, by decide⟩ (fun c9 => absurd rfl c9) (fun _ => ?_)
    refine aw_bipush dX11_swaps_17 rfl ?_
    refine aw_ireturn dX11_swaps_19 rfl ?_
    exact ⟨by first | rw [if_pos (by omega)] | rw [if_neg (by omega)] | rfl, rfl⟩
set_option maxHeartbeats 4000000 in
set_option maxRecDepth 100000 in
theorem ct_X11_swaps (G : ab_G) (I : Nat → Nat → Int) (F : Nat → Nat → Nat) (hF : ab_FB F) (N : Nat) (hN : I 76 3 = (N : Int)) (hN8 : N ≤ 8) (hh : ∀ j, j < 8 → (0 ≤ I 77 j ∧ I 77 j ≤ 3) ∧ (0 ≤ I 78 j ∧ I 78 j ≤ 3)) (hw : ∀ s k, s < 4 → k < 4 → 0 ≤ I (4 + s) k ∧ I (4 + s) k ≤ 99) (a : Nat) (ha : a < N) : Ct G 4 0 0 YX11_swaps [ab_r 1, ab_i (a : Int)] (104, I, F) (fun r h9 => ∃ J : Nat → Nat → Int, r = some (ab_i (J 80 a)) ∧ h9 = (104, J, F) ∧ SFX I J ∧ SWP (whX I) N (2 ^ N - 1) (I 80) (J 80) 0 (J 79 2)) := by
  refine Ct.ofW kX11_swaps (ls := [some (ab_r 1), some (ab_i (a : Int))]) (Nat.le_of_ble_eq_true rfl) rfl ?_
  refine aw_iload_n dX11_swaps_0 rfl ?_
  refine aw_iconst dX11_swaps_1 ?_
  refine aw_aload_n dX11_swaps_2 rfl (by decide) ?_
  refine aw_getrv (r := 76) dX11_swaps_3 fX11_62 ⟨Nat.le_of_ble_eq_true rfl, Nat.le_of_ble_eq_true rfl⟩ rfl rfl (hF.at 1 8 76 rfl rfl rfl) ?_
  refine aw_getiv (v := (N : Int)) dX11_swaps_6 fX11_251 ⟨Nat.le_of_ble_eq_true rfl, Nat.le_of_ble_eq_true rfl⟩ rfl rfl hN ?_
  refine aw_iconst dX11_swaps_9 ?_
  refine aw_isub dX11_swaps_10 ?_
  refine aw_callS (as := [ab_i (a : Int), ab_i 0, ab_i ((N : Int) - 1)]) (rest := []) dX11_swaps_11 (ct_X11_within G (104, I, F) (a : Int) 0 ((N : Int) - 1) (by first | assumption | (unfold ab_In at *; omega)) (by first | assumption | (unfold ab_In at *; omega)) (by first | assumption | (unfold ab_In at *; omega))) kX11_within sX11_within lX11_89 rfl (Nat.le_of_ble_eq_true rfl) (by decide) (by decide) (by decide) (by decide) ?_
  rintro r9 _ ⟨e9, rfl⟩
  rw [if_pos (by omega)] at e9
  subst e9
  refine aw_if_ne (tgt := 20) dX11_swaps_14 rfl ⟨by decide, by decide⟩ (fun _ => ?_) (fun c9 => absurd c9 (by decide))
  refine aw_aload_n dX11_swaps_20 rfl (by decide) ?_
  refine aw_getrv (r := 79) dX11_swaps_21 fX11_71 ⟨Nat.le_of_ble_eq_true rfl, Nat.le_of_ble_eq_true rfl⟩ rfl rfl (hF.at 1 9 79 rfl rfl rfl) ?_
  refine aw_callV (as := []) (rest := []) dX11_swaps_24 (ct_X8_settle G I F hF N hN hN8 hh hw) ⟨Nat.le_of_ble_eq_true rfl, Nat.le_of_ble_eq_true rfl⟩ rfl kc8 rfl kX8_settle iX8_settle eX8_settle lX11_254 rfl (Nat.le_of_ble_eq_true rfl) (by decide) (by decide) (by decide) (by decide) ?_
  rintro _ _ ⟨rfl, J, rfl, hs2, hP⟩
  refine aw_aload_n dX11_swaps_27 rfl (by decide) ?_
  refine aw_getrv (r := 79) dX11_swaps_28 fX11_71 ⟨Nat.le_of_ble_eq_true rfl, Nat.le_of_ble_eq_true rfl⟩ rfl rfl (hF.at 1 9 79 rfl rfl rfl) ?_
  refine aw_getrv (r := 80) dX11_swaps_31 fX11_257 ⟨Nat.le_of_ble_eq_true rfl, Nat.le_of_ble_eq_true rfl⟩ rfl rfl (hF.at 79 1 80 rfl rfl rfl) ?_
  refine aw_iload_n dX11_swaps_34 rfl ?_
  refine aw_ialdq (q := a) (v := J 80 a) dX11_swaps_35 ⟨Nat.le_of_ble_eq_true rfl, Nat.le_of_ble_eq_true rfl⟩ rfl (by omega) (by omega) (by decide) rfl rfl ?_
  refine aw_ireturn dX11_swaps_36 rfl ?_
  exact ⟨J, by rfl, rfl, hs2, hP⟩
set_option maxHeartbeats 4000000 in
set_option maxRecDepth 100000 in
theorem ct_X11_rings (G : ab_G) (I : Nat → Nat → Int) (F : Nat → Nat → Nat) (hF : ab_FB F) (N : Nat) (hN : I 76 3 = (N : Int)) (hN8 : N ≤ 8) (hh : ∀ j, j < 8 → (0 ≤ I 77 j ∧ I 77 j ≤ 3) ∧ (0 ≤ I 78 j ∧ I 78 j ≤ 3)) (hw : ∀ s k, s < 4 → k < 4 → 0 ≤ I (4 + s) k ∧ I (4 + s) k ≤ 99) : Ct G 4 0 0 YX11_rings [ab_r 1] (104, I, F) (fun r h9 => ∃ J : Nat → Nat → Int, r = some (ab_i (J 79 2)) ∧ h9 = (104, J, F) ∧ SFX I J ∧ SWP (whX I) N (2 ^ N - 1) (I 80) (J 80) 0 (J 79 2)) := by
  refine Ct.ofW kX11_rings (ls := [some (ab_r 1)]) (Nat.le_of_ble_eq_true rfl) rfl ?_
  refine aw_aload_n dX11_rings_0 rfl (by decide) ?_
  refine aw_getrv (r := 79) dX11_rings_1 fX11_71 ⟨Nat.le_of_ble_eq_true rfl, Nat.le_of_ble_eq_true rfl⟩ rfl rfl (hF.at 1 9 79 rfl rfl rfl) ?_
  refine aw_callV (as := []) (rest := []) dX11_rings_4 (ct_X8_settle G I F hF N hN hN8 hh hw) ⟨Nat.le_of_ble_eq_true rfl, Nat.le_of_ble_eq_true rfl⟩ rfl kc8 rfl kX8_settle iX8_settle eX8_settle lX11_254 rfl (Nat.le_of_ble_eq_true rfl) (by decide) (by decide) (by decide) (by decide) ?_
  rintro _ _ ⟨rfl, J, rfl, hs2, hP⟩
  refine aw_aload_n dX11_rings_7 rfl (by decide) ?_
  refine aw_getrv (r := 79) dX11_rings_8 fX11_71 ⟨Nat.le_of_ble_eq_true rfl, Nat.le_of_ble_eq_true rfl⟩ rfl rfl (hF.at 1 9 79 rfl rfl rfl) ?_
  refine aw_geti dX11_rings_11 fX11_260 ⟨Nat.le_of_ble_eq_true rfl, Nat.le_of_ble_eq_true rfl⟩ rfl rfl ?_
  refine aw_ireturn dX11_rings_14 rfl ?_
  exact ⟨J, by rfl, rfl, hs2, hP⟩
