theorem hd_X8_findsSounds : yX8_findsSounds.cls = RX8 ∧ yX8_findsSounds.cls ≠ "java/lang/invoke/MethodHandle" ∧ yX8_findsSounds.cls ≠ "java/lang/invoke/VarHandle" ∧ (parseMethodDescriptor yX8_findsSounds.desc).map (fun d => d.parameters.length) = some 0 := by decide +kernel
set_option maxHeartbeats 4000000 in
set_option maxRecDepth 100000 in
theorem c_X8_findsSounds (cI cB : ClassId) (m : Nat → Nat) (hl it sl ut ol tl sp tw tm mm rl : Int32) (S : Bk) (f : Nat → Int32) (xs rf sd us : List Int32) (hA : allR S f) (hL : ∀ x ∈ xs, low x) (hu : us.length = 30) : Ct cI cB yX8_findsSounds wsX8_findsSounds { frames := 3, cells := 0, slots := 0, locals := 68 } [.ref (m 0)] [moM m hl it (nI xs.length) sl ut ol tl sp tw tm mm rl, arF cI (m 1) 570 f, arL cI (m 5) 12 xs, arL cI (m 6) 12 rf, arL cI (m 7) 12 sd, arL cI (m 8) 30 us] (dn [moM m hl it (nI xs.length) (nI (hrW S xs).1.length) (nI (hrW S xs).2.2.length) ol tl sp tw tm mm rl, arF cI (m 1) 570 f, arL cI (m 5) 12 xs, arL cI (m 6) 12 (hrW S xs).2.1, arL cI (m 7) 12 (hrW S xs).1, arL cI (m 8) 30 (incL us (hrW S xs).2.2)]) := by
  refine ct_of (cc := cX8_findsSounds) (maxL := 6) (ret := none) (by decide) rfl (Nat.le_of_ble_eq_true rfl) [(0, .ref (m 0))] rfl ?_
  intro X hI hB K E
  subst hI
  subst hB
  have iX8 : ∀ w ∈ u_ws RX8 TX8 28, w ∈ wsX8_findsSounds := by decide +kernel
  have h30 := hA.1.1
  refine v_arlen 2 rfl (fun hX => ?_)
  have lpi : ∀ (P n : Nat) (r s : Int32) (Z : T3), Z.2.1.length = P → P + n ≤ 12 → V X 0 0 99 [(0, .ref (m 0)), (1, .int (nI P)), (2, .int r), (3, .int (nI n)), (4, .int s)] [] [moM m hl it (nI xs.length) (nI Z.1.length) (nI Z.2.2.length) ol tl sp tw tm mm rl, arF (XI X) (m 1) 570 f, arL (XI X) (m 5) 12 xs, arL (XI X) (m 6) 12 (Z.2.1 ++ List.replicate n r), arL (XI X) (m 7) 12 Z.1, arL (XI X) (m 8) 30 (incL us Z.2.2)] → ∀ k, k ≤ n → ∀ x : Int32, x = nI k → V X 0 0 77 [(0, .ref (m 0)), (1, .int (nI P)), (2, .int r), (3, .int (nI n)), (4, .int s), (5, .int x)] [] [moM m hl it (nI xs.length) (nI Z.1.length) (nI Z.2.2.length) ol tl sp tw tm mm rl, arF (XI X) (m 1) 570 f, arL (XI X) (m 5) 12 xs, arL (XI X) (m 6) 12 (Z.2.1 ++ List.replicate k r), arL (XI X) (m 7) 12 Z.1, arL (XI X) (m 8) 30 (incL us Z.2.2)] := by
    intro P n r s Z hP hn hk0
    refine loop_up n ?_
    intro k hk ih x hx
    subst hx
    refine v_iload K dX8_findsSounds_77 rfl ?_
    refine v_iload_n K dX8_findsSounds_79 rfl ?_
    refine v_ic_ge K 99 dX8_findsSounds_80 (by decide) (fun c80 => ?_) (fun c80 => ?_)
    · have he := up_end rfl (by omega) hk c80
      subst he
      exact v_j hk0 rfl rfl rfl
    · have hlt := up_lt rfl (by omega) hk c80
      refine v_aload_n K dX8_findsSounds_83 rfl ?_
      refine v_get K 0 rfl hasF_c rfl iX8 8 (by decide) rfl (by decide +kernel) rfl dX8_findsSounds_84 ?_
      refine v_iload_n K dX8_findsSounds_87 rfl ?_
      refine v_iload K dX8_findsSounds_88 rfl ?_
      refine v_iadd K dX8_findsSounds_90 ?_
      refine v_iload_n K dX8_findsSounds_91 rfl ?_
      refine v_last K 3 rfl ?hx92_1 ?ix92_1 dX8_findsSounds_92 ?_
      case hx92_1 => rw [rep_addl, hP]; exact nI_add _ _
      case ix92_1 => rw [rep_addl]; omega
      try dsimp only [Nat.reduceAdd, nf_rep1, nf_rep0, nf_d0, nf_t0, nf_s0, nf_ac, nf_an, nf_d1, nf_t1, nf_s1, nf_d2, nf_t2, nf_s2, nf_d3, nf_t3, nf_s3, nf_d4, nf_t4, nf_s4, nf_d5, nf_t5, nf_s5, nf_d6, nf_t6, nf_s6, nf_d7, nf_t7, nf_s7, nf_d8, nf_t8, nf_s8, nf_d9, nf_t9, nf_s9, nf_d10, nf_t10, nf_s10, nf_d11, nf_t11, nf_s11, nf_d12, nf_t12, nf_s12, nf_d13, nf_t13, nf_s13, nf_d14, nf_t14, nf_s14, nf_d15, nf_t15, nf_s15, nf_d16, nf_t16, nf_s16, nf_d17, nf_t17, nf_s17, nf_d18, nf_t18, nf_s18, nf_d19, nf_t19, nf_s19, nf_d20, nf_t20, nf_s20]
      refine v_iinc K dX8_findsSounds_93 rfl (by decide) iinc_1 ?_
      refine v_goto K 77 dX8_findsSounds_96 (by decide) ?_
      exact v_j (ih hlt _ (nI_1 k)) rfl rfl (by rw [rep_add])
  have lp : ∀ d (P : Nat) (Z : T3), xs.length - P = d → P ≤ xs.length → Z.1.length ≤ P → Z.2.1.length = P → Z.2.2.length ≤ P → (∃ n, xs.length ≤ P + n ∧ hrF S xs n P Z = hrW S xs) → V X 0 0 12 [(0, .ref (m 0)), (1, .int (nI P))] [] [moM m hl it (nI xs.length) (nI Z.1.length) (nI Z.2.2.length) ol tl sp tw tm mm rl, arF (XI X) (m 1) 570 f, arL (XI X) (m 5) 12 xs, arL (XI X) (m 6) 12 Z.2.1, arL (XI X) (m 7) 12 Z.1, arL (XI X) (m 8) 30 (incL us Z.2.2)] := by
    intro d
    induction d using Nat.strongRecOn with | _ d ih => ?_
    intro P Z hd hP hZ1 hZ2 hZ3 hZ
    obtain ⟨n, hnn, hR⟩ := hZ
    refine v_iload_n K dX8_findsSounds_12 rfl ?_
    refine v_aload_n K dX8_findsSounds_13 rfl ?_
    refine v_get K 0 rfl hasF_c rfl iX8 7 (by decide) rfl (by decide +kernel) rfl dX8_findsSounds_14 ?_
    refine v_ic_ge K 159 dX8_findsSounds_17 (by decide) (fun c17 => ?_) (fun c17 => ?_)
    · refine v_ret K E dX8_findsSounds_159 ?_ rfl
      have hge : xs.length ≤ P := by rw [nI_leI (by omega) (by omega)] at c17; exact c17
      rw [hrF_end hge] at hR
      subst hR
      exact ⟨rfl, rfl⟩
    · have hlt : P < xs.length := by rw [nI_leI (by omega) (by omega)] at c17; omega
      refine v_aload_n K dX8_findsSounds_20 rfl ?_
      refine v_iload_n K dX8_findsSounds_21 rfl ?_
      refine v_callVi K [0, 1, 2] (c_X8_ruleAtPlace (XI X) (XB X) _ _ _ _ _ _ _ _ _ _ _ _ S _ _ _ ?hc22_0_2 ?hc22_1_2) rfl gX8_findsSounds_X8_ruleAtPlace rfl rfl hd_X8_ruleAtPlace ⟨rfl, rfl⟩ ⟨by decide, by decide⟩ 0 rfl hasF_c rfl (by decide) (Nat.le_of_ble_eq_true rfl) ⟨Nat.zero_le _, Nat.zero_le _⟩ rfl dX8_findsSounds_22 ?_
      case hc22_0_2 => exact hA
      case hc22_1_2 => exact hlt
      try dsimp only [Nat.reduceAdd, nf_rep1, nf_rep0, nf_d0, nf_t0, nf_s0, nf_ac, nf_an, nf_d1, nf_t1, nf_s1, nf_d2, nf_t2, nf_s2, nf_d3, nf_t3, nf_s3, nf_d4, nf_t4, nf_s4, nf_d5, nf_t5, nf_s5, nf_d6, nf_t6, nf_s6, nf_d7, nf_t7, nf_s7, nf_d8, nf_t8, nf_s8, nf_d9, nf_t9, nf_s9, nf_d10, nf_t10, nf_s10, nf_d11, nf_t11, nf_s11, nf_d12, nf_t12, nf_s12, nf_d13, nf_t13, nf_s13, nf_d14, nf_t14, nf_s14, nf_d15, nf_t15, nf_s15, nf_d16, nf_t16, nf_s16, nf_d17, nf_t17, nf_s17, nf_d18, nf_t18, nf_s18, nf_d19, nf_t19, nf_s19, nf_d20, nf_t20, nf_s20]
      refine v_istore_n K dX8_findsSounds_25 (by decide) ?_
      have hNu : (incL us Z.2.2).length = 30 := by rw [incL_len, hu]
      rcases bst_h S xs P S.1.length with hb | ⟨I, hI, hb, hh⟩
      · rw [hb]
        obtain ⟨n2, hn2, hR2⟩ := hr_none (by omega) hnn hb hR
        have hlow := hL _ (List.getElem_mem hlt)
        rw [← gd_in (d := -5) hlt] at hlow
        refine v_iload_n K dX8_findsSounds_26 rfl ?_
        refine v_bipush K (-5) dX8_findsSounds_27 (by decide) ?_
        refine v_ic_ne K 36 dX8_findsSounds_29 (by decide) (fun c29 => False.elim (c29 rfl)) (fun c29 => ?_)
        refine v_iconst K (1) dX8_findsSounds_32 (by decide) ?_
        refine v_goto K 45 dX8_findsSounds_33 (by decide) ?_
        refine v_istore_n K dX8_findsSounds_45 (by decide) ?_
        refine v_iload_n K dX8_findsSounds_46 rfl ?_
        refine v_bipush K (-5) dX8_findsSounds_47 (by decide) ?_
        refine v_ic_ne K 61 dX8_findsSounds_49 (by decide) (fun c49 => False.elim (c49 rfl)) (fun c49 => ?_)
        refine v_aload_n K dX8_findsSounds_52 rfl ?_
        refine v_get K 0 rfl hasF_c rfl iX8 6 (by decide) rfl (by decide +kernel) rfl dX8_findsSounds_53 ?_
        refine v_iload_n K dX8_findsSounds_56 rfl ?_
        refine v_lald K 2 rfl (P) ?hx57_3 ?ix57_3 dX8_findsSounds_57 ?_
        case hx57_3 => exact rfl
        case ix57_3 => exact hlt
        refine v_goto K 72 dX8_findsSounds_58 (by decide) ?_
        refine v_istore K dX8_findsSounds_72 (by decide) ?_
        refine v_iconst K (0) dX8_findsSounds_74 (by decide) ?_
        refine v_istore K dX8_findsSounds_75 (by decide) ?_
        refine v_j (lpi P (1) (-5) (xs.getD P (-5)) Z hZ2 (by omega) ?_ 0 (Nat.zero_le _) 0 rfl) rfl rfl (by rw [List.replicate_zero, List.append_nil] <;> rfl)
        refine v_iload_n K dX8_findsSounds_99 rfl ?_
        refine v_bipush K (-5) dX8_findsSounds_100 (by decide) ?_
        refine v_ic_eq K 125 dX8_findsSounds_102 (by decide) (fun c102 => ?_) (fun c102 => absurd c102 (fun z => z rfl))
        refine v_iload K dX8_findsSounds_125 rfl ?_
        refine v_iconst K (-1) dX8_findsSounds_127 (by decide) ?_
        refine v_ic_eq K 152 dX8_findsSounds_128 (by decide) (fun c128 => False.elim (low_m1 hlow c128)) (fun c128 => ?_)
        refine v_aload_n K dX8_findsSounds_131 rfl ?_
        refine v_get K 0 rfl hasF_c rfl iX8 9 (by decide) rfl (by decide +kernel) rfl dX8_findsSounds_132 ?_
        refine v_aload_n K dX8_findsSounds_135 rfl ?_
        refine v_get K 0 rfl hasF_c rfl iX8 10 (by decide) rfl (by decide +kernel) rfl dX8_findsSounds_136 ?_
        refine v_iload K dX8_findsSounds_139 rfl ?_
        refine v_last K 4 rfl ?hx141_4 ?ix141_4 dX8_findsSounds_141 ?_
        case hx141_4 => exact rfl
        case ix141_4 => omega
        try dsimp only [Nat.reduceAdd, nf_rep1, nf_rep0, nf_d0, nf_t0, nf_s0, nf_ac, nf_an, nf_d1, nf_t1, nf_s1, nf_d2, nf_t2, nf_s2, nf_d3, nf_t3, nf_s3, nf_d4, nf_t4, nf_s4, nf_d5, nf_t5, nf_s5, nf_d6, nf_t6, nf_s6, nf_d7, nf_t7, nf_s7, nf_d8, nf_t8, nf_s8, nf_d9, nf_t9, nf_s9, nf_d10, nf_t10, nf_s10, nf_d11, nf_t11, nf_s11, nf_d12, nf_t12, nf_s12, nf_d13, nf_t13, nf_s13, nf_d14, nf_t14, nf_s14, nf_d15, nf_t15, nf_s15, nf_d16, nf_t16, nf_s16, nf_d17, nf_t17, nf_s17, nf_d18, nf_t18, nf_s18, nf_d19, nf_t19, nf_s19, nf_d20, nf_t20, nf_s20]
        refine v_aload_n K dX8_findsSounds_142 rfl ?_
        refine v_dup K dX8_findsSounds_143 rfl ?_
        refine v_get K 0 rfl hasF_c rfl iX8 10 (by decide) rfl (by decide +kernel) rfl dX8_findsSounds_144 ?_
        refine v_iconst K (1) dX8_findsSounds_147 (by decide) ?_
        refine v_iadd K dX8_findsSounds_148 ?_
        refine v_put K 0 rfl rfl iX8 tyX8 tyX8_ok nmX8 10 (by decide) rfl (by decide +kernel) rfl rfl (Nat.le_of_ble_eq_true rfl) dX8_findsSounds_149 ?_
        try dsimp only [Nat.reduceAdd, nf_rep1, nf_rep0, nf_d0, nf_t0, nf_s0, nf_ac, nf_an, nf_d1, nf_t1, nf_s1, nf_d2, nf_t2, nf_s2, nf_d3, nf_t3, nf_s3, nf_d4, nf_t4, nf_s4, nf_d5, nf_t5, nf_s5, nf_d6, nf_t6, nf_s6, nf_d7, nf_t7, nf_s7, nf_d8, nf_t8, nf_s8, nf_d9, nf_t9, nf_s9, nf_d10, nf_t10, nf_s10, nf_d11, nf_t11, nf_s11, nf_d12, nf_t12, nf_s12, nf_d13, nf_t13, nf_s13, nf_d14, nf_t14, nf_s14, nf_d15, nf_t15, nf_s15, nf_d16, nf_t16, nf_s16, nf_d17, nf_t17, nf_s17, nf_d18, nf_t18, nf_s18, nf_d19, nf_t19, nf_s19, nf_d20, nf_t20, nf_s20]
        refine v_iload_n K dX8_findsSounds_152 rfl ?_
        refine v_iload_n K dX8_findsSounds_153 rfl ?_
        refine v_iadd K dX8_findsSounds_154 ?_
        refine v_istore_n K dX8_findsSounds_155 (by decide) ?_
        refine v_goto K 12 dX8_findsSounds_156 (by decide) ?_
        refine v_j (ih (xs.length - (P + 1)) (by omega) (P + 1) (Z.1 ++ [xs.getD P (-5)], Z.2.1 ++ [-5], Z.2.2) rfl (by omega) (by rw [len1n]; omega) (by rw [len1n]; omega) (by show Z.2.2.length ≤ _; omega) ⟨n2, hn2, by rw [← hR2, adL_lt (by omega), adL_lt (by omega)]⟩) ?_ rfl ?_
        · rw [nI_add P 1] <;> rfl
        · rw [len1] <;> rfl
      · rw [hb]
        have hAr := hA.2.2.2.1 I hI
        have hw := hA.1.2.2.2.2.2.2.1 I hI
        have h30 := hA.1.1
        have hn : (S.1.getD I []).length = (nthR S I).length := rfl
        have hll := hld_l hA.1 hI hh
        obtain ⟨n2, hn2, hR2⟩ := hr_use (by omega) hnn hb (by omega) hw.1 hR
        refine v_iload_n K dX8_findsSounds_26 rfl ?_
        refine v_bipush K (-5) dX8_findsSounds_27 (by decide) ?_
        refine v_ic_ne K 36 dX8_findsSounds_29 (by decide) (fun c29 => ?_) (fun c29 => absurd c29 (nI_m5 (by omega)))
        refine v_aload_n K dX8_findsSounds_36 rfl ?_
        refine v_get K 0 rfl hasF_c rfl iX8 0 (by decide) rfl (by decide +kernel) rfl dX8_findsSounds_37 ?_
        refine v_iload_n K dX8_findsSounds_40 rfl ?_
        refine v_callSi K [] (c_X8_ruleAt (XI X) (XB X) _ ) rfl gX8_findsSounds_X8_ruleAt rfl rfl hd_X8_ruleAt ⟨rfl, rfl⟩ ⟨by decide, by decide⟩ (by decide) (Nat.le_of_ble_eq_true rfl) ⟨Nat.zero_le _, Nat.zero_le _⟩ rfl dX8_findsSounds_41 ?_
        try dsimp only [Nat.reduceAdd, nf_rep1, nf_rep0, nf_d0, nf_t0, nf_s0, nf_ac, nf_an, nf_d1, nf_t1, nf_s1, nf_d2, nf_t2, nf_s2, nf_d3, nf_t3, nf_s3, nf_d4, nf_t4, nf_s4, nf_d5, nf_t5, nf_s5, nf_d6, nf_t6, nf_s6, nf_d7, nf_t7, nf_s7, nf_d8, nf_t8, nf_s8, nf_d9, nf_t9, nf_s9, nf_d10, nf_t10, nf_s10, nf_d11, nf_t11, nf_s11, nf_d12, nf_t12, nf_s12, nf_d13, nf_t13, nf_s13, nf_d14, nf_t14, nf_s14, nf_d15, nf_t15, nf_s15, nf_d16, nf_t16, nf_s16, nf_d17, nf_t17, nf_s17, nf_d18, nf_t18, nf_s18, nf_d19, nf_t19, nf_s19, nf_d20, nf_t20, nf_s20]
        refine v_fald K 1 rfl (2 + 7 * I) ?hx44_6 ?ix44_6 dX8_findsSounds_44 ?_
        case hx44_6 => exact rfl
        case ix44_6 => exact ⟨by omega, by decide⟩
        rw [hAr.1]
        refine v_istore_n K dX8_findsSounds_45 (by decide) ?_
        refine v_iload_n K dX8_findsSounds_46 rfl ?_
        refine v_bipush K (-5) dX8_findsSounds_47 (by decide) ?_
        refine v_ic_ne K 61 dX8_findsSounds_49 (by decide) (fun c49 => ?_) (fun c49 => absurd c49 (nI_m5 (by omega)))
        refine v_aload_n K dX8_findsSounds_61 rfl ?_
        refine v_get K 0 rfl hasF_c rfl iX8 0 (by decide) rfl (by decide +kernel) rfl dX8_findsSounds_62 ?_
        refine v_iload_n K dX8_findsSounds_65 rfl ?_
        refine v_callSi K [] (c_X8_ruleAt (XI X) (XB X) _ ) rfl gX8_findsSounds_X8_ruleAt rfl rfl hd_X8_ruleAt ⟨rfl, rfl⟩ ⟨by decide, by decide⟩ (by decide) (Nat.le_of_ble_eq_true rfl) ⟨Nat.zero_le _, Nat.zero_le _⟩ rfl dX8_findsSounds_66 ?_
        try dsimp only [Nat.reduceAdd, nf_rep1, nf_rep0, nf_d0, nf_t0, nf_s0, nf_ac, nf_an, nf_d1, nf_t1, nf_s1, nf_d2, nf_t2, nf_s2, nf_d3, nf_t3, nf_s3, nf_d4, nf_t4, nf_s4, nf_d5, nf_t5, nf_s5, nf_d6, nf_t6, nf_s6, nf_d7, nf_t7, nf_s7, nf_d8, nf_t8, nf_s8, nf_d9, nf_t9, nf_s9, nf_d10, nf_t10, nf_s10, nf_d11, nf_t11, nf_s11, nf_d12, nf_t12, nf_s12, nf_d13, nf_t13, nf_s13, nf_d14, nf_t14, nf_s14, nf_d15, nf_t15, nf_s15, nf_d16, nf_t16, nf_s16, nf_d17, nf_t17, nf_s17, nf_d18, nf_t18, nf_s18, nf_d19, nf_t19, nf_s19, nf_d20, nf_t20, nf_s20]
        refine v_iconst K (5) dX8_findsSounds_69 (by decide) ?_
        refine v_iadd K dX8_findsSounds_70 ?_
        refine v_fald K 1 rfl (2 + 7 * I + 5) ?hx71_8 ?ix71_8 dX8_findsSounds_71 ?_
        case hx71_8 => exact nI_add _ 5
        case ix71_8 => exact ⟨by omega, by decide⟩
        rw [hAr.2.2.1]
        refine v_istore K dX8_findsSounds_72 (by decide) ?_
        refine v_iconst K (0) dX8_findsSounds_74 (by decide) ?_
        refine v_istore K dX8_findsSounds_75 (by decide) ?_
        refine v_j (lpi P ((nthR S I).length) (nI I) (sgn0 (S.2.1.getD I (-5))) Z hZ2 (by omega) ?_ 0 (Nat.zero_le _) 0 rfl) rfl rfl (by rw [List.replicate_zero, List.append_nil] <;> rfl)
        refine v_iload_n K dX8_findsSounds_99 rfl ?_
        refine v_bipush K (-5) dX8_findsSounds_100 (by decide) ?_
        refine v_ic_eq K 125 dX8_findsSounds_102 (by decide) (fun c102 => False.elim (nI_m5 (by omega) c102)) (fun c102 => ?_)
        refine v_aload_n K dX8_findsSounds_105 rfl ?_
        refine v_get K 0 rfl hasF_c rfl iX8 12 (by decide) rfl (by decide +kernel) rfl dX8_findsSounds_106 ?_
        refine v_iload_n K dX8_findsSounds_109 rfl ?_
        refine v_dup2 K dX8_findsSounds_110 rfl rfl ?_
        refine v_lald K 5 rfl (I) ?hx111_9 ?ix111_9 dX8_findsSounds_111 ?_
        case hx111_9 => exact rfl
        case ix111_9 => rw [hNu]; omega
        refine v_iconst K (1) dX8_findsSounds_112 (by decide) ?_
        refine v_iadd K dX8_findsSounds_113 ?_
        refine v_lset K 5 rfl (I) ?hx114_10 ?ix114_10 dX8_findsSounds_114 ?_
        case hx114_10 => exact rfl
        case ix114_10 => rw [hNu]; omega
        try dsimp only [Nat.reduceAdd, nf_rep1, nf_rep0, nf_d0, nf_t0, nf_s0, nf_ac, nf_an, nf_d1, nf_t1, nf_s1, nf_d2, nf_t2, nf_s2, nf_d3, nf_t3, nf_s3, nf_d4, nf_t4, nf_s4, nf_d5, nf_t5, nf_s5, nf_d6, nf_t6, nf_s6, nf_d7, nf_t7, nf_s7, nf_d8, nf_t8, nf_s8, nf_d9, nf_t9, nf_s9, nf_d10, nf_t10, nf_s10, nf_d11, nf_t11, nf_s11, nf_d12, nf_t12, nf_s12, nf_d13, nf_t13, nf_s13, nf_d14, nf_t14, nf_s14, nf_d15, nf_t15, nf_s15, nf_d16, nf_t16, nf_s16, nf_d17, nf_t17, nf_s17, nf_d18, nf_t18, nf_s18, nf_d19, nf_t19, nf_s19, nf_d20, nf_t20, nf_s20]
        refine v_aload_n K dX8_findsSounds_115 rfl ?_
        refine v_dup K dX8_findsSounds_116 rfl ?_
        refine v_get K 0 rfl hasF_c rfl iX8 11 (by decide) rfl (by decide +kernel) rfl dX8_findsSounds_117 ?_
        refine v_iconst K (1) dX8_findsSounds_120 (by decide) ?_
        refine v_iadd K dX8_findsSounds_121 ?_
        refine v_put K 0 rfl rfl iX8 tyX8 tyX8_ok nmX8 11 (by decide) rfl (by decide +kernel) rfl rfl (Nat.le_of_ble_eq_true rfl) dX8_findsSounds_122 ?_
        try dsimp only [Nat.reduceAdd, nf_rep1, nf_rep0, nf_d0, nf_t0, nf_s0, nf_ac, nf_an, nf_d1, nf_t1, nf_s1, nf_d2, nf_t2, nf_s2, nf_d3, nf_t3, nf_s3, nf_d4, nf_t4, nf_s4, nf_d5, nf_t5, nf_s5, nf_d6, nf_t6, nf_s6, nf_d7, nf_t7, nf_s7, nf_d8, nf_t8, nf_s8, nf_d9, nf_t9, nf_s9, nf_d10, nf_t10, nf_s10, nf_d11, nf_t11, nf_s11, nf_d12, nf_t12, nf_s12, nf_d13, nf_t13, nf_s13, nf_d14, nf_t14, nf_s14, nf_d15, nf_t15, nf_s15, nf_d16, nf_t16, nf_s16, nf_d17, nf_t17, nf_s17, nf_d18, nf_t18, nf_s18, nf_d19, nf_t19, nf_s19, nf_d20, nf_t20, nf_s20]
        refine v_iload K dX8_findsSounds_125 rfl ?_
        refine v_iconst K (-1) dX8_findsSounds_127 (by decide) ?_
        refine v_ic_eq K 152 dX8_findsSounds_128 (by decide) (fun c128 => ?_) (fun c128 => ?_)
        · refine v_iload_n K dX8_findsSounds_152 rfl ?_
          refine v_iload_n K dX8_findsSounds_153 rfl ?_
          refine v_iadd K dX8_findsSounds_154 ?_
          refine v_istore_n K dX8_findsSounds_155 (by decide) ?_
          refine v_goto K 12 dX8_findsSounds_156 (by decide) ?_
          refine v_j (ih (xs.length - (P + (nthR S I).length)) (by omega) (P + (nthR S I).length) (Z.1, Z.2.1 ++ List.replicate (nthR S I).length (nI I), Z.2.2 ++ [nI I]) rfl (by omega) (by simp only [len1n]; omega) (by rw [rep_addl]; omega) (by rw [len1n]; omega) ⟨n2, hn2, by rw [← hR2, useT_0 (sgn0_0 hw.2.2.2.1 c128) (by omega) (by omega)]⟩) ?_ rfl ?_
          · rw [nI_add P (nthR S I).length] <;> rfl
          · rw [incL_add (by rw [hu]; omega) (by omega), len1] <;> rfl
        · have hs0 := sgn0_s c128
          rw [hs0.1]
          refine v_aload_n K dX8_findsSounds_131 rfl ?_
          refine v_get K 0 rfl hasF_c rfl iX8 9 (by decide) rfl (by decide +kernel) rfl dX8_findsSounds_132 ?_
          refine v_aload_n K dX8_findsSounds_135 rfl ?_
          refine v_get K 0 rfl hasF_c rfl iX8 10 (by decide) rfl (by decide +kernel) rfl dX8_findsSounds_136 ?_
          refine v_iload K dX8_findsSounds_139 rfl ?_
          refine v_last K 4 rfl ?hx141_11 ?ix141_11 dX8_findsSounds_141 ?_
          case hx141_11 => exact rfl
          case ix141_11 => omega
          try dsimp only [Nat.reduceAdd, nf_rep1, nf_rep0, nf_d0, nf_t0, nf_s0, nf_ac, nf_an, nf_d1, nf_t1, nf_s1, nf_d2, nf_t2, nf_s2, nf_d3, nf_t3, nf_s3, nf_d4, nf_t4, nf_s4, nf_d5, nf_t5, nf_s5, nf_d6, nf_t6, nf_s6, nf_d7, nf_t7, nf_s7, nf_d8, nf_t8, nf_s8, nf_d9, nf_t9, nf_s9, nf_d10, nf_t10, nf_s10, nf_d11, nf_t11, nf_s11, nf_d12, nf_t12, nf_s12, nf_d13, nf_t13, nf_s13, nf_d14, nf_t14, nf_s14, nf_d15, nf_t15, nf_s15, nf_d16, nf_t16, nf_s16, nf_d17, nf_t17, nf_s17, nf_d18, nf_t18, nf_s18, nf_d19, nf_t19, nf_s19, nf_d20, nf_t20, nf_s20]
          refine v_aload_n K dX8_findsSounds_142 rfl ?_
          refine v_dup K dX8_findsSounds_143 rfl ?_
          refine v_get K 0 rfl hasF_c rfl iX8 10 (by decide) rfl (by decide +kernel) rfl dX8_findsSounds_144 ?_
          refine v_iconst K (1) dX8_findsSounds_147 (by decide) ?_
          refine v_iadd K dX8_findsSounds_148 ?_
          refine v_put K 0 rfl rfl iX8 tyX8 tyX8_ok nmX8 10 (by decide) rfl (by decide +kernel) rfl rfl (Nat.le_of_ble_eq_true rfl) dX8_findsSounds_149 ?_
          try dsimp only [Nat.reduceAdd, nf_rep1, nf_rep0, nf_d0, nf_t0, nf_s0, nf_ac, nf_an, nf_d1, nf_t1, nf_s1, nf_d2, nf_t2, nf_s2, nf_d3, nf_t3, nf_s3, nf_d4, nf_t4, nf_s4, nf_d5, nf_t5, nf_s5, nf_d6, nf_t6, nf_s6, nf_d7, nf_t7, nf_s7, nf_d8, nf_t8, nf_s8, nf_d9, nf_t9, nf_s9, nf_d10, nf_t10, nf_s10, nf_d11, nf_t11, nf_s11, nf_d12, nf_t12, nf_s12, nf_d13, nf_t13, nf_s13, nf_d14, nf_t14, nf_s14, nf_d15, nf_t15, nf_s15, nf_d16, nf_t16, nf_s16, nf_d17, nf_t17, nf_s17, nf_d18, nf_t18, nf_s18, nf_d19, nf_t19, nf_s19, nf_d20, nf_t20, nf_s20]
          refine v_iload_n K dX8_findsSounds_152 rfl ?_
          refine v_iload_n K dX8_findsSounds_153 rfl ?_
          refine v_iadd K dX8_findsSounds_154 ?_
          refine v_istore_n K dX8_findsSounds_155 (by decide) ?_
          refine v_goto K 12 dX8_findsSounds_156 (by decide) ?_
          refine v_j (ih (xs.length - (P + (nthR S I).length)) (by omega) (P + (nthR S I).length) (Z.1 ++ [S.2.1.getD I (-5)], Z.2.1 ++ List.replicate (nthR S I).length (nI I), Z.2.2 ++ [nI I]) rfl (by omega) (by simp only [len1n]; omega) (by rw [rep_addl]; omega) (by rw [len1n]; omega) ⟨n2, hn2, by rw [← hR2, useT_1 hs0.2 (by omega) (by omega) (by omega)]⟩) ?_ rfl ?_
          · rw [nI_add P (nthR S I).length] <;> rfl
          · rw [incL_add (by rw [hu]; omega) (by omega), len1, len1] <;> rfl
  refine v_ltk 3 0 rfl ?_
  rw [List.take_zero]
  refine v_ltk 4 0 rfl ?_
  rw [List.take_zero]
  try dsimp only [Nat.reduceAdd, nf_rep1, nf_rep0, nf_d0, nf_t0, nf_s0, nf_ac, nf_an, nf_d1, nf_t1, nf_s1, nf_d2, nf_t2, nf_s2, nf_d3, nf_t3, nf_s3, nf_d4, nf_t4, nf_s4, nf_d5, nf_t5, nf_s5, nf_d6, nf_t6, nf_s6, nf_d7, nf_t7, nf_s7, nf_d8, nf_t8, nf_s8, nf_d9, nf_t9, nf_s9, nf_d10, nf_t10, nf_s10, nf_d11, nf_t11, nf_s11, nf_d12, nf_t12, nf_s12, nf_d13, nf_t13, nf_s13, nf_d14, nf_t14, nf_s14, nf_d15, nf_t15, nf_s15, nf_d16, nf_t16, nf_s16, nf_d17, nf_t17, nf_s17, nf_d18, nf_t18, nf_s18, nf_d19, nf_t19, nf_s19, nf_d20, nf_t20, nf_s20]
  refine v_aload_n K dX8_findsSounds_0 rfl ?_
  refine v_iconst K (0) dX8_findsSounds_1 (by decide) ?_
  refine v_put K 0 rfl rfl iX8 tyX8 tyX8_ok nmX8 10 (by decide) rfl (by decide +kernel) rfl rfl (Nat.le_of_ble_eq_true rfl) dX8_findsSounds_2 ?_
  try dsimp only [Nat.reduceAdd, nf_rep1, nf_rep0, nf_d0, nf_t0, nf_s0, nf_ac, nf_an, nf_d1, nf_t1, nf_s1, nf_d2, nf_t2, nf_s2, nf_d3, nf_t3, nf_s3, nf_d4, nf_t4, nf_s4, nf_d5, nf_t5, nf_s5, nf_d6, nf_t6, nf_s6, nf_d7, nf_t7, nf_s7, nf_d8, nf_t8, nf_s8, nf_d9, nf_t9, nf_s9, nf_d10, nf_t10, nf_s10, nf_d11, nf_t11, nf_s11, nf_d12, nf_t12, nf_s12, nf_d13, nf_t13, nf_s13, nf_d14, nf_t14, nf_s14, nf_d15, nf_t15, nf_s15, nf_d16, nf_t16, nf_s16, nf_d17, nf_t17, nf_s17, nf_d18, nf_t18, nf_s18, nf_d19, nf_t19, nf_s19, nf_d20, nf_t20, nf_s20]
  refine v_aload_n K dX8_findsSounds_5 rfl ?_
  refine v_iconst K (0) dX8_findsSounds_6 (by decide) ?_
  refine v_put K 0 rfl rfl iX8 tyX8 tyX8_ok nmX8 11 (by decide) rfl (by decide +kernel) rfl rfl (Nat.le_of_ble_eq_true rfl) dX8_findsSounds_7 ?_
  try dsimp only [Nat.reduceAdd, nf_rep1, nf_rep0, nf_d0, nf_t0, nf_s0, nf_ac, nf_an, nf_d1, nf_t1, nf_s1, nf_d2, nf_t2, nf_s2, nf_d3, nf_t3, nf_s3, nf_d4, nf_t4, nf_s4, nf_d5, nf_t5, nf_s5, nf_d6, nf_t6, nf_s6, nf_d7, nf_t7, nf_s7, nf_d8, nf_t8, nf_s8, nf_d9, nf_t9, nf_s9, nf_d10, nf_t10, nf_s10, nf_d11, nf_t11, nf_s11, nf_d12, nf_t12, nf_s12, nf_d13, nf_t13, nf_s13, nf_d14, nf_t14, nf_s14, nf_d15, nf_t15, nf_s15, nf_d16, nf_t16, nf_s16, nf_d17, nf_t17, nf_s17, nf_d18, nf_t18, nf_s18, nf_d19, nf_t19, nf_s19, nf_d20, nf_t20, nf_s20]
  refine v_iconst K (0) dX8_findsSounds_10 (by decide) ?_
  refine v_istore_n K dX8_findsSounds_11 (by decide) ?_
  exact v_j (lp xs.length 0 ([], [], []) rfl (Nat.zero_le _) (Nat.le_refl _) rfl (Nat.le_refl _) ⟨12, by omega, rfl⟩) rfl rfl rfl
