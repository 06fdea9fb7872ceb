theorem hd_X8_rule : yX8_rule.cls = RX8 ∧ yX8_rule.cls ≠ "java/lang/invoke/MethodHandle" ∧ yX8_rule.cls ≠ "java/lang/invoke/VarHandle" ∧ (parseMethodDescriptor yX8_rule.desc).map (fun d => d.parameters.length) = some 2 := by decide +kernel
set_option maxHeartbeats 4000000 in
set_option maxRecDepth 100000 in
theorem c_X8_rule (cI cB : ClassId) (m : Nat → Nat) (hl it sz sl ut ol tl sp tw tm mm rl : Int32) (S : Bk) (f : Nat → Int32) (xs rf sd us : List Int32) (i w : Int32) (hA : allR S f) (hu : us.length = 30) : Ct cI cB yX8_rule wsX8_rule { frames := 5, cells := 0, slots := 0, locals := 114 } [.ref (m 0), .int i, .int w] [moM m hl it sz sl ut ol tl sp tw tm mm rl, arF cI (m 1) 570 f, arL cI (m 5) 12 xs, arL cI (m 6) 12 rf, arL cI (m 7) 12 sd, arL cI (m 8) 30 us] (fun ov M => ov = some (.int (vRule S i w)) ∧ ∃ (sz sl ut : Int32) (xs rf sd us : List Int32), us.length = 30 ∧ M = [moM m hl it sz sl ut ol tl sp tw tm mm rl, arF cI (m 1) 570 f, arL cI (m 5) 12 xs, arL cI (m 6) 12 rf, arL cI (m 7) 12 sd, arL cI (m 8) 30 us]) := by
  refine ct_of (cc := cX8_rule) (maxL := 4) (ret := (some .int)) (by decide) rfl (Nat.le_of_ble_eq_true rfl) [(0, .ref (m 0)), (1, .int i), (2, .int w)] rfl ?_
  intro X hI hB K E
  subst hI
  subst hB
  have iX8 : ∀ w ∈ u_ws RX8 TX8 28, w ∈ wsX8_rule := by decide +kernel
  refine v_aload_n K dX8_rule_0 rfl ?_
  refine v_iload_n K dX8_rule_1 rfl ?_
  refine v_callVi K [0, 1] (c_X8_isRule (XI X) (XB X) _ _ _ _ _ _ _ _ _ _ _ _ _ S _ _ ?hc2_0_1) rfl gX8_rule_X8_isRule rfl rfl hd_X8_isRule ⟨rfl, rfl⟩ ⟨by decide, by decide⟩ 0 rfl hasF_c rfl (by decide) (Nat.le_of_ble_eq_true rfl) ⟨Nat.zero_le _, Nat.zero_le _⟩ rfl dX8_rule_2 ?_
  case hc2_0_1 => exact hA
  try dsimp only [Nat.reduceAdd, nf_rep1, nf_rep0, nf_d0, nf_t0, nf_s0, nf_ac, nf_an, nf_d1, nf_t1, nf_s1, nf_d2, nf_t2, nf_s2, nf_d3, nf_t3, nf_s3, nf_d4, nf_t4, nf_s4, nf_d5, nf_t5, nf_s5, nf_d6, nf_t6, nf_s6, nf_d7, nf_t7, nf_s7, nf_d8, nf_t8, nf_s8, nf_d9, nf_t9, nf_s9, nf_d10, nf_t10, nf_s10, nf_d11, nf_t11, nf_s11, nf_d12, nf_t12, nf_s12, nf_d13, nf_t13, nf_s13, nf_d14, nf_t14, nf_s14, nf_d15, nf_t15, nf_s15, nf_d16, nf_t16, nf_s16, nf_d17, nf_t17, nf_s17, nf_d18, nf_t18, nf_s18, nf_d19, nf_t19, nf_s19, nf_d20, nf_t20, nf_s20]
  refine v_if_ne K 10 dX8_rule_5 (by decide) (fun c5 => ?_) (fun c5 => ?_)
  · have hbt := bI_1 c5
    have hb1 := hA.1.1
    obtain ⟨I, hI, rfl⟩ := hasL_of (L := S.1) (by omega) hbt
    have hAr := hA.2.2.2.1 I hI
    have hw := hA.1.2.2.2.2.2.2.1 I hI
    have h30 := hA.1.1
    have hn : (S.1.getD I []).length = (nthR S I).length := rfl
    refine v_iload_n K dX8_rule_10 rfl ?_
    refine v_callSi K [] (c_X8_ruleAt (XI X) (XB X) _ ) rfl gX8_rule_X8_ruleAt rfl rfl hd_X8_ruleAt ⟨rfl, rfl⟩ ⟨by decide, by decide⟩ (by decide) (Nat.le_of_ble_eq_true rfl) ⟨Nat.zero_le _, Nat.zero_le _⟩ rfl dX8_rule_11 ?_
    try dsimp only [Nat.reduceAdd, nf_rep1, nf_rep0, nf_d0, nf_t0, nf_s0, nf_ac, nf_an, nf_d1, nf_t1, nf_s1, nf_d2, nf_t2, nf_s2, nf_d3, nf_t3, nf_s3, nf_d4, nf_t4, nf_s4, nf_d5, nf_t5, nf_s5, nf_d6, nf_t6, nf_s6, nf_d7, nf_t7, nf_s7, nf_d8, nf_t8, nf_s8, nf_d9, nf_t9, nf_s9, nf_d10, nf_t10, nf_s10, nf_d11, nf_t11, nf_s11, nf_d12, nf_t12, nf_s12, nf_d13, nf_t13, nf_s13, nf_d14, nf_t14, nf_s14, nf_d15, nf_t15, nf_s15, nf_d16, nf_t16, nf_s16, nf_d17, nf_t17, nf_s17, nf_d18, nf_t18, nf_s18, nf_d19, nf_t19, nf_s19, nf_d20, nf_t20, nf_s20]
    refine v_istore_n K dX8_rule_14 (by decide) ?_
    refine v_iload_n K dX8_rule_15 rfl ?_
    refine v_case (0) (fun s16_0 => ?_) (fun s16_0 => ?_)
    · refine v_tabHit K 48 dX8_rule_16 s16_0 (by decide) (by decide) rfl (by decide) ?_
      refine v_aload_n K dX8_rule_48 rfl ?_
      refine v_get K 0 rfl hasF_c rfl iX8 0 (by decide) rfl (by decide +kernel) rfl dX8_rule_49 ?_
      refine v_iload_n K dX8_rule_52 rfl ?_
      refine v_fald K 1 rfl (2 + 7 * I) ?hx53_3 ?ix53_3 dX8_rule_53 ?_
      case hx53_3 => exact rfl
      case ix53_3 => exact ⟨by omega, by decide⟩
      rw [hAr.1]
      refine v_iret K E dX8_rule_54 ?_ rfl
      exact ⟨by rw [rul_0 hbt hI (by omega) s16_0] <;> rfl, _, _, _, _, _, _, _, hu, rfl⟩
    · refine v_case (1) (fun s16_1 => ?_) (fun s16_1 => ?_)
      · refine v_tabHit K 55 dX8_rule_16 s16_1 (by decide) (by decide) rfl (by decide) ?_
        refine v_aload_n K dX8_rule_55 rfl ?_
        refine v_get K 0 rfl hasF_c rfl iX8 0 (by decide) rfl (by decide +kernel) rfl dX8_rule_56 ?_
        refine v_iload_n K dX8_rule_59 rfl ?_
        refine v_iconst K (5) dX8_rule_60 (by decide) ?_
        refine v_iadd K dX8_rule_61 ?_
        refine v_fald K 1 rfl (2 + 7 * I + 5) ?hx62_4 ?ix62_4 dX8_rule_62 ?_
        case hx62_4 => exact nI_add _ 5
        case ix62_4 => exact ⟨by omega, by decide⟩
        rw [hAr.2.2.1]
        refine v_iconst K (-1) dX8_rule_63 (by decide) ?_
        refine v_ic_ne K 71 dX8_rule_64 (by decide) (fun c64 => ?_) (fun c64 => ?_)
        · refine v_aload_n K dX8_rule_71 rfl ?_
          refine v_get K 0 rfl hasF_c rfl iX8 0 (by decide) rfl (by decide +kernel) rfl dX8_rule_72 ?_
          refine v_iload_n K dX8_rule_75 rfl ?_
          refine v_iconst K (5) dX8_rule_76 (by decide) ?_
          refine v_iadd K dX8_rule_77 ?_
          refine v_fald K 1 rfl (2 + 7 * I + 5) ?hx78_5 ?ix78_5 dX8_rule_78 ?_
          case hx78_5 => exact nI_add _ 5
          case ix78_5 => exact ⟨by omega, by decide⟩
          refine v_iret K E dX8_rule_79 ?_ rfl
          exact ⟨by rw [hAr.2.2.1, rul_1 hbt (by omega) s16_0 s16_1, (sgn0_s c64).1] <;> rfl, _, _, _, _, _, _, _, hu, rfl⟩
        · refine v_iconst K (0) dX8_rule_67 (by decide) ?_
          refine v_goto K 79 dX8_rule_68 (by decide) ?_
          refine v_iret K E dX8_rule_79 ?_ rfl
          exact ⟨by rw [rul_1 hbt (by omega) s16_0 s16_1, sgn0_0 hw.2.2.2.1 c64] <;> rfl, _, _, _, _, _, _, _, hu, rfl⟩
      · refine v_case (2) (fun s16_2 => ?_) (fun s16_2 => ?_)
        · refine v_tabHit K 80 dX8_rule_16 s16_2 (by decide) (by decide) rfl (by decide) ?_
          refine v_aload_n K dX8_rule_80 rfl ?_
          refine v_get K 0 rfl hasF_c rfl iX8 0 (by decide) rfl (by decide +kernel) rfl dX8_rule_81 ?_
          refine v_iload_n K dX8_rule_84 rfl ?_
          refine v_bipush K (6) dX8_rule_85 (by decide) ?_
          refine v_iadd K dX8_rule_87 ?_
          refine v_fald K 1 rfl (2 + 7 * I + 6) ?hx88_6 ?ix88_6 dX8_rule_88 ?_
          case hx88_6 => exact nI_add _ 6
          case ix88_6 => exact ⟨by omega, by decide⟩
          rw [hAr.2.2.2]
          refine v_iret K E dX8_rule_89 ?_ rfl
          exact ⟨by rw [rul_2 hbt (by omega) s16_0 s16_1 s16_2] <;> rfl, _, _, _, _, _, _, _, hu, rfl⟩
        · refine v_case (3) (fun s16_3 => ?_) (fun s16_3 => ?_)
          · refine v_tabHit K 90 dX8_rule_16 s16_3 (by decide) (by decide) rfl (by decide) ?_
            refine v_aload_n K dX8_rule_90 rfl ?_
            refine v_callV K [0, 1, 2, 3, 4, 5] (c_X8_uses (XI X) (XB X) _ _ _ _ _ _ _ _ _ _ _ _ _ S _ _ _ _ _ ?hc91_0_7) rfl gX8_rule_X8_uses rfl rfl hd_X8_uses ⟨rfl, rfl⟩ ⟨by decide, by decide⟩ 0 rfl hasF_c rfl (by decide) (Nat.le_of_ble_eq_true rfl) ⟨Nat.zero_le _, Nat.zero_le _⟩ rfl dX8_rule_91 ?_
            case hc91_0_7 => exact hA
            try dsimp only [Nat.reduceAdd, nf_rep1, nf_rep0, nf_d0, nf_t0, nf_s0, nf_ac, nf_an, nf_d1, nf_t1, nf_s1, nf_d2, nf_t2, nf_s2, nf_d3, nf_t3, nf_s3, nf_d4, nf_t4, nf_s4, nf_d5, nf_t5, nf_s5, nf_d6, nf_t6, nf_s6, nf_d7, nf_t7, nf_s7, nf_d8, nf_t8, nf_s8, nf_d9, nf_t9, nf_s9, nf_d10, nf_t10, nf_s10, nf_d11, nf_t11, nf_s11, nf_d12, nf_t12, nf_s12, nf_d13, nf_t13, nf_s13, nf_d14, nf_t14, nf_s14, nf_d15, nf_t15, nf_s15, nf_d16, nf_t16, nf_s16, nf_d17, nf_t17, nf_s17, nf_d18, nf_t18, nf_s18, nf_d19, nf_t19, nf_s19, nf_d20, nf_t20, nf_s20]
            intro ov Mc1 hpo _
            obtain ⟨rfl, sz, sl, ut, xs, rf, sd, rfl⟩ := hpo
            refine v_aload_n K dX8_rule_94 rfl ?_
            refine v_get K 0 rfl hasF_c rfl iX8 12 (by decide) rfl (by decide +kernel) rfl dX8_rule_95 ?_
            refine v_iload_n K dX8_rule_98 rfl ?_
            refine v_lald K 5 rfl (I) ?hx99_8 ?ix99_8 dX8_rule_99 ?_
            case hx99_8 => exact rfl
            case ix99_8 => rw [usS_len]; omega
            refine v_iret K E dX8_rule_100 ?_ rfl
            exact ⟨by rw [rul_3 hA.1 hbt hI s16_0 s16_1 s16_2 s16_3] <;> rfl, _, _, _, _, _, _, _, usS_len _ _, rfl⟩
          · refine v_tabOut K 101 dX8_rule_16 (by have h0 := lv_neT (k := 0) (a := 0) s16_0 rfl; have h1 := lv_neT (k := 1) (a := 1) s16_1 rfl; have h2 := lv_neT (k := 2) (a := 2) s16_2 rfl; have h3 := lv_neT (k := 3) (a := 3) s16_3 rfl; omega) (by decide) ?_
            refine v_bipush K (-2) dX8_rule_101 (by decide) ?_
            refine v_iret K E dX8_rule_103 ?_ rfl
            exact ⟨by rw [rul_b hbt s16_0 s16_1 s16_2 s16_3] <;> rfl, _, _, _, _, _, _, _, hu, rfl⟩
  · refine v_iconst K (-1) dX8_rule_8 (by decide) ?_
    refine v_iret K E dX8_rule_9 ?_ rfl
    exact ⟨by rw [rul_n (bI_0 c5)] <;> rfl, _, _, _, _, _, _, _, hu, rfl⟩

theorem hd_X8_word : yX8_word.cls = RX8 ∧ yX8_word.cls ≠ "java/lang/invoke/MethodHandle" ∧ yX8_word.cls ≠ "java/lang/invoke/VarHandle" ∧ (parseMethodDescriptor yX8_word.desc).map (fun d => d.parameters.length) = some 2 := by decide +kernel
set_option maxHeartbeats 4000000 in
set_option maxRecDepth 100000 in
theorem c_X8_word (cI cB : ClassId) (m : Nat → Nat) (hl it sz sl ut ol tl sp tw tm mm rl : Int32) (S : Bk) (f : Nat → Int32) (xs rf sd us os C N : List Int32) (i w : Int32) (hA : allR S f) (hu : us.length = 30) (hC : C.length = 520) : Ct cI cB yX8_word wsX8_word { frames := 6, cells := 0, slots := 0, locals := 139 } [.ref (m 0), .int i, .int w] [moM m hl it sz sl ut ol tl sp tw tm mm rl, arF cI (m 1) 570 f, arL cI (m 5) 12 xs, arL cI (m 6) 12 rf, arL cI (m 7) 12 sd, arL cI (m 8) 30 us, arL cI (m 9) 26 os, arL cI (m 10) 520 C, arL cI (m 11) 20 N] (fun ov M => ov = some (.int (vWord S i w)) ∧ ∃ (sz sl ut ol : Int32) (xs rf sd us os C N : List Int32), us.length = 30 ∧ C.length = 520 ∧ M = [moM m hl it sz sl ut ol tl sp tw tm mm rl, arF cI (m 1) 570 f, arL cI (m 5) 12 xs, arL cI (m 6) 12 rf, arL cI (m 7) 12 sd, arL cI (m 8) 30 us, arL cI (m 9) 26 os, arL cI (m 10) 520 C, arL cI (m 11) 20 N]) := by
  refine ct_of (cc := cX8_word) (maxL := 3) (ret := (some .int)) (by decide) rfl (Nat.le_of_ble_eq_true rfl) [(0, .ref (m 0)), (1, .int i), (2, .int w)] rfl ?_
  intro X hI hB K E
  subst hI
  subst hB
  have iX8 : ∀ w ∈ u_ws RX8 TX8 28, w ∈ wsX8_word := by decide +kernel
  refine v_aload_n K dX8_word_0 rfl ?_
  refine v_iload_n K dX8_word_1 rfl ?_
  refine v_callVi K [0, 1] (c_X8_isWord (XI X) (XB X) _ _ _ _ _ _ _ _ _ _ _ _ _ S _ _ ?hc2_0_1) rfl gX8_word_X8_isWord rfl rfl hd_X8_isWord ⟨rfl, rfl⟩ ⟨by decide, by decide⟩ 0 rfl hasF_c rfl (by decide) (Nat.le_of_ble_eq_true rfl) ⟨Nat.zero_le _, Nat.zero_le _⟩ rfl dX8_word_2 ?_
  case hc2_0_1 => exact hA
  try dsimp only [Nat.reduceAdd, nf_rep1, nf_rep0, nf_d0, nf_t0, nf_s0, nf_ac, nf_an, nf_d1, nf_t1, nf_s1, nf_d2, nf_t2, nf_s2, nf_d3, nf_t3, nf_s3, nf_d4, nf_t4, nf_s4, nf_d5, nf_t5, nf_s5, nf_d6, nf_t6, nf_s6, nf_d7, nf_t7, nf_s7, nf_d8, nf_t8, nf_s8, nf_d9, nf_t9, nf_s9, nf_d10, nf_t10, nf_s10, nf_d11, nf_t11, nf_s11, nf_d12, nf_t12, nf_s12, nf_d13, nf_t13, nf_s13, nf_d14, nf_t14, nf_s14, nf_d15, nf_t15, nf_s15, nf_d16, nf_t16, nf_s16, nf_d17, nf_t17, nf_s17, nf_d18, nf_t18, nf_s18, nf_d19, nf_t19, nf_s19, nf_d20, nf_t20, nf_s20]
  refine v_if_ne K 10 dX8_word_5 (by decide) (fun c5 => ?_) (fun c5 => ?_)
  · have hbt := bI_1 c5
    have hb2 := hA.1.2.2.2.2.1
    obtain ⟨I, hI, rfl⟩ := hasL_of (L := S.2.2.2.2.1) (by omega) hbt
    have hww := hA.1.2.2.2.2.2.2.2.2 I hI
    have hok := hrW_ok hA.1 hww.2.2.1
    have hsI : I < (spL S).length := by rw [spL_len]; exact hI
    refine v_aload_n K dX8_word_10 rfl ?_
    refine v_callV K [0, 1, 2, 3, 4, 5, 6, 7, 8] (c_X8_spells (XI X) (XB X) _ _ _ _ _ _ _ _ _ _ _ _ _ S _ _ _ _ _ _ _ _ ?hc11_0_2 ?hc11_1_2 ?hc11_2_2) rfl gX8_word_X8_spells rfl rfl hd_X8_spells ⟨rfl, rfl⟩ ⟨by decide, by decide⟩ 0 rfl hasF_c rfl (by decide) (Nat.le_of_ble_eq_true rfl) ⟨Nat.zero_le _, Nat.zero_le _⟩ rfl dX8_word_11 ?_
    case hc11_0_2 => exact hA
    case hc11_1_2 => exact hu
    case hc11_2_2 => exact hC
    try dsimp only [Nat.reduceAdd, nf_rep1, nf_rep0, nf_d0, nf_t0, nf_s0, nf_ac, nf_an, nf_d1, nf_t1, nf_s1, nf_d2, nf_t2, nf_s2, nf_d3, nf_t3, nf_s3, nf_d4, nf_t4, nf_s4, nf_d5, nf_t5, nf_s5, nf_d6, nf_t6, nf_s6, nf_d7, nf_t7, nf_s7, nf_d8, nf_t8, nf_s8, nf_d9, nf_t9, nf_s9, nf_d10, nf_t10, nf_s10, nf_d11, nf_t11, nf_s11, nf_d12, nf_t12, nf_s12, nf_d13, nf_t13, nf_s13, nf_d14, nf_t14, nf_s14, nf_d15, nf_t15, nf_s15, nf_d16, nf_t16, nf_s16, nf_d17, nf_t17, nf_s17, nf_d18, nf_t18, nf_s18, nf_d19, nf_t19, nf_s19, nf_d20, nf_t20, nf_s20]
    intro ov Mc1 hpo _
    obtain ⟨rfl, sz, sl, ut, ol, xs, rf, sd, us, os, C, hu, hC, rfl⟩ := hpo
    refine v_aload_n K dX8_word_14 rfl ?_
    refine v_iload_n K dX8_word_15 rfl ?_
    refine v_callVv K [0, 1, 2] (c_X8_lays (XI X) (XB X) _ _ _ _ _ _ _ _ _ _ _ _ _ S _ _ _ ?hc16_0_3 ?hc16_1_3) rfl gX8_word_X8_lays rfl rfl hd_X8_lays ⟨rfl, rfl⟩ ⟨by decide, by decide⟩ 0 rfl hasF_c rfl (by decide) (Nat.le_of_ble_eq_true rfl) ⟨Nat.zero_le _, Nat.zero_le _⟩ rfl dX8_word_16 ?_
    case hc16_0_3 => exact hA
    case hc16_1_3 => exact hI
    try dsimp only [Nat.reduceAdd, nf_rep1, nf_rep0, nf_d0, nf_t0, nf_s0, nf_ac, nf_an, nf_d1, nf_t1, nf_s1, nf_d2, nf_t2, nf_s2, nf_d3, nf_t3, nf_s3, nf_d4, nf_t4, nf_s4, nf_d5, nf_t5, nf_s5, nf_d6, nf_t6, nf_s6, nf_d7, nf_t7, nf_s7, nf_d8, nf_t8, nf_s8, nf_d9, nf_t9, nf_s9, nf_d10, nf_t10, nf_s10, nf_d11, nf_t11, nf_s11, nf_d12, nf_t12, nf_s12, nf_d13, nf_t13, nf_s13, nf_d14, nf_t14, nf_s14, nf_d15, nf_t15, nf_s15, nf_d16, nf_t16, nf_s16, nf_d17, nf_t17, nf_s17, nf_d18, nf_t18, nf_s18, nf_d19, nf_t19, nf_s19, nf_d20, nf_t20, nf_s20]
    refine v_aload_n K dX8_word_19 rfl ?_
    refine v_callVv K [0, 1, 2, 3, 4, 5] (c_X8_findsSounds (XI X) (XB X) _ _ _ _ _ _ _ _ _ _ _ _ S _ _ _ _ _ ?hc20_0_4 ?hc20_1_4 ?hc20_2_4) rfl gX8_word_X8_findsSounds rfl rfl hd_X8_findsSounds ⟨rfl, rfl⟩ ⟨by decide, by decide⟩ 0 rfl hasF_c rfl (by decide) (Nat.le_of_ble_eq_true rfl) ⟨Nat.zero_le _, Nat.zero_le _⟩ rfl dX8_word_20 ?_
    case hc20_0_4 => exact hA
    case hc20_1_4 => exact hww.2.2.1
    case hc20_2_4 => exact hu
    try dsimp only [Nat.reduceAdd, nf_rep1, nf_rep0, nf_d0, nf_t0, nf_s0, nf_ac, nf_an, nf_d1, nf_t1, nf_s1, nf_d2, nf_t2, nf_s2, nf_d3, nf_t3, nf_s3, nf_d4, nf_t4, nf_s4, nf_d5, nf_t5, nf_s5, nf_d6, nf_t6, nf_s6, nf_d7, nf_t7, nf_s7, nf_d8, nf_t8, nf_s8, nf_d9, nf_t9, nf_s9, nf_d10, nf_t10, nf_s10, nf_d11, nf_t11, nf_s11, nf_d12, nf_t12, nf_s12, nf_d13, nf_t13, nf_s13, nf_d14, nf_t14, nf_s14, nf_d15, nf_t15, nf_s15, nf_d16, nf_t16, nf_s16, nf_d17, nf_t17, nf_s17, nf_d18, nf_t18, nf_s18, nf_d19, nf_t19, nf_s19, nf_d20, nf_t20, nf_s20]
    refine v_iload_n K dX8_word_23 rfl ?_
    refine v_case (0) (fun s24_0 => ?_) (fun s24_0 => ?_)
    · refine v_tabHit K 68 dX8_word_24 s24_0 (by decide) (by decide) rfl (by decide) ?_
      refine v_aload_n K dX8_word_68 rfl ?_
      refine v_get K 0 rfl hasF_c rfl iX8 0 (by decide) rfl (by decide +kernel) rfl dX8_word_69 ?_
      refine v_iload_n K dX8_word_72 rfl ?_
      refine v_callSi K [] (c_X8_wordAt (XI X) (XB X) _ ) rfl gX8_word_X8_wordAt rfl rfl hd_X8_wordAt ⟨rfl, rfl⟩ ⟨by decide, by decide⟩ (by decide) (Nat.le_of_ble_eq_true rfl) ⟨Nat.zero_le _, Nat.zero_le _⟩ rfl dX8_word_73 ?_
      try dsimp only [Nat.reduceAdd, nf_rep1, nf_rep0, nf_d0, nf_t0, nf_s0, nf_ac, nf_an, nf_d1, nf_t1, nf_s1, nf_d2, nf_t2, nf_s2, nf_d3, nf_t3, nf_s3, nf_d4, nf_t4, nf_s4, nf_d5, nf_t5, nf_s5, nf_d6, nf_t6, nf_s6, nf_d7, nf_t7, nf_s7, nf_d8, nf_t8, nf_s8, nf_d9, nf_t9, nf_s9, nf_d10, nf_t10, nf_s10, nf_d11, nf_t11, nf_s11, nf_d12, nf_t12, nf_s12, nf_d13, nf_t13, nf_s13, nf_d14, nf_t14, nf_s14, nf_d15, nf_t15, nf_s15, nf_d16, nf_t16, nf_s16, nf_d17, nf_t17, nf_s17, nf_d18, nf_t18, nf_s18, nf_d19, nf_t19, nf_s19, nf_d20, nf_t20, nf_s20]
      refine v_fald K 1 rfl (290 + 14 * I) ?hx76_6 ?ix76_6 dX8_word_76 ?_
      case hx76_6 => exact rfl
      case ix76_6 => exact ⟨by omega, by decide⟩
      rw [(hA.2.2.2.2.2 I hI).1]
      refine v_iret K E dX8_word_77 ?_ rfl
      exact ⟨by rw [wrd_0 hbt (by omega) s24_0] <;> rfl, _, _, _, _, _, _, _, _, _, _, _, (by first | rw [incL_len]; exact hu | exact hu), hC.2.1, rfl⟩
    · refine v_case (1) (fun s24_1 => ?_) (fun s24_1 => ?_)
      · refine v_tabHit K 78 dX8_word_24 s24_1 (by decide) (by decide) rfl (by decide) ?_
        refine v_aload_n K dX8_word_78 rfl ?_
        refine v_get K 0 rfl hasF_c rfl iX8 7 (by decide) rfl (by decide +kernel) rfl dX8_word_79 ?_
        refine v_iret K E dX8_word_82 ?_ rfl
        exact ⟨by rw [wrd_1 hbt hI (by omega) s24_0 s24_1] <;> rfl, _, _, _, _, _, _, _, _, _, _, _, (by first | rw [incL_len]; exact hu | exact hu), hC.2.1, rfl⟩
      · refine v_case (2) (fun s24_2 => ?_) (fun s24_2 => ?_)
        · refine v_tabHit K 83 dX8_word_24 s24_2 (by decide) (by decide) rfl (by decide) ?_
          refine v_aload_n K dX8_word_83 rfl ?_
          refine v_get K 0 rfl hasF_c rfl iX8 10 (by decide) rfl (by decide +kernel) rfl dX8_word_84 ?_
          refine v_iret K E dX8_word_87 ?_ rfl
          exact ⟨by rw [wrd_2 hA.1 hbt hI s24_0 s24_1 s24_2] <;> rfl, _, _, _, _, _, _, _, _, _, _, _, (by first | rw [incL_len]; exact hu | exact hu), hC.2.1, rfl⟩
        · refine v_case (3) (fun s24_3 => ?_) (fun s24_3 => ?_)
          · refine v_tabHit K 88 dX8_word_24 s24_3 (by decide) (by decide) rfl (by decide) ?_
            refine v_aload_n K dX8_word_88 rfl ?_
            refine v_get K 0 rfl hasF_c rfl iX8 16 (by decide) rfl (by decide +kernel) rfl dX8_word_89 ?_
            refine v_iload_n K dX8_word_92 rfl ?_
            refine v_lald K 8 rfl (I) ?hx93_7 ?ix93_7 dX8_word_93 ?_
            case hx93_7 => exact rfl
            case ix93_7 => rw [lens_len]; exact hsI
            rw [lens_gd hsI]
            refine v_iret K E dX8_word_94 ?_ rfl
            exact ⟨by rw [wrd_3 hA.1 hbt hI s24_0 s24_1 s24_2 s24_3] <;> rfl, _, _, _, _, _, _, _, _, _, _, _, (by first | rw [incL_len]; exact hu | exact hu), hC.2.1, rfl⟩
          · refine v_case (4) (fun s24_4 => ?_) (fun s24_4 => ?_)
            · refine v_tabHit K 95 dX8_word_24 s24_4 (by decide) (by decide) rfl (by decide) ?_
              refine v_aload_n K dX8_word_95 rfl ?_
              refine v_iload_n K dX8_word_96 rfl ?_
              refine v_iconst K (0) dX8_word_97 (by decide) ?_
              refine v_callVi K [0, 1, 7, 8] (c_X8_withSpelling (XI X) (XB X) _ _ _ _ _ _ _ _ _ _ _ _ _ S _ _ _ _ false ?hc98_0_8 ?hc98_1_8 ?hc98_2_8 ?hc98_3_8) rfl gX8_word_X8_withSpelling rfl rfl hd_X8_withSpelling ⟨rfl, rfl⟩ ⟨by decide, by decide⟩ 0 rfl hasF_c rfl (by decide) (Nat.le_of_ble_eq_true rfl) ⟨Nat.zero_le _, Nat.zero_le _⟩ rfl dX8_word_98 ?_
              case hc98_0_8 => exact hA
              case hc98_1_8 => exact hC
              case hc98_2_8 => exact hsI
              case hc98_3_8 => exact spL_len
              try dsimp only [Nat.reduceAdd, nf_rep1, nf_rep0, nf_d0, nf_t0, nf_s0, nf_ac, nf_an, nf_d1, nf_t1, nf_s1, nf_d2, nf_t2, nf_s2, nf_d3, nf_t3, nf_s3, nf_d4, nf_t4, nf_s4, nf_d5, nf_t5, nf_s5, nf_d6, nf_t6, nf_s6, nf_d7, nf_t7, nf_s7, nf_d8, nf_t8, nf_s8, nf_d9, nf_t9, nf_s9, nf_d10, nf_t10, nf_s10, nf_d11, nf_t11, nf_s11, nf_d12, nf_t12, nf_s12, nf_d13, nf_t13, nf_s13, nf_d14, nf_t14, nf_s14, nf_d15, nf_t15, nf_s15, nf_d16, nf_t16, nf_s16, nf_d17, nf_t17, nf_s17, nf_d18, nf_t18, nf_s18, nf_d19, nf_t19, nf_s19, nf_d20, nf_t20, nf_s20]
              rw [if_neg Bool.false_ne_true]
              refine v_iret K E dX8_word_101 ?_ rfl
              exact ⟨by rw [wrd_4 hA.1 hbt hI s24_0 s24_1 s24_2 s24_3 s24_4] <;> rfl, _, _, _, _, _, _, _, _, _, _, _, (by first | rw [incL_len]; exact hu | exact hu), hC.2.1, rfl⟩
            · refine v_case (5) (fun s24_5 => ?_) (fun s24_5 => ?_)
              · refine v_tabHit K 102 dX8_word_24 s24_5 (by decide) (by decide) rfl (by decide) ?_
                refine v_aload_n K dX8_word_102 rfl ?_
                refine v_iload_n K dX8_word_103 rfl ?_
                refine v_iconst K (1) dX8_word_104 (by decide) ?_
                refine v_callVi K [0, 1, 7, 8] (c_X8_withSpelling (XI X) (XB X) _ _ _ _ _ _ _ _ _ _ _ _ _ S _ _ _ _ true ?hc105_0_9 ?hc105_1_9 ?hc105_2_9 ?hc105_3_9) rfl gX8_word_X8_withSpelling rfl rfl hd_X8_withSpelling ⟨rfl, rfl⟩ ⟨by decide, by decide⟩ 0 rfl hasF_c rfl (by decide) (Nat.le_of_ble_eq_true rfl) ⟨Nat.zero_le _, Nat.zero_le _⟩ rfl dX8_word_105 ?_
                case hc105_0_9 => exact hA
                case hc105_1_9 => exact hC
                case hc105_2_9 => exact hsI
                case hc105_3_9 => exact spL_len
                try dsimp only [Nat.reduceAdd, nf_rep1, nf_rep0, nf_d0, nf_t0, nf_s0, nf_ac, nf_an, nf_d1, nf_t1, nf_s1, nf_d2, nf_t2, nf_s2, nf_d3, nf_t3, nf_s3, nf_d4, nf_t4, nf_s4, nf_d5, nf_t5, nf_s5, nf_d6, nf_t6, nf_s6, nf_d7, nf_t7, nf_s7, nf_d8, nf_t8, nf_s8, nf_d9, nf_t9, nf_s9, nf_d10, nf_t10, nf_s10, nf_d11, nf_t11, nf_s11, nf_d12, nf_t12, nf_s12, nf_d13, nf_t13, nf_s13, nf_d14, nf_t14, nf_s14, nf_d15, nf_t15, nf_s15, nf_d16, nf_t16, nf_s16, nf_d17, nf_t17, nf_s17, nf_d18, nf_t18, nf_s18, nf_d19, nf_t19, nf_s19, nf_d20, nf_t20, nf_s20]
                rw [if_pos rfl]
                have hcl := cntR_le (sameP (spL S) I) I
                refine v_if_ne K 115 dX8_word_108 (by decide) (fun c108 => ?_) (fun c108 => ?_)
                · refine v_iconst K (0) dX8_word_115 (by decide) ?_
                  refine v_iret K E dX8_word_116 ?_ rfl
                  exact ⟨by rw [wrd_5 hA.1 hbt hI s24_0 s24_1 s24_2 s24_3 s24_4 s24_5, decide_eq_false (fun z => c108 (by rw [z] <;> rfl))] <;> rfl, _, _, _, _, _, _, _, _, _, _, _, (by first | rw [incL_len]; exact hu | exact hu), hC.2.1, rfl⟩
                · refine v_iconst K (1) dX8_word_111 (by decide) ?_
                  refine v_goto K 116 dX8_word_112 (by decide) ?_
                  refine v_iret K E dX8_word_116 ?_ rfl
                  exact ⟨by rw [wrd_5 hA.1 hbt hI s24_0 s24_1 s24_2 s24_3 s24_4 s24_5, decide_eq_true (nI_z (by omega) c108)] <;> rfl, _, _, _, _, _, _, _, _, _, _, _, (by first | rw [incL_len]; exact hu | exact hu), hC.2.1, rfl⟩
              · refine v_case (6) (fun s24_6 => ?_) (fun s24_6 => ?_)
                · refine v_tabHit K 117 dX8_word_24 s24_6 (by decide) (by decide) rfl (by decide) ?_
                  refine v_aload_n K dX8_word_117 rfl ?_
                  refine v_get K 0 rfl hasF_c rfl iX8 11 (by decide) rfl (by decide +kernel) rfl dX8_word_118 ?_
                  refine v_iret K E dX8_word_121 ?_ rfl
                  exact ⟨by rw [wrd_6 hA.1 hbt hI s24_0 s24_1 s24_2 s24_3 s24_4 s24_5 s24_6] <;> rfl, _, _, _, _, _, _, _, _, _, _, _, (by first | rw [incL_len]; exact hu | exact hu), hC.2.1, rfl⟩
                · refine v_tabOut K 122 dX8_word_24 (by have h0 := lv_neT (k := 0) (a := 0) s24_0 rfl; have h1 := lv_neT (k := 1) (a := 1) s24_1 rfl; have h2 := lv_neT (k := 2) (a := 2) s24_2 rfl; have h3 := lv_neT (k := 3) (a := 3) s24_3 rfl; have h4 := lv_neT (k := 4) (a := 4) s24_4 rfl; have h5 := lv_neT (k := 5) (a := 5) s24_5 rfl; have h6 := lv_neT (k := 6) (a := 6) s24_6 rfl; omega) (by decide) ?_
                  refine v_bipush K (-2) dX8_word_122 (by decide) ?_
                  refine v_iret K E dX8_word_124 ?_ rfl
                  exact ⟨by rw [wrd_b hbt s24_0 s24_1 s24_2 s24_3 s24_4 s24_5 s24_6] <;> rfl, _, _, _, _, _, _, _, _, _, _, _, (by first | rw [incL_len]; exact hu | exact hu), hC.2.1, rfl⟩
  · refine v_iconst K (-1) dX8_word_8 (by decide) ?_
    refine v_iret K E dX8_word_9 ?_ rfl
    exact ⟨by rw [wrd_n (bI_0 c5)] <;> rfl, _, _, _, _, _, _, _, _, _, _, _, hu, hC, rfl⟩

theorem hd_X8_at : yX8_at.cls = RX8 ∧ yX8_at.cls ≠ "java/lang/invoke/MethodHandle" ∧ yX8_at.cls ≠ "java/lang/invoke/VarHandle" ∧ (parseMethodDescriptor yX8_at.desc).map (fun d => d.parameters.length) = some 3 := by decide +kernel
set_option maxHeartbeats 4000000 in
set_option maxRecDepth 100000 in
theorem c_X8_at (cI cB : ClassId) (m : Nat → Nat) (hl it sz sl ut ol tl sp tw tm mm rl : Int32) (S : Bk) (f : Nat → Int32) (xs rf sd us os C N : List Int32) (i w j : Int32) (hA : allR S f) (hu : us.length = 30) (hC : C.length = 520) : Ct cI cB yX8_at wsX8_at { frames := 6, cells := 0, slots := 0, locals := 139 } [.ref (m 0), .int i, .int w, .int j] [moM m hl it sz sl ut ol tl sp tw tm mm rl, arF cI (m 1) 570 f, arL cI (m 5) 12 xs, arL cI (m 6) 12 rf, arL cI (m 7) 12 sd, arL cI (m 8) 30 us, arL cI (m 9) 26 os, arL cI (m 10) 520 C, arL cI (m 11) 20 N] (fun ov M => ov = some (.int (vAt S i w j)) ∧ ∃ (sz sl ut ol : Int32) (xs rf sd us os C N : List Int32), us.length = 30 ∧ C.length = 520 ∧ M = [moM m hl it sz sl ut ol tl sp tw tm mm rl, arF cI (m 1) 570 f, arL cI (m 5) 12 xs, arL cI (m 6) 12 rf, arL cI (m 7) 12 sd, arL cI (m 8) 30 us, arL cI (m 9) 26 os, arL cI (m 10) 520 C, arL cI (m 11) 20 N]) := by
  refine ct_of (cc := cX8_at) (maxL := 4) (ret := (some .int)) (by decide) rfl (Nat.le_of_ble_eq_true rfl) [(0, .ref (m 0)), (1, .int i), (2, .int w), (3, .int j)] rfl ?_
  intro X hI hB K E
  subst hI
  subst hB
  have iX8 : ∀ w ∈ u_ws RX8 TX8 28, w ∈ wsX8_at := by decide +kernel
  refine v_aload_n K dX8_at_0 rfl ?_
  refine v_iload_n K dX8_at_1 rfl ?_
  refine v_callVi K [0, 1] (c_X8_isWord (XI X) (XB X) _ _ _ _ _ _ _ _ _ _ _ _ _ S _ _ ?hc2_0_1) rfl gX8_at_X8_isWord rfl rfl hd_X8_isWord ⟨rfl, rfl⟩ ⟨by decide, by decide⟩ 0 rfl hasF_c rfl (by decide) (Nat.le_of_ble_eq_true rfl) ⟨Nat.zero_le _, Nat.zero_le _⟩ rfl dX8_at_2 ?_
  case hc2_0_1 => exact hA
  try dsimp only [Nat.reduceAdd, nf_rep1, nf_rep0, nf_d0, nf_t0, nf_s0, nf_ac, nf_an, nf_d1, nf_t1, nf_s1, nf_d2, nf_t2, nf_s2, nf_d3, nf_t3, nf_s3, nf_d4, nf_t4, nf_s4, nf_d5, nf_t5, nf_s5, nf_d6, nf_t6, nf_s6, nf_d7, nf_t7, nf_s7, nf_d8, nf_t8, nf_s8, nf_d9, nf_t9, nf_s9, nf_d10, nf_t10, nf_s10, nf_d11, nf_t11, nf_s11, nf_d12, nf_t12, nf_s12, nf_d13, nf_t13, nf_s13, nf_d14, nf_t14, nf_s14, nf_d15, nf_t15, nf_s15, nf_d16, nf_t16, nf_s16, nf_d17, nf_t17, nf_s17, nf_d18, nf_t18, nf_s18, nf_d19, nf_t19, nf_s19, nf_d20, nf_t20, nf_s20]
  refine v_if_ne K 10 dX8_at_5 (by decide) (fun c5 => ?_) (fun c5 => ?_)
  · have hbt := bI_1 c5
    have hb2 := hA.1.2.2.2.2.1
    obtain ⟨I, hI, rfl⟩ := hasL_of (L := S.2.2.2.2.1) (by omega) hbt
    have hww := hA.1.2.2.2.2.2.2.2.2 I hI
    have hok := hrW_ok hA.1 hww.2.2.1
    have hsI : I < (spL S).length := by rw [spL_len]; exact hI
    refine v_iload_n K dX8_at_10 rfl ?_
    refine v_i2l K dX8_at_11 ?_
    refine v_lconst K (0) dX8_at_12 (by decide) ?_
    refine v_ldc2 K (3) (by decide +kernel) dX8_at_13 ?_
    refine v_callSi K [] (c_X8_in (XI X) (XB X) _ _ _ ) rfl gX8_at_X8_in rfl rfl hd_X8_in ⟨rfl, rfl⟩ ⟨by decide, by decide⟩ (by decide) (Nat.le_of_ble_eq_true rfl) ⟨Nat.zero_le _, Nat.zero_le _⟩ rfl dX8_at_16 ?_
    try dsimp only [Nat.reduceAdd, nf_rep1, nf_rep0, nf_d0, nf_t0, nf_s0, nf_ac, nf_an, nf_d1, nf_t1, nf_s1, nf_d2, nf_t2, nf_s2, nf_d3, nf_t3, nf_s3, nf_d4, nf_t4, nf_s4, nf_d5, nf_t5, nf_s5, nf_d6, nf_t6, nf_s6, nf_d7, nf_t7, nf_s7, nf_d8, nf_t8, nf_s8, nf_d9, nf_t9, nf_s9, nf_d10, nf_t10, nf_s10, nf_d11, nf_t11, nf_s11, nf_d12, nf_t12, nf_s12, nf_d13, nf_t13, nf_s13, nf_d14, nf_t14, nf_s14, nf_d15, nf_t15, nf_s15, nf_d16, nf_t16, nf_s16, nf_d17, nf_t17, nf_s17, nf_d18, nf_t18, nf_s18, nf_d19, nf_t19, nf_s19, nf_d20, nf_t20, nf_s20]
    rw [in03]
    refine v_if_eq K 26 dX8_at_19 (by decide) (fun c19 => ?_) (fun c19 => ?_)
    · refine v_bipush K (-2) dX8_at_26 (by decide) ?_
      refine v_iret K E dX8_at_28 ?_ rfl
      exact ⟨by rw [vat_w hbt (of_decide_eq_false (bI_0 c19))] <;> rfl, _, _, _, _, _, _, _, _, _, _, _, hu, hC, rfl⟩
    · refine v_iload_n K dX8_at_22 rfl ?_
      refine v_if_ge K 29 dX8_at_23 (by decide) (fun c23 => ?_) (fun c23 => ?_)
      · have hk03 := of_decide_eq_true (bI_1 c19)
        refine v_aload_n K dX8_at_29 rfl ?_
        refine v_callV K [0, 1, 2, 3, 4, 5, 6, 7, 8] (c_X8_spells (XI X) (XB X) _ _ _ _ _ _ _ _ _ _ _ _ _ S _ _ _ _ _ _ _ _ ?hc30_0_3 ?hc30_1_3 ?hc30_2_3) rfl gX8_at_X8_spells rfl rfl hd_X8_spells ⟨rfl, rfl⟩ ⟨by decide, by decide⟩ 0 rfl hasF_c rfl (by decide) (Nat.le_of_ble_eq_true rfl) ⟨Nat.zero_le _, Nat.zero_le _⟩ rfl dX8_at_30 ?_
        case hc30_0_3 => exact hA
        case hc30_1_3 => exact hu
        case hc30_2_3 => exact hC
        try dsimp only [Nat.reduceAdd, nf_rep1, nf_rep0, nf_d0, nf_t0, nf_s0, nf_ac, nf_an, nf_d1, nf_t1, nf_s1, nf_d2, nf_t2, nf_s2, nf_d3, nf_t3, nf_s3, nf_d4, nf_t4, nf_s4, nf_d5, nf_t5, nf_s5, nf_d6, nf_t6, nf_s6, nf_d7, nf_t7, nf_s7, nf_d8, nf_t8, nf_s8, nf_d9, nf_t9, nf_s9, nf_d10, nf_t10, nf_s10, nf_d11, nf_t11, nf_s11, nf_d12, nf_t12, nf_s12, nf_d13, nf_t13, nf_s13, nf_d14, nf_t14, nf_s14, nf_d15, nf_t15, nf_s15, nf_d16, nf_t16, nf_s16, nf_d17, nf_t17, nf_s17, nf_d18, nf_t18, nf_s18, nf_d19, nf_t19, nf_s19, nf_d20, nf_t20, nf_s20]
        intro ov Mc1 hpo _
        obtain ⟨rfl, sz, sl, ut, ol, xs, rf, sd, us, os, C, hu, hC, rfl⟩ := hpo
        refine v_aload_n K dX8_at_33 rfl ?_
        refine v_iload_n K dX8_at_34 rfl ?_
        refine v_callVv K [0, 1, 2] (c_X8_lays (XI X) (XB X) _ _ _ _ _ _ _ _ _ _ _ _ _ S _ _ _ ?hc35_0_4 ?hc35_1_4) rfl gX8_at_X8_lays rfl rfl hd_X8_lays ⟨rfl, rfl⟩ ⟨by decide, by decide⟩ 0 rfl hasF_c rfl (by decide) (Nat.le_of_ble_eq_true rfl) ⟨Nat.zero_le _, Nat.zero_le _⟩ rfl dX8_at_35 ?_
        case hc35_0_4 => exact hA
        case hc35_1_4 => exact hI
        try dsimp only [Nat.reduceAdd, nf_rep1, nf_rep0, nf_d0, nf_t0, nf_s0, nf_ac, nf_an, nf_d1, nf_t1, nf_s1, nf_d2, nf_t2, nf_s2, nf_d3, nf_t3, nf_s3, nf_d4, nf_t4, nf_s4, nf_d5, nf_t5, nf_s5, nf_d6, nf_t6, nf_s6, nf_d7, nf_t7, nf_s7, nf_d8, nf_t8, nf_s8, nf_d9, nf_t9, nf_s9, nf_d10, nf_t10, nf_s10, nf_d11, nf_t11, nf_s11, nf_d12, nf_t12, nf_s12, nf_d13, nf_t13, nf_s13, nf_d14, nf_t14, nf_s14, nf_d15, nf_t15, nf_s15, nf_d16, nf_t16, nf_s16, nf_d17, nf_t17, nf_s17, nf_d18, nf_t18, nf_s18, nf_d19, nf_t19, nf_s19, nf_d20, nf_t20, nf_s20]
        refine v_aload_n K dX8_at_38 rfl ?_
        refine v_callVv K [0, 1, 2, 3, 4, 5] (c_X8_findsSounds (XI X) (XB X) _ _ _ _ _ _ _ _ _ _ _ _ S _ _ _ _ _ ?hc39_0_5 ?hc39_1_5 ?hc39_2_5) rfl gX8_at_X8_findsSounds rfl rfl hd_X8_findsSounds ⟨rfl, rfl⟩ ⟨by decide, by decide⟩ 0 rfl hasF_c rfl (by decide) (Nat.le_of_ble_eq_true rfl) ⟨Nat.zero_le _, Nat.zero_le _⟩ rfl dX8_at_39 ?_
        case hc39_0_5 => exact hA
        case hc39_1_5 => exact hww.2.2.1
        case hc39_2_5 => exact hu
        try dsimp only [Nat.reduceAdd, nf_rep1, nf_rep0, nf_d0, nf_t0, nf_s0, nf_ac, nf_an, nf_d1, nf_t1, nf_s1, nf_d2, nf_t2, nf_s2, nf_d3, nf_t3, nf_s3, nf_d4, nf_t4, nf_s4, nf_d5, nf_t5, nf_s5, nf_d6, nf_t6, nf_s6, nf_d7, nf_t7, nf_s7, nf_d8, nf_t8, nf_s8, nf_d9, nf_t9, nf_s9, nf_d10, nf_t10, nf_s10, nf_d11, nf_t11, nf_s11, nf_d12, nf_t12, nf_s12, nf_d13, nf_t13, nf_s13, nf_d14, nf_t14, nf_s14, nf_d15, nf_t15, nf_s15, nf_d16, nf_t16, nf_s16, nf_d17, nf_t17, nf_s17, nf_d18, nf_t18, nf_s18, nf_d19, nf_t19, nf_s19, nf_d20, nf_t20, nf_s20]
        refine v_iload_n K dX8_at_42 rfl ?_
        refine v_case (0) (fun s43_0 => ?_) (fun s43_0 => ?_)
        · refine v_tabHit K 68 dX8_at_43 s43_0 (by decide) (by decide) rfl (by decide) ?_
          refine v_iload_n K dX8_at_68 rfl ?_
          refine v_aload_n K dX8_at_69 rfl ?_
          refine v_get K 0 rfl hasF_c rfl iX8 7 (by decide) rfl (by decide +kernel) rfl dX8_at_70 ?_
          refine v_ic_ge K 85 dX8_at_73 (by decide) (fun c73 => ?_) (fun c73 => ?_)
          · refine v_bipush K (-5) dX8_at_85 (by decide) ?_
            refine v_iret K E dX8_at_87 ?_ rfl
            exact ⟨by rw [vat_0 hbt c23 s43_0, gg_wd hA.1 hI, gt_outN (by omega) c73] <;> rfl, _, _, _, _, _, _, _, _, _, _, _, (by first | rw [incL_len]; exact hu | exact hu), hC.2.1, rfl⟩
          · obtain ⟨J, hJ, rfl⟩ := vRes_in c23 (by omega) c73
            refine v_aload_n K dX8_at_76 rfl ?_
            refine v_get K 0 rfl hasF_c rfl iX8 6 (by decide) rfl (by decide +kernel) rfl dX8_at_77 ?_
            refine v_iload_n K dX8_at_80 rfl ?_
            refine v_lald K 2 rfl (J) ?hx81_6 ?ix81_6 dX8_at_81 ?_
            case hx81_6 => exact rfl
            case ix81_6 => exact hJ
            refine v_goto K 87 dX8_at_82 (by decide) ?_
            refine v_iret K E dX8_at_87 ?_ rfl
            exact ⟨by rw [vat_0 hbt (nI_pos' (by omega)) s43_0, gg_wd hA.1 hI, gt_n (by omega)] <;> rfl, _, _, _, _, _, _, _, _, _, _, _, (by first | rw [incL_len]; exact hu | exact hu), hC.2.1, rfl⟩
        · refine v_case (1) (fun s43_1 => ?_) (fun s43_1 => ?_)
          · refine v_tabHit K 88 dX8_at_43 s43_1 (by decide) (by decide) rfl (by decide) ?_
            refine v_iload_n K dX8_at_88 rfl ?_
            refine v_aload_n K dX8_at_89 rfl ?_
            refine v_get K 0 rfl hasF_c rfl iX8 10 (by decide) rfl (by decide +kernel) rfl dX8_at_90 ?_
            refine v_ic_ge K 105 dX8_at_93 (by decide) (fun c93 => ?_) (fun c93 => ?_)
            · refine v_bipush K (-5) dX8_at_105 (by decide) ?_
              refine v_iret K E dX8_at_107 ?_ rfl
              exact ⟨by rw [vat_1 hbt c23 s43_0 s43_1, gg_so hA.1 hI, gt_outN (by have := hok.1; omega) c93] <;> rfl, _, _, _, _, _, _, _, _, _, _, _, (by first | rw [incL_len]; exact hu | exact hu), hC.2.1, rfl⟩
            · have hq := hok.1
              obtain ⟨J, hJ, rfl⟩ := vRes_in c23 (by omega) c93
              refine v_aload_n K dX8_at_96 rfl ?_
              refine v_get K 0 rfl hasF_c rfl iX8 9 (by decide) rfl (by decide +kernel) rfl dX8_at_97 ?_
              refine v_iload_n K dX8_at_100 rfl ?_
              refine v_lald K 4 rfl (J) ?hx101_7 ?ix101_7 dX8_at_101 ?_
              case hx101_7 => exact rfl
              case ix101_7 => exact hJ
              refine v_goto K 107 dX8_at_102 (by decide) ?_
              refine v_iret K E dX8_at_107 ?_ rfl
              exact ⟨by rw [vat_1 hbt (nI_pos' (by omega)) s43_0 s43_1, gg_so hA.1 hI, gt_n (by omega)] <;> rfl, _, _, _, _, _, _, _, _, _, _, _, (by first | rw [incL_len]; exact hu | exact hu), hC.2.1, rfl⟩
          · refine v_case (2) (fun s43_2 => ?_) (fun s43_2 => ?_)
            · refine v_tabHit K 108 dX8_at_43 s43_2 (by decide) (by decide) rfl (by decide) ?_
              refine v_iload_n K dX8_at_108 rfl ?_
              refine v_aload_n K dX8_at_109 rfl ?_
              refine v_get K 0 rfl hasF_c rfl iX8 16 (by decide) rfl (by decide +kernel) rfl dX8_at_110 ?_
              refine v_iload_n K dX8_at_113 rfl ?_
              refine v_lald K 8 rfl (I) ?hx114_8 ?ix114_8 dX8_at_114 ?_
              case hx114_8 => exact rfl
              case ix114_8 => rw [lens_len]; exact hsI
              have hl26 := rl_len hC (k := I)
              rw [lens_gd hsI]
              refine v_ic_ge K 132 dX8_at_115 (by decide) (fun c115 => ?_) (fun c115 => ?_)
              · refine v_bipush K (-5) dX8_at_132 (by decide) ?_
                refine v_iret K E dX8_at_134 ?_ rfl
                exact ⟨by rw [vat_2 hbt c23 s43_0 s43_1 s43_2, gg_sp hA.1 hI, gt_outN (by omega) c115] <;> rfl, _, _, _, _, _, _, _, _, _, _, _, (by first | rw [incL_len]; exact hu | exact hu), hC.2.1, rfl⟩
              · obtain ⟨J, hJ, rfl⟩ := vRes_in c23 (by omega) c115
                refine v_aload_n K dX8_at_118 rfl ?_
                refine v_get K 0 rfl hasF_c rfl iX8 15 (by decide) rfl (by decide +kernel) rfl dX8_at_119 ?_
                refine v_bipush K (26) dX8_at_122 (by decide) ?_
                refine v_iload_n K dX8_at_124 rfl ?_
                refine v_imul K dX8_at_125 ?_
                refine v_iload_n K dX8_at_126 rfl ?_
                refine v_iadd K dX8_at_127 ?_
                refine v_lald K 7 rfl (I * 26 + J) ?hx128_9 ?ix128_9 dX8_at_128 ?_
                case hx128_9 => exact ix26
                case ix128_9 => exact (rl_at5 hC hsI hJ).1
                rw [(rl_at5 hC hsI hJ).2]
                refine v_goto K 134 dX8_at_129 (by decide) ?_
                refine v_iret K E dX8_at_134 ?_ rfl
                exact ⟨by rw [vat_2 hbt (nI_pos' (by omega)) s43_0 s43_1 s43_2, gg_sp hA.1 hI, gt_n (by omega)] <;> rfl, _, _, _, _, _, _, _, _, _, _, _, (by first | rw [incL_len]; exact hu | exact hu), hC.2.1, rfl⟩
            · refine v_tabOut K 135 dX8_at_43 (by have h0 := lv_neT (k := 0) (a := 0) s43_0 rfl; have h1 := lv_neT (k := 1) (a := 1) s43_1 rfl; have h2 := lv_neT (k := 2) (a := 2) s43_2 rfl; omega) (by decide) ?_
              refine v_iload_n K dX8_at_135 rfl ?_
              refine v_aload_n K dX8_at_136 rfl ?_
              refine v_get K 0 rfl hasF_c rfl iX8 7 (by decide) rfl (by decide +kernel) rfl dX8_at_137 ?_
              refine v_ic_ge K 152 dX8_at_140 (by decide) (fun c140 => ?_) (fun c140 => ?_)
              · refine v_bipush K (-5) dX8_at_152 (by decide) ?_
                refine v_iret K E dX8_at_154 ?_ rfl
                exact ⟨by rw [vat_3 hbt c23 hk03 s43_0 s43_1 s43_2, gg_ra hA.1 hI, gt_outN (by rw [hrW_len hA.1 hww.2.1]; omega) (by rw [hrW_len hA.1 hww.2.1]; exact c140)] <;> rfl, _, _, _, _, _, _, _, _, _, _, _, (by first | rw [incL_len]; exact hu | exact hu), hC.2.1, rfl⟩
              · obtain ⟨J, hJ, rfl⟩ := vRes_in c23 (by omega) c140
                refine v_aload_n K dX8_at_143 rfl ?_
                refine v_get K 0 rfl hasF_c rfl iX8 8 (by decide) rfl (by decide +kernel) rfl dX8_at_144 ?_
                refine v_iload_n K dX8_at_147 rfl ?_
                refine v_lald K 3 rfl (J) ?hx148_10 ?ix148_10 dX8_at_148 ?_
                case hx148_10 => exact rfl
                case ix148_10 => rw [hrW_len hA.1 hww.2.1]; exact hJ
                refine v_goto K 154 dX8_at_149 (by decide) ?_
                refine v_iret K E dX8_at_154 ?_ rfl
                exact ⟨by rw [vat_3 hbt (nI_pos' (by omega)) hk03 s43_0 s43_1 s43_2, gg_ra hA.1 hI, gt_n (by omega)] <;> rfl, _, _, _, _, _, _, _, _, _, _, _, (by first | rw [incL_len]; exact hu | exact hu), hC.2.1, rfl⟩
      · refine v_bipush K (-2) dX8_at_26 (by decide) ?_
        refine v_iret K E dX8_at_28 ?_ rfl
        exact ⟨by rw [vat_j hbt c23] <;> rfl, _, _, _, _, _, _, _, _, _, _, _, hu, hC, rfl⟩
  · refine v_iconst K (-1) dX8_at_8 (by decide) ?_
    refine v_iret K E dX8_at_9 ?_ rfl
    exact ⟨by rw [vat_n (bI_0 c5)] <;> rfl, _, _, _, _, _, _, _, _, _, _, _, hu, hC, rfl⟩

theorem hd_X8_collideWith : yX8_collideWith.cls = RX8 ∧ yX8_collideWith.cls ≠ "java/lang/invoke/MethodHandle" ∧ yX8_collideWith.cls ≠ "java/lang/invoke/VarHandle" ∧ (parseMethodDescriptor yX8_collideWith.desc).map (fun d => d.parameters.length) = some 2 := by decide +kernel
set_option maxHeartbeats 4000000 in
set_option maxRecDepth 100000 in
theorem c_X8_collideWith (cI cB : ClassId) (m : Nat → Nat) (hl it sz sl ut ol tl sp tw tm mm rl : Int32) (S : Bk) (f g : Nat → Int32) (xs rf sd us os C N : List Int32) (c l : Int32) (hA : allR S f) (hu : us.length = 30) (hC : C.length = 520) : Ct cI cB yX8_collideWith wsX8_collideWith { frames := 7, cells := 0, slots := 0, locals := 161 } [.ref (m 0), .int c, .int l] [moM m hl it sz sl ut ol tl sp tw tm mm rl, arF cI (m 1) 570 f, arL cI (m 5) 12 xs, arL cI (m 6) 12 rf, arL cI (m 7) 12 sd, arL cI (m 8) 30 us, arL cI (m 9) 26 os, arL cI (m 10) 520 C, arL cI (m 11) 20 N, arF cI (m 2) 570 g] (fun ov M => ov = some (.int (vColl S c l)) ∧ ∃ (f g : Nat → Int32) (sz sl ut ol : Int32) (xs rf sd us os C N : List Int32), allR S f ∧ us.length = 30 ∧ C.length = 520 ∧ M = [moM m hl it sz sl ut ol tl sp tw tm mm rl, arF cI (m 1) 570 f, arL cI (m 5) 12 xs, arL cI (m 6) 12 rf, arL cI (m 7) 12 sd, arL cI (m 8) 30 us, arL cI (m 9) 26 os, arL cI (m 10) 520 C, arL cI (m 11) 20 N, arF cI (m 2) 570 g]) := by
  refine ct_of (cc := cX8_collideWith) (maxL := 4) (ret := (some .int)) (by decide) rfl (Nat.le_of_ble_eq_true rfl) [(0, .ref (m 0)), (1, .int c), (2, .int l)] rfl ?_
  intro X hI hB K E
  subst hI
  subst hB
  have iX8 : ∀ w ∈ u_ws RX8 TX8 28, w ∈ wsX8_collideWith := by decide +kernel
  refine v_iload_n K dX8_collideWith_0 rfl ?_
  refine v_i2l K dX8_collideWith_1 ?_
  refine v_ldc2 K (65) (by decide +kernel) dX8_collideWith_2 ?_
  refine v_ldc2 K (90) (by decide +kernel) dX8_collideWith_5 ?_
  refine v_callSi K [] (c_X8_in (XI X) (XB X) _ _ _ ) rfl gX8_collideWith_X8_in rfl rfl hd_X8_in ⟨rfl, rfl⟩ ⟨by decide, by decide⟩ (by decide) (Nat.le_of_ble_eq_true rfl) ⟨Nat.zero_le _, Nat.zero_le _⟩ rfl dX8_collideWith_8 ?_
  try dsimp only [Nat.reduceAdd, nf_rep1, nf_rep0, nf_d0, nf_t0, nf_s0, nf_ac, nf_an, nf_d1, nf_t1, nf_s1, nf_d2, nf_t2, nf_s2, nf_d3, nf_t3, nf_s3, nf_d4, nf_t4, nf_s4, nf_d5, nf_t5, nf_s5, nf_d6, nf_t6, nf_s6, nf_d7, nf_t7, nf_s7, nf_d8, nf_t8, nf_s8, nf_d9, nf_t9, nf_s9, nf_d10, nf_t10, nf_s10, nf_d11, nf_t11, nf_s11, nf_d12, nf_t12, nf_s12, nf_d13, nf_t13, nf_s13, nf_d14, nf_t14, nf_s14, nf_d15, nf_t15, nf_s15, nf_d16, nf_t16, nf_s16, nf_d17, nf_t17, nf_s17, nf_d18, nf_t18, nf_s18, nf_d19, nf_t19, nf_s19, nf_d20, nf_t20, nf_s20]
  rw [in65]
  refine v_if_ne K 16 dX8_collideWith_11 (by decide) (fun c11 => ?_) (fun c11 => ?_)
  · have hbc := bI_1 c11
    refine v_iload_n K dX8_collideWith_16 rfl ?_
    refine v_i2l K dX8_collideWith_17 ?_
    refine v_ldc2 K (97) (by decide +kernel) dX8_collideWith_18 ?_
    refine v_ldc2 K (122) (by decide +kernel) dX8_collideWith_21 ?_
    refine v_callSi K [] (c_X8_in (XI X) (XB X) _ _ _ ) rfl gX8_collideWith_X8_in rfl rfl hd_X8_in ⟨rfl, rfl⟩ ⟨by decide, by decide⟩ (by decide) (Nat.le_of_ble_eq_true rfl) ⟨Nat.zero_le _, Nat.zero_le _⟩ rfl dX8_collideWith_24 ?_
    try dsimp only [Nat.reduceAdd, nf_rep1, nf_rep0, nf_d0, nf_t0, nf_s0, nf_ac, nf_an, nf_d1, nf_t1, nf_s1, nf_d2, nf_t2, nf_s2, nf_d3, nf_t3, nf_s3, nf_d4, nf_t4, nf_s4, nf_d5, nf_t5, nf_s5, nf_d6, nf_t6, nf_s6, nf_d7, nf_t7, nf_s7, nf_d8, nf_t8, nf_s8, nf_d9, nf_t9, nf_s9, nf_d10, nf_t10, nf_s10, nf_d11, nf_t11, nf_s11, nf_d12, nf_t12, nf_s12, nf_d13, nf_t13, nf_s13, nf_d14, nf_t14, nf_s14, nf_d15, nf_t15, nf_s15, nf_d16, nf_t16, nf_s16, nf_d17, nf_t17, nf_s17, nf_d18, nf_t18, nf_s18, nf_d19, nf_t19, nf_s19, nf_d20, nf_t20, nf_s20]
    rw [in97]
    refine v_if_ne K 33 dX8_collideWith_27 (by decide) (fun c27 => ?_) (fun c27 => ?_)
    · have hbl := bI_1 c27
      obtain ⟨s, hs, hc1, hc2⟩ := cpt_n (of_decide_eq_true hbc)
      have hlow : low l := (show 97 ≤ l ∧ l ≤ 122 from of_decide_eq_true hbl)
      have hA2 : allR (sgS S s l) (upd (upd f (212 + 3 * s) 1) (212 + 3 * s + 1) l) := allR_sign hA hs ⟨Nat.le_refl 1, Nat.le_succ 1, fun y hy => by rw [List.mem_singleton.mp hy]; exact hlow⟩ (by rw [pk_un (by omega), pk_us] <;> rfl) (fun j hj => by have hj0 : j = 0 := (by simp only [List.length_singleton] at hj; omega); subst hj0; rw [Nat.add_zero, pk_us] <;> rfl) (fun j hj => by rw [pk_un (by omega), pk_un (by omega)] <;> rfl)
      refine v_aload_n K dX8_collideWith_33 rfl ?_
      refine v_callVv K [0, 1, 9] (c_X8_remember (XI X) (XB X) _ _ _ _ _ _ _ _ _ _ _ _ _ _ _ ) rfl gX8_collideWith_X8_remember rfl rfl hd_X8_remember ⟨rfl, rfl⟩ ⟨by decide, by decide⟩ 0 rfl hasF_c rfl (by decide) (Nat.le_of_ble_eq_true rfl) ⟨Nat.zero_le _, Nat.zero_le _⟩ rfl dX8_collideWith_34 ?_
      try dsimp only [Nat.reduceAdd, nf_rep1, nf_rep0, nf_d0, nf_t0, nf_s0, nf_ac, nf_an, nf_d1, nf_t1, nf_s1, nf_d2, nf_t2, nf_s2, nf_d3, nf_t3, nf_s3, nf_d4, nf_t4, nf_s4, nf_d5, nf_t5, nf_s5, nf_d6, nf_t6, nf_s6, nf_d7, nf_t7, nf_s7, nf_d8, nf_t8, nf_s8, nf_d9, nf_t9, nf_s9, nf_d10, nf_t10, nf_s10, nf_d11, nf_t11, nf_s11, nf_d12, nf_t12, nf_s12, nf_d13, nf_t13, nf_s13, nf_d14, nf_t14, nf_s14, nf_d15, nf_t15, nf_s15, nf_d16, nf_t16, nf_s16, nf_d17, nf_t17, nf_s17, nf_d18, nf_t18, nf_s18, nf_d19, nf_t19, nf_s19, nf_d20, nf_t20, nf_s20]
      refine v_aload_n K dX8_collideWith_37 rfl ?_
      refine v_get K 0 rfl hasF_c rfl iX8 0 (by decide) rfl (by decide +kernel) rfl dX8_collideWith_38 ?_
      refine v_sipush K (212) dX8_collideWith_41 (by decide) ?_
      refine v_iconst K (3) dX8_collideWith_44 (by decide) ?_
      refine v_iload_n K dX8_collideWith_45 rfl ?_
      refine v_bipush K (65) dX8_collideWith_46 (by decide) ?_
      refine v_isub K dX8_collideWith_48 ?_
      rw [hc2]
      refine v_imul K dX8_collideWith_49 ?_
      rw [show (3 : Int32) * nI s = nI (3 * s) from pk_mul 3 s]
      refine v_iadd K dX8_collideWith_50 ?_
      rw [show (212 : Int32) + nI (3 * s) = nI (212 + 3 * s) from nI_add 212 _]
      refine v_iconst K (1) dX8_collideWith_51 (by decide) ?_
      refine v_fast K 1 rfl (212 + 3 * s) ?hx52_4 ?ix52_4 dX8_collideWith_52 ?_
      case hx52_4 => exact rfl
      case ix52_4 => exact ⟨by omega, by decide⟩
      try dsimp only [Nat.reduceAdd, nf_rep1, nf_rep0, nf_d0, nf_t0, nf_s0, nf_ac, nf_an, nf_d1, nf_t1, nf_s1, nf_d2, nf_t2, nf_s2, nf_d3, nf_t3, nf_s3, nf_d4, nf_t4, nf_s4, nf_d5, nf_t5, nf_s5, nf_d6, nf_t6, nf_s6, nf_d7, nf_t7, nf_s7, nf_d8, nf_t8, nf_s8, nf_d9, nf_t9, nf_s9, nf_d10, nf_t10, nf_s10, nf_d11, nf_t11, nf_s11, nf_d12, nf_t12, nf_s12, nf_d13, nf_t13, nf_s13, nf_d14, nf_t14, nf_s14, nf_d15, nf_t15, nf_s15, nf_d16, nf_t16, nf_s16, nf_d17, nf_t17, nf_s17, nf_d18, nf_t18, nf_s18, nf_d19, nf_t19, nf_s19, nf_d20, nf_t20, nf_s20]
      refine v_aload_n K dX8_collideWith_53 rfl ?_
      refine v_get K 0 rfl hasF_c rfl iX8 0 (by decide) rfl (by decide +kernel) rfl dX8_collideWith_54 ?_
      refine v_sipush K (212) dX8_collideWith_57 (by decide) ?_
      refine v_iconst K (3) dX8_collideWith_60 (by decide) ?_
      refine v_iload_n K dX8_collideWith_61 rfl ?_
      refine v_bipush K (65) dX8_collideWith_62 (by decide) ?_
      refine v_isub K dX8_collideWith_64 ?_
      rw [hc2]
      refine v_imul K dX8_collideWith_65 ?_
      rw [show (3 : Int32) * nI s = nI (3 * s) from pk_mul 3 s]
      refine v_iadd K dX8_collideWith_66 ?_
      rw [show (212 : Int32) + nI (3 * s) = nI (212 + 3 * s) from nI_add 212 _]
      refine v_iconst K (1) dX8_collideWith_67 (by decide) ?_
      refine v_iadd K dX8_collideWith_68 ?_
      refine v_iload_n K dX8_collideWith_69 rfl ?_
      refine v_fast K 1 rfl (212 + 3 * s + 1) ?hx70_5 ?ix70_5 dX8_collideWith_70 ?_
      case hx70_5 => exact nI_1 _
      case ix70_5 => exact ⟨by omega, by decide⟩
      try dsimp only [Nat.reduceAdd, nf_rep1, nf_rep0, nf_d0, nf_t0, nf_s0, nf_ac, nf_an, nf_d1, nf_t1, nf_s1, nf_d2, nf_t2, nf_s2, nf_d3, nf_t3, nf_s3, nf_d4, nf_t4, nf_s4, nf_d5, nf_t5, nf_s5, nf_d6, nf_t6, nf_s6, nf_d7, nf_t7, nf_s7, nf_d8, nf_t8, nf_s8, nf_d9, nf_t9, nf_s9, nf_d10, nf_t10, nf_s10, nf_d11, nf_t11, nf_s11, nf_d12, nf_t12, nf_s12, nf_d13, nf_t13, nf_s13, nf_d14, nf_t14, nf_s14, nf_d15, nf_t15, nf_s15, nf_d16, nf_t16, nf_s16, nf_d17, nf_t17, nf_s17, nf_d18, nf_t18, nf_s18, nf_d19, nf_t19, nf_s19, nf_d20, nf_t20, nf_s20]
      refine v_aload_n K dX8_collideWith_71 rfl ?_
      refine v_callV K [0, 1, 2, 3, 4, 5, 6, 7, 8] (c_X8_colliding (XI X) (XB X) _ _ _ _ _ _ _ _ _ _ _ _ _ (sgS S s l) _ _ _ _ _ _ _ _ ?hc72_0_6 ?hc72_1_6 ?hc72_2_6) rfl gX8_collideWith_X8_colliding rfl rfl hd_X8_colliding ⟨rfl, rfl⟩ ⟨by decide, by decide⟩ 0 rfl hasF_c rfl (by decide) (Nat.le_of_ble_eq_true rfl) ⟨Nat.zero_le _, Nat.zero_le _⟩ rfl dX8_collideWith_72 ?_
      case hc72_0_6 => exact hA2
      case hc72_1_6 => exact hu
      case hc72_2_6 => exact hC
      try dsimp only [Nat.reduceAdd, nf_rep1, nf_rep0, nf_d0, nf_t0, nf_s0, nf_ac, nf_an, nf_d1, nf_t1, nf_s1, nf_d2, nf_t2, nf_s2, nf_d3, nf_t3, nf_s3, nf_d4, nf_t4, nf_s4, nf_d5, nf_t5, nf_s5, nf_d6, nf_t6, nf_s6, nf_d7, nf_t7, nf_s7, nf_d8, nf_t8, nf_s8, nf_d9, nf_t9, nf_s9, nf_d10, nf_t10, nf_s10, nf_d11, nf_t11, nf_s11, nf_d12, nf_t12, nf_s12, nf_d13, nf_t13, nf_s13, nf_d14, nf_t14, nf_s14, nf_d15, nf_t15, nf_s15, nf_d16, nf_t16, nf_s16, nf_d17, nf_t17, nf_s17, nf_d18, nf_t18, nf_s18, nf_d19, nf_t19, nf_s19, nf_d20, nf_t20, nf_s20]
      intro ov Mc1 hpo _
      obtain ⟨rfl, sz, sl, ut, ol, xs, rf, sd, us, os, C, hu, hC, rfl⟩ := hpo
      refine v_istore_n K dX8_collideWith_75 (by decide) ?_
      refine v_aload_n K dX8_collideWith_76 rfl ?_
      refine v_get K 0 rfl hasF_c rfl iX8 1 (by decide) rfl (by decide +kernel) rfl dX8_collideWith_77 ?_
      refine v_aload_n K dX8_collideWith_80 rfl ?_
      refine v_get K 0 rfl hasF_c rfl iX8 0 (by decide) rfl (by decide +kernel) rfl dX8_collideWith_81 ?_
      refine v_callSv K [9, 1] (c_X8_copy (XI X) (XB X) _ _ _ _ ) rfl gX8_collideWith_X8_copy rfl rfl hd_X8_copy ⟨rfl, rfl⟩ ⟨by decide, by decide⟩ (by decide) (Nat.le_of_ble_eq_true rfl) ⟨Nat.zero_le _, Nat.zero_le _⟩ rfl dX8_collideWith_84 ?_
      try dsimp only [Nat.reduceAdd, nf_rep1, nf_rep0, nf_d0, nf_t0, nf_s0, nf_ac, nf_an, nf_d1, nf_t1, nf_s1, nf_d2, nf_t2, nf_s2, nf_d3, nf_t3, nf_s3, nf_d4, nf_t4, nf_s4, nf_d5, nf_t5, nf_s5, nf_d6, nf_t6, nf_s6, nf_d7, nf_t7, nf_s7, nf_d8, nf_t8, nf_s8, nf_d9, nf_t9, nf_s9, nf_d10, nf_t10, nf_s10, nf_d11, nf_t11, nf_s11, nf_d12, nf_t12, nf_s12, nf_d13, nf_t13, nf_s13, nf_d14, nf_t14, nf_s14, nf_d15, nf_t15, nf_s15, nf_d16, nf_t16, nf_s16, nf_d17, nf_t17, nf_s17, nf_d18, nf_t18, nf_s18, nf_d19, nf_t19, nf_s19, nf_d20, nf_t20, nf_s20]
      refine v_iload_n K dX8_collideWith_87 rfl ?_
      refine v_iret K E dX8_collideWith_88 ?_ rfl
      exact ⟨by rw [col_y hA.1 hA2.1 hbc hbl hs hc2] <;> rfl, _, _, _, _, _, _, _, _, _, _, _, _, _, allR_cp (allR_cp hA), hu, hC.2.1, rfl⟩
    · refine v_bipush K (-2) dX8_collideWith_30 (by decide) ?_
      refine v_iret K E dX8_collideWith_32 ?_ rfl
      exact ⟨by rw [col_2 hbc (bI_0 c27)] <;> rfl, f, g, _, _, _, _, _, _, _, _, _, _, _, hA, hu, hC, rfl⟩
  · refine v_iconst K (-1) dX8_collideWith_14 (by decide) ?_
    refine v_iret K E dX8_collideWith_15 ?_ rfl
    exact ⟨by rw [col_n (bI_0 c11)] <;> rfl, f, g, _, _, _, _, _, _, _, _, _, _, _, hA, hu, hC, rfl⟩

theorem hd_X8_count : yX8_count.cls = RX8 ∧ yX8_count.cls ≠ "java/lang/invoke/MethodHandle" ∧ yX8_count.cls ≠ "java/lang/invoke/VarHandle" ∧ (parseMethodDescriptor yX8_count.desc).map (fun d => d.parameters.length) = some 1 := by decide +kernel
set_option maxHeartbeats 4000000 in
set_option maxRecDepth 100000 in
theorem c_X8_count (cI cB : ClassId) (m : Nat → Nat) (it sz sl ut ol sp tw tm mm : Int32) (o : Ob) (f : Nat → Int32) (xs rf sd us os C N : List Int32) (w : Int32) (hA : allR o.2.2.1 f) (hu : us.length = 30) (hC : C.length = 520) : Ct cI cB yX8_count wsX8_count { frames := 7, cells := 0, slots := 0, locals := 161 } [.ref (m 0), .int w] [moM m (nI o.2.2.2.2.2.length) it sz sl ut ol (nI o.1.length) sp tw tm mm (nI o.2.1.length), arF cI (m 1) 570 f, arL cI (m 5) 12 xs, arL cI (m 6) 12 rf, arL cI (m 7) 12 sd, arL cI (m 8) 30 us, arL cI (m 9) 26 os, arL cI (m 10) 520 C, arL cI (m 11) 20 N] (fun ov M => ov = some (.int (vCount o w)) ∧ ∃ (sz sl ut ol : Int32) (xs rf sd us os C N : List Int32), us.length = 30 ∧ C.length = 520 ∧ M = [moM m (nI o.2.2.2.2.2.length) it sz sl ut ol (nI o.1.length) sp tw tm mm (nI o.2.1.length), arF cI (m 1) 570 f, arL cI (m 5) 12 xs, arL cI (m 6) 12 rf, arL cI (m 7) 12 sd, arL cI (m 8) 30 us, arL cI (m 9) 26 os, arL cI (m 10) 520 C, arL cI (m 11) 20 N]) := by
  refine ct_of (cc := cX8_count) (maxL := 2) (ret := (some .int)) (by decide) rfl (Nat.le_of_ble_eq_true rfl) [(0, .ref (m 0)), (1, .int w)] rfl ?_
  intro X hI hB K E
  subst hI
  subst hB
  have iX8 : ∀ w ∈ u_ws RX8 TX8 28, w ∈ wsX8_count := by decide +kernel
  refine v_iload_n K dX8_count_0 rfl ?_
  refine v_case (0) (fun s1_0 => ?_) (fun s1_0 => ?_)
  · refine v_tabHit K 60 dX8_count_1 s1_0 (by decide) (by decide) rfl (by decide) ?_
    refine v_aload_n K dX8_count_60 rfl ?_
    refine v_get K 0 rfl hasF_c rfl iX8 0 (by decide) rfl (by decide +kernel) rfl dX8_count_61 ?_
    refine v_iconst K (0) dX8_count_64 (by decide) ?_
    refine v_fald K 1 rfl (0) ?hx65_1 ?ix65_1 dX8_count_65 ?_
    case hx65_1 => exact rfl
    case ix65_1 => exact ⟨by decide, by decide⟩
    rw [hA.2.1]
    refine v_iret K E dX8_count_66 ?_ rfl
    exact ⟨by unfold vCount; rw [if_pos s1_0] <;> rfl, _, _, _, _, _, _, _, _, _, _, _, hu, hC, rfl⟩
  · refine v_case (1) (fun s1_1 => ?_) (fun s1_1 => ?_)
    · refine v_tabHit K 67 dX8_count_1 s1_1 (by decide) (by decide) rfl (by decide) ?_
      refine v_aload_n K dX8_count_67 rfl ?_
      refine v_get K 0 rfl hasF_c rfl iX8 0 (by decide) rfl (by decide +kernel) rfl dX8_count_68 ?_
      refine v_iconst K (1) dX8_count_71 (by decide) ?_
      refine v_fald K 1 rfl (1) ?hx72_2 ?ix72_2 dX8_count_72 ?_
      case hx72_2 => exact rfl
      case ix72_2 => exact ⟨by decide, by decide⟩
      rw [hA.2.2.1]
      refine v_iret K E dX8_count_73 ?_ rfl
      exact ⟨by unfold vCount; rw [if_neg s1_0, if_pos s1_1] <;> rfl, _, _, _, _, _, _, _, _, _, _, _, hu, hC, rfl⟩
    · refine v_case (2) (fun s1_2 => ?_) (fun s1_2 => ?_)
      · refine v_tabHit K 74 dX8_count_1 s1_2 (by decide) (by decide) rfl (by decide) ?_
        refine v_aload_n K dX8_count_74 rfl ?_
        refine v_callV K [0, 1, 2, 3, 4, 5, 6, 7, 8] (c_X8_colliding (XI X) (XB X) _ _ _ _ _ _ _ _ _ _ _ _ _ o.2.2.1 _ _ _ _ _ _ _ _ ?hc75_0_3 ?hc75_1_3 ?hc75_2_3) rfl gX8_count_X8_colliding rfl rfl hd_X8_colliding ⟨rfl, rfl⟩ ⟨by decide, by decide⟩ 0 rfl hasF_c rfl (by decide) (Nat.le_of_ble_eq_true rfl) ⟨Nat.zero_le _, Nat.zero_le _⟩ rfl dX8_count_75 ?_
        case hc75_0_3 => exact hA
        case hc75_1_3 => exact hu
        case hc75_2_3 => exact hC
        try dsimp only [Nat.reduceAdd, nf_rep1, nf_rep0, nf_d0, nf_t0, nf_s0, nf_ac, nf_an, nf_d1, nf_t1, nf_s1, nf_d2, nf_t2, nf_s2, nf_d3, nf_t3, nf_s3, nf_d4, nf_t4, nf_s4, nf_d5, nf_t5, nf_s5, nf_d6, nf_t6, nf_s6, nf_d7, nf_t7, nf_s7, nf_d8, nf_t8, nf_s8, nf_d9, nf_t9, nf_s9, nf_d10, nf_t10, nf_s10, nf_d11, nf_t11, nf_s11, nf_d12, nf_t12, nf_s12, nf_d13, nf_t13, nf_s13, nf_d14, nf_t14, nf_s14, nf_d15, nf_t15, nf_s15, nf_d16, nf_t16, nf_s16, nf_d17, nf_t17, nf_s17, nf_d18, nf_t18, nf_s18, nf_d19, nf_t19, nf_s19, nf_d20, nf_t20, nf_s20]
        intro ov Mc1 hpo _
        obtain ⟨rfl, sz, sl, ut, ol, xs, rf, sd, us, os, C, hu, hC, rfl⟩ := hpo
        refine v_iret K E dX8_count_78 ?_ rfl
        exact ⟨by unfold vCount; rw [if_neg s1_0, if_neg s1_1, if_pos s1_2, col_M hA.1] <;> rfl, _, _, _, _, _, _, _, _, _, _, _, hu, hC.2.1, rfl⟩
      · refine v_case (3) (fun s1_3 => ?_) (fun s1_3 => ?_)
        · refine v_tabHit K 79 dX8_count_1 s1_3 (by decide) (by decide) rfl (by decide) ?_
          refine v_aload_n K dX8_count_79 rfl ?_
          refine v_callV K [0, 1, 2, 3, 4, 5, 6, 7, 8] (c_X8_comeBack (XI X) (XB X) _ _ _ _ _ _ _ _ _ _ _ _ _ o.2.2.1 _ _ _ _ _ _ _ _ ?hc80_0_4 ?hc80_1_4 ?hc80_2_4) rfl gX8_count_X8_comeBack rfl rfl hd_X8_comeBack ⟨rfl, rfl⟩ ⟨by decide, by decide⟩ 0 rfl hasF_c rfl (by decide) (Nat.le_of_ble_eq_true rfl) ⟨Nat.zero_le _, Nat.zero_le _⟩ rfl dX8_count_80 ?_
          case hc80_0_4 => exact hA
          case hc80_1_4 => exact hu
          case hc80_2_4 => exact hC
          try dsimp only [Nat.reduceAdd, nf_rep1, nf_rep0, nf_d0, nf_t0, nf_s0, nf_ac, nf_an, nf_d1, nf_t1, nf_s1, nf_d2, nf_t2, nf_s2, nf_d3, nf_t3, nf_s3, nf_d4, nf_t4, nf_s4, nf_d5, nf_t5, nf_s5, nf_d6, nf_t6, nf_s6, nf_d7, nf_t7, nf_s7, nf_d8, nf_t8, nf_s8, nf_d9, nf_t9, nf_s9, nf_d10, nf_t10, nf_s10, nf_d11, nf_t11, nf_s11, nf_d12, nf_t12, nf_s12, nf_d13, nf_t13, nf_s13, nf_d14, nf_t14, nf_s14, nf_d15, nf_t15, nf_s15, nf_d16, nf_t16, nf_s16, nf_d17, nf_t17, nf_s17, nf_d18, nf_t18, nf_s18, nf_d19, nf_t19, nf_s19, nf_d20, nf_t20, nf_s20]
          intro ov Mc1 hpo _
          obtain ⟨rfl, sz, sl, ut, ol, xs, rf, sd, us, os, C, hu, hC, rfl⟩ := hpo
          refine v_iret K E dX8_count_83 ?_ rfl
          exact ⟨by unfold vCount; rw [if_neg s1_0, if_neg s1_1, if_neg s1_2, if_pos s1_3, cbk_M hA.1] <;> rfl, _, _, _, _, _, _, _, _, _, _, _, hu, hC.2.1, rfl⟩
        · refine v_case (4) (fun s1_4 => ?_) (fun s1_4 => ?_)
          · refine v_tabHit K 84 dX8_count_1 s1_4 (by decide) (by decide) rfl (by decide) ?_
            refine v_aload_n K dX8_count_84 rfl ?_
            refine v_callV K [0, 1, 2, 3, 4, 5] (c_X8_neverUsed (XI X) (XB X) _ _ _ _ _ _ _ _ _ _ _ _ _ o.2.2.1 _ _ _ _ _ ?hc85_0_5) rfl gX8_count_X8_neverUsed rfl rfl hd_X8_neverUsed ⟨rfl, rfl⟩ ⟨by decide, by decide⟩ 0 rfl hasF_c rfl (by decide) (Nat.le_of_ble_eq_true rfl) ⟨Nat.zero_le _, Nat.zero_le _⟩ rfl dX8_count_85 ?_
            case hc85_0_5 => exact hA
            try dsimp only [Nat.reduceAdd, nf_rep1, nf_rep0, nf_d0, nf_t0, nf_s0, nf_ac, nf_an, nf_d1, nf_t1, nf_s1, nf_d2, nf_t2, nf_s2, nf_d3, nf_t3, nf_s3, nf_d4, nf_t4, nf_s4, nf_d5, nf_t5, nf_s5, nf_d6, nf_t6, nf_s6, nf_d7, nf_t7, nf_s7, nf_d8, nf_t8, nf_s8, nf_d9, nf_t9, nf_s9, nf_d10, nf_t10, nf_s10, nf_d11, nf_t11, nf_s11, nf_d12, nf_t12, nf_s12, nf_d13, nf_t13, nf_s13, nf_d14, nf_t14, nf_s14, nf_d15, nf_t15, nf_s15, nf_d16, nf_t16, nf_s16, nf_d17, nf_t17, nf_s17, nf_d18, nf_t18, nf_s18, nf_d19, nf_t19, nf_s19, nf_d20, nf_t20, nf_s20]
            intro ov Mc1 hpo _
            obtain ⟨rfl, sz, sl, ut, xs, rf, sd, rfl⟩ := hpo
            refine v_iret K E dX8_count_88 ?_ rfl
            exact ⟨by unfold vCount; rw [if_neg s1_0, if_neg s1_1, if_neg s1_2, if_neg s1_3, if_pos s1_4, unu_M hA.1] <;> rfl, _, _, _, _, _, _, _, _, _, _, _, usS_len _ _, hC, rfl⟩
          · refine v_case (5) (fun s1_5 => ?_) (fun s1_5 => ?_)
            · refine v_tabHit K 89 dX8_count_1 s1_5 (by decide) (by decide) rfl (by decide) ?_
              refine v_aload_n K dX8_count_89 rfl ?_
              refine v_callVi K [0, 1] (c_X8_lettersOfAll (XI X) (XB X) _ _ _ _ _ _ _ _ _ _ _ _ _ o.2.2.1 _ ?hc90_0_6) rfl gX8_count_X8_lettersOfAll rfl rfl hd_X8_lettersOfAll ⟨rfl, rfl⟩ ⟨by decide, by decide⟩ 0 rfl hasF_c rfl (by decide) (Nat.le_of_ble_eq_true rfl) ⟨Nat.zero_le _, Nat.zero_le _⟩ rfl dX8_count_90 ?_
              case hc90_0_6 => exact hA
              try dsimp only [Nat.reduceAdd, nf_rep1, nf_rep0, nf_d0, nf_t0, nf_s0, nf_ac, nf_an, nf_d1, nf_t1, nf_s1, nf_d2, nf_t2, nf_s2, nf_d3, nf_t3, nf_s3, nf_d4, nf_t4, nf_s4, nf_d5, nf_t5, nf_s5, nf_d6, nf_t6, nf_s6, nf_d7, nf_t7, nf_s7, nf_d8, nf_t8, nf_s8, nf_d9, nf_t9, nf_s9, nf_d10, nf_t10, nf_s10, nf_d11, nf_t11, nf_s11, nf_d12, nf_t12, nf_s12, nf_d13, nf_t13, nf_s13, nf_d14, nf_t14, nf_s14, nf_d15, nf_t15, nf_s15, nf_d16, nf_t16, nf_s16, nf_d17, nf_t17, nf_s17, nf_d18, nf_t18, nf_s18, nf_d19, nf_t19, nf_s19, nf_d20, nf_t20, nf_s20]
              refine v_iret K E dX8_count_93 ?_ rfl
              exact ⟨by unfold vCount; rw [if_neg s1_0, if_neg s1_1, if_neg s1_2, if_neg s1_3, if_neg s1_4, if_pos s1_5, sumL_all] <;> rfl, _, _, _, _, _, _, _, _, _, _, _, hu, hC, rfl⟩
            · refine v_case (6) (fun s1_6 => ?_) (fun s1_6 => ?_)
              · refine v_tabHit K 94 dX8_count_1 s1_6 (by decide) (by decide) rfl (by decide) ?_
                refine v_aload_n K dX8_count_94 rfl ?_
                refine v_callV K [0, 1, 2, 3, 4, 5, 6, 7, 8] (c_X8_spellingsOfAll (XI X) (XB X) _ _ _ _ _ _ _ _ _ _ _ _ _ o.2.2.1 _ _ _ _ _ _ _ _ ?hc95_0_7 ?hc95_1_7 ?hc95_2_7) rfl gX8_count_X8_spellingsOfAll rfl rfl hd_X8_spellingsOfAll ⟨rfl, rfl⟩ ⟨by decide, by decide⟩ 0 rfl hasF_c rfl (by decide) (Nat.le_of_ble_eq_true rfl) ⟨Nat.zero_le _, Nat.zero_le _⟩ rfl dX8_count_95 ?_
                case hc95_0_7 => exact hA
                case hc95_1_7 => exact hu
                case hc95_2_7 => exact hC
                try dsimp only [Nat.reduceAdd, nf_rep1, nf_rep0, nf_d0, nf_t0, nf_s0, nf_ac, nf_an, nf_d1, nf_t1, nf_s1, nf_d2, nf_t2, nf_s2, nf_d3, nf_t3, nf_s3, nf_d4, nf_t4, nf_s4, nf_d5, nf_t5, nf_s5, nf_d6, nf_t6, nf_s6, nf_d7, nf_t7, nf_s7, nf_d8, nf_t8, nf_s8, nf_d9, nf_t9, nf_s9, nf_d10, nf_t10, nf_s10, nf_d11, nf_t11, nf_s11, nf_d12, nf_t12, nf_s12, nf_d13, nf_t13, nf_s13, nf_d14, nf_t14, nf_s14, nf_d15, nf_t15, nf_s15, nf_d16, nf_t16, nf_s16, nf_d17, nf_t17, nf_s17, nf_d18, nf_t18, nf_s18, nf_d19, nf_t19, nf_s19, nf_d20, nf_t20, nf_s20]
                intro ov Mc1 hpo _
                obtain ⟨rfl, sz, sl, ut, ol, xs, rf, sd, us, os, C, hu, hC, rfl⟩ := hpo
                refine v_iret K E dX8_count_98 ?_ rfl
                exact ⟨by unfold vCount; rw [if_neg s1_0, if_neg s1_1, if_neg s1_2, if_neg s1_3, if_neg s1_4, if_neg s1_5, if_pos s1_6, sv_sp hA.1, sumL_all, spL_len] <;> rfl, _, _, _, _, _, _, _, _, _, _, _, hu, hC.2.1, rfl⟩
              · refine v_case (7) (fun s1_7 => ?_) (fun s1_7 => ?_)
                · refine v_tabHit K 99 dX8_count_1 s1_7 (by decide) (by decide) rfl (by decide) ?_
                  refine v_aload_n K dX8_count_99 rfl ?_
                  refine v_get K 0 rfl hasF_c rfl iX8 27 (by decide) rfl (by decide +kernel) rfl dX8_count_100 ?_
                  refine v_iret K E dX8_count_103 ?_ rfl
                  exact ⟨by unfold vCount; rw [if_neg s1_0, if_neg s1_1, if_neg s1_2, if_neg s1_3, if_neg s1_4, if_neg s1_5, if_neg s1_6, if_pos s1_7] <;> rfl, _, _, _, _, _, _, _, _, _, _, _, hu, hC, rfl⟩
                · refine v_case (8) (fun s1_8 => ?_) (fun s1_8 => ?_)
                  · refine v_tabHit K 104 dX8_count_1 s1_8 (by decide) (by decide) rfl (by decide) ?_
                    refine v_aload_n K dX8_count_104 rfl ?_
                    refine v_get K 0 rfl hasF_c rfl iX8 3 (by decide) rfl (by decide +kernel) rfl dX8_count_105 ?_
                    refine v_iret K E dX8_count_108 ?_ rfl
                    exact ⟨by unfold vCount; rw [if_neg s1_0, if_neg s1_1, if_neg s1_2, if_neg s1_3, if_neg s1_4, if_neg s1_5, if_neg s1_6, if_neg s1_7, if_pos s1_8] <;> rfl, _, _, _, _, _, _, _, _, _, _, _, hu, hC, rfl⟩
                  · refine v_case (9) (fun s1_9 => ?_) (fun s1_9 => ?_)
                    · refine v_tabHit K 109 dX8_count_1 s1_9 (by decide) (by decide) rfl (by decide) ?_
                      refine v_aload_n K dX8_count_109 rfl ?_
                      refine v_get K 0 rfl hasF_c rfl iX8 18 (by decide) rfl (by decide +kernel) rfl dX8_count_110 ?_
                      refine v_iret K E dX8_count_113 ?_ rfl
                      exact ⟨by unfold vCount; rw [if_neg s1_0, if_neg s1_1, if_neg s1_2, if_neg s1_3, if_neg s1_4, if_neg s1_5, if_neg s1_6, if_neg s1_7, if_neg s1_8, if_pos s1_9] <;> rfl, _, _, _, _, _, _, _, _, _, _, _, hu, hC, rfl⟩
                    · refine v_case (10) (fun s1_10 => ?_) (fun s1_10 => ?_)
                      · refine v_tabHit K 114 dX8_count_1 s1_10 (by decide) (by decide) rfl (by decide) ?_
                        refine v_aload_n K dX8_count_114 rfl ?_
                        refine v_callVi K [0, 1] (c_X8_longSigns (XI X) (XB X) _ _ _ _ _ _ _ _ _ _ _ _ _ o.2.2.1 _ ?hc115_0_8) rfl gX8_count_X8_longSigns rfl rfl hd_X8_longSigns ⟨rfl, rfl⟩ ⟨by decide, by decide⟩ 0 rfl hasF_c rfl (by decide) (Nat.le_of_ble_eq_true rfl) ⟨Nat.zero_le _, Nat.zero_le _⟩ rfl dX8_count_115 ?_
                        case hc115_0_8 => exact hA
                        try dsimp only [Nat.reduceAdd, nf_rep1, nf_rep0, nf_d0, nf_t0, nf_s0, nf_ac, nf_an, nf_d1, nf_t1, nf_s1, nf_d2, nf_t2, nf_s2, nf_d3, nf_t3, nf_s3, nf_d4, nf_t4, nf_s4, nf_d5, nf_t5, nf_s5, nf_d6, nf_t6, nf_s6, nf_d7, nf_t7, nf_s7, nf_d8, nf_t8, nf_s8, nf_d9, nf_t9, nf_s9, nf_d10, nf_t10, nf_s10, nf_d11, nf_t11, nf_s11, nf_d12, nf_t12, nf_s12, nf_d13, nf_t13, nf_s13, nf_d14, nf_t14, nf_s14, nf_d15, nf_t15, nf_s15, nf_d16, nf_t16, nf_s16, nf_d17, nf_t17, nf_s17, nf_d18, nf_t18, nf_s18, nf_d19, nf_t19, nf_s19, nf_d20, nf_t20, nf_s20]
                        refine v_iret K E dX8_count_118 ?_ rfl
                        exact ⟨by unfold vCount; rw [if_neg s1_0, if_neg s1_1, if_neg s1_2, if_neg s1_3, if_neg s1_4, if_neg s1_5, if_neg s1_6, if_neg s1_7, if_neg s1_8, if_neg s1_9, if_pos s1_10, longS_M hA.1] <;> rfl, _, _, _, _, _, _, _, _, _, _, _, hu, hC, rfl⟩
                      · refine v_tabOut K 119 dX8_count_1 (by have h0 := lv_neT (k := 0) (a := 0) s1_0 rfl; have h1 := lv_neT (k := 1) (a := 1) s1_1 rfl; have h2 := lv_neT (k := 2) (a := 2) s1_2 rfl; have h3 := lv_neT (k := 3) (a := 3) s1_3 rfl; have h4 := lv_neT (k := 4) (a := 4) s1_4 rfl; have h5 := lv_neT (k := 5) (a := 5) s1_5 rfl; have h6 := lv_neT (k := 6) (a := 6) s1_6 rfl; have h7 := lv_neT (k := 7) (a := 7) s1_7 rfl; have h8 := lv_neT (k := 8) (a := 8) s1_8 rfl; have h9 := lv_neT (k := 9) (a := 9) s1_9 rfl; have h10 := lv_neT (k := 10) (a := 10) s1_10 rfl; omega) (by decide) ?_
                        refine v_bipush K (-2) dX8_count_119 (by decide) ?_
                        refine v_iret K E dX8_count_121 ?_ rfl
                        exact ⟨by unfold vCount; rw [if_neg s1_0, if_neg s1_1, if_neg s1_2, if_neg s1_3, if_neg s1_4, if_neg s1_5, if_neg s1_6, if_neg s1_7, if_neg s1_8, if_neg s1_9, if_neg s1_10] <;> rfl, _, _, _, _, _, _, _, _, _, _, _, hu, hC, rfl⟩
