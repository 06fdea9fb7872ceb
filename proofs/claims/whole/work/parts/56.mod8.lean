theorem hd_X8_changedSpellings : yX8_changedSpellings.cls = RX8 ∧ yX8_changedSpellings.cls ≠ "java/lang/invoke/MethodHandle" ∧ yX8_changedSpellings.cls ≠ "java/lang/invoke/VarHandle" ∧ (parseMethodDescriptor yX8_changedSpellings.desc).map (fun d => d.parameters.length) = some 0 := by decide +kernel
set_option maxHeartbeats 4000000 in
set_option maxRecDepth 100000 in
theorem c_X8_changedSpellings (cI cB : ClassId) (m : Nat → Nat) (hl it sz sl ut ol tl sp tw tm mm rl : Int32) (S : Bk) (f : Nat → Int32) (xs rf sd us os C N Hd : List Int32) (L0 : List (List Int32)) (hA : allR S f) (hu : us.length = 30) (hC : C.length = 520) (hL : rlS L0 Hd) (hl0 : L0.length = S.2.2.2.2.1.length) : Ct cI cB yX8_changedSpellings wsX8_changedSpellings { frames := 6, cells := 0, slots := 0, locals := 139 } [.ref (m 0)] [moM m hl it sz sl ut ol tl sp tw tm mm rl, arF cI (m 1) 570 f, arL cI (m 5) 12 xs, arL cI (m 6) 12 rf, arL cI (m 7) 12 sd, arL cI (m 8) 30 us, arL cI (m 9) 26 os, arL cI (m 10) 520 C, arL cI (m 11) 20 N, arL cI (m 14) 520 Hd, arL cI (m 15) 20 (lens L0)] (fun ov M => ov = some (.int (nI (cntR (dif (spL S) L0) S.2.2.2.2.1.length))) ∧ ∃ (sz sl ut ol : Int32) (xs rf sd us os C N : List Int32), us.length = 30 ∧ C.length = 520 ∧ M = [moM m hl it sz sl ut ol tl sp tw tm mm rl, arF cI (m 1) 570 f, arL cI (m 5) 12 xs, arL cI (m 6) 12 rf, arL cI (m 7) 12 sd, arL cI (m 8) 30 us, arL cI (m 9) 26 os, arL cI (m 10) 520 C, arL cI (m 11) 20 N, arL cI (m 14) 520 Hd, arL cI (m 15) 20 (lens L0)]) := by
  refine ct_of (cc := cX8_changedSpellings) (maxL := 5) (ret := (some .int)) (by decide) rfl (Nat.le_of_ble_eq_true rfl) [(0, .ref (m 0))] rfl ?_
  intro X hI hB K E
  subst hI
  subst hB
  have iX8 : ∀ w ∈ u_ws RX8 TX8 28, w ∈ wsX8_changedSpellings := by decide +kernel
  have h20 := hA.1.2.2.2.2.1
  have hlS : (spL S).length = S.2.2.2.2.1.length := spL_len
  refine v_iconst K (0) dX8_changedSpellings_0 (by decide) ?_
  refine v_istore_n K dX8_changedSpellings_1 (by decide) ?_
  refine v_aload_n K dX8_changedSpellings_2 rfl ?_
  refine v_callV K [0, 1, 2, 3, 4, 5, 6, 7, 8] (c_X8_spells (XI X) (XB X) _ _ _ _ _ _ _ _ _ _ _ _ _ S _ _ _ _ _ _ _ _ ?hc3_0_1 ?hc3_1_1 ?hc3_2_1) rfl gX8_changedSpellings_X8_spells rfl rfl hd_X8_spells ⟨rfl, rfl⟩ ⟨by decide, by decide⟩ 0 rfl hasF_c rfl (by decide) (Nat.le_of_ble_eq_true rfl) ⟨Nat.zero_le _, Nat.zero_le _⟩ rfl dX8_changedSpellings_3 ?_
  case hc3_0_1 => exact hA
  case hc3_1_1 => exact hu
  case hc3_2_1 => exact hC
  try dsimp only [Nat.reduceAdd, nf_rep1, nf_rep0, nf_d0, nf_t0, nf_s0, nf_ac, nf_an, nf_d1, nf_t1, nf_s1, nf_d2, nf_t2, nf_s2, nf_d3, nf_t3, nf_s3, nf_d4, nf_t4, nf_s4, nf_d5, nf_t5, nf_s5, nf_d6, nf_t6, nf_s6, nf_d7, nf_t7, nf_s7, nf_d8, nf_t8, nf_s8, nf_d9, nf_t9, nf_s9, nf_d10, nf_t10, nf_s10, nf_d11, nf_t11, nf_s11, nf_d12, nf_t12, nf_s12, nf_d13, nf_t13, nf_s13, nf_d14, nf_t14, nf_s14, nf_d15, nf_t15, nf_s15, nf_d16, nf_t16, nf_s16, nf_d17, nf_t17, nf_s17, nf_d18, nf_t18, nf_s18, nf_d19, nf_t19, nf_s19, nf_d20, nf_t20, nf_s20]
  intro ov Mc1 hpo _
  obtain ⟨rfl, sz, sl, ut, ol, xs, rf, sd, us, os, C, hu, hC, rfl⟩ := hpo
  refine v_iconst K (0) dX8_changedSpellings_6 (by decide) ?_
  refine v_istore_n K dX8_changedSpellings_7 (by decide) ?_
  have lpi : ∀ (I : Nat) (n : Int32), I < S.2.2.2.2.1.length → (∀ y, V X 0 0 96 [(0, .ref (m 0)), (1, .int n), (2, .int (nI I)), (3, .int (bI (decide ((spL S).getD I [] = L0.getD I [])))), (4, .int y)] [] [moM m hl it sz sl ut ol tl sp tw tm mm rl, arF (XI X) (m 1) 570 f, arL (XI X) (m 5) 12 xs, arL (XI X) (m 6) 12 rf, arL (XI X) (m 7) 12 sd, arL (XI X) (m 8) 30 us, arL (XI X) (m 9) 26 os, arL (XI X) (m 10) 520 C, arL (XI X) (m 11) 20 (lens (spL S)), arL (XI X) (m 14) 520 Hd, arL (XI X) (m 15) 20 (lens L0)]) → ∀ k, k ≤ (L0.getD I []).length → ∀ (x : Int32) (b : Bool), x = nI k → b = decide ((L0.getD I []).length = ((spL S).getD I []).length ∧ ∀ j, j < k → (L0.getD I []).getD j (-5) = ((spL S).getD I []).getD j (-5)) → V X 0 0 42 [(0, .ref (m 0)), (1, .int n), (2, .int (nI I)), (3, .int (bI b)), (4, .int x)] [] [moM m hl it sz sl ut ol tl sp tw tm mm rl, arF (XI X) (m 1) 570 f, arL (XI X) (m 5) 12 xs, arL (XI X) (m 6) 12 rf, arL (XI X) (m 7) 12 sd, arL (XI X) (m 8) 30 us, arL (XI X) (m 9) 26 os, arL (XI X) (m 10) 520 C, arL (XI X) (m 11) 20 (lens (spL S)), arL (XI X) (m 14) 520 Hd, arL (XI X) (m 15) 20 (lens L0)] := by
    intro I n hI hk0
    have hI0 : I < L0.length := by omega
    have hI1 : I < (spL S).length := by omega
    have hl0 := rl_len hL (k := I)
    have hl1 := rl_len hC (k := I)
    refine loop_up (L0.getD I []).length ?_
    intro k hk ih x b hx hb
    subst hx
    refine v_iload K dX8_changedSpellings_42 rfl ?_
    refine v_aload_n K dX8_changedSpellings_44 rfl ?_
    refine v_get K 0 rfl hasF_c rfl iX8 25 (by decide) rfl (by decide +kernel) rfl dX8_changedSpellings_45 ?_
    refine v_iload_n K dX8_changedSpellings_48 rfl ?_
    refine v_lald K 10 rfl (I) ?hx49_2 ?ix49_2 dX8_changedSpellings_49 ?_
    case hx49_2 => exact rfl
    case ix49_2 => rw [lens_len]; exact hI0
    rw [lens_gd hI0]
    refine v_ic_ge K 96 dX8_changedSpellings_50 (by decide) (fun c50 => ?_) (fun c50 => ?_)
    · have he := up_end rfl (by omega) hk c50
      have hbe : b = decide ((spL S).getD I [] = L0.getD I []) := by
        rw [hb, decide_eq_decide]
        subst he
        exact ⟨fun h => (of_decide_eq_true (same_t h.1 h.2)).symm, fun h => by rw [h]; exact ⟨rfl, fun _ _ => rfl⟩⟩
      exact v_j (hk0 _) (by rw [hbe] <;> rfl) rfl rfl
    · have hlt := up_lt rfl (by omega) hk c50
      refine v_iload_n K dX8_changedSpellings_53 rfl ?_
      refine v_if_eq K 96 dX8_changedSpellings_54 (by decide) (fun c54 => ?_) (fun c54 => ?_)
      · have hbe : b = decide ((spL S).getD I [] = L0.getD I []) := by
          have h0 := bI_0 c54
          rw [h0]
          rw [h0] at hb
          exact (decide_eq_false (fun z => of_decide_eq_false hb.symm (by rw [z]; exact ⟨rfl, fun _ _ => rfl⟩))).symm
        exact v_j (hk0 _) (by rw [hbe] <;> rfl) rfl rfl
      · have hbt := bI_1 c54
        rw [hbt] at hb
        have hall := of_decide_eq_true hb.symm
        refine v_aload_n K dX8_changedSpellings_57 rfl ?_
        refine v_get K 0 rfl hasF_c rfl iX8 24 (by decide) rfl (by decide +kernel) rfl dX8_changedSpellings_58 ?_
        refine v_bipush K (26) dX8_changedSpellings_61 (by decide) ?_
        refine v_iload_n K dX8_changedSpellings_63 rfl ?_
        refine v_imul K dX8_changedSpellings_64 ?_
        refine v_iload K dX8_changedSpellings_65 rfl ?_
        refine v_iadd K dX8_changedSpellings_67 ?_
        refine v_lald K 9 rfl (I * 26 + k) ?hx68_3 ?ix68_3 dX8_changedSpellings_68 ?_
        case hx68_3 => exact ix26
        case ix68_3 => exact (rl_at5 hL hI0 hlt).1
        rw [(rl_at5 hL hI0 hlt).2]
        refine v_aload_n K dX8_changedSpellings_69 rfl ?_
        refine v_get K 0 rfl hasF_c rfl iX8 15 (by decide) rfl (by decide +kernel) rfl dX8_changedSpellings_70 ?_
        refine v_bipush K (26) dX8_changedSpellings_73 (by decide) ?_
        refine v_iload_n K dX8_changedSpellings_75 rfl ?_
        refine v_imul K dX8_changedSpellings_76 ?_
        refine v_iload K dX8_changedSpellings_77 rfl ?_
        refine v_iadd K dX8_changedSpellings_79 ?_
        refine v_lald K 7 rfl (I * 26 + k) ?hx80_4 ?ix80_4 dX8_changedSpellings_80 ?_
        case hx80_4 => exact ix26
        case ix80_4 => exact (rl_at5 hC hI1 (by omega)).1
        rw [(rl_at5 hC hI1 (by omega)).2]
        refine v_ic_ne K 88 dX8_changedSpellings_81 (by decide) (fun c81 => ?_) (fun c81 => ?_)
        · refine v_iconst K (0) dX8_changedSpellings_88 (by decide) ?_
          refine v_istore_n K dX8_changedSpellings_89 (by decide) ?_
          refine v_iinc K dX8_changedSpellings_90 rfl (by decide) iinc_1 ?_
          refine v_goto K 42 dX8_changedSpellings_93 (by decide) ?_
          exact v_j (ih hlt _ false (nI_1 k) (by rw [decide_eq_false (fun z => c81 (z.2 k (by omega)))] <;> rfl)) rfl rfl rfl
        · refine v_iconst K (1) dX8_changedSpellings_84 (by decide) ?_
          refine v_goto K 89 dX8_changedSpellings_85 (by decide) ?_
          refine v_istore_n K dX8_changedSpellings_89 (by decide) ?_
          refine v_iinc K dX8_changedSpellings_90 rfl (by decide) iinc_1 ?_
          refine v_goto K 42 dX8_changedSpellings_93 (by decide) ?_
          exact v_j (ih hlt _ true (nI_1 k) (by rw [decide_eq_true ⟨hall.1, fun j hj => (Nat.lt_or_ge j k).elim (hall.2 j) (fun h => by rw [show j = k by omega]; exact c81)⟩] <;> rfl)) rfl rfl rfl
  have lp : ∀ k, k ≤ S.2.2.2.2.1.length → ∀ x : Int32, x = nI k → V X 0 0 8 [(0, .ref (m 0)), (1, .int (nI (cntR (dif (spL S) L0) k))), (2, .int x)] [] [moM m hl it sz sl ut ol tl sp tw tm mm rl, arF (XI X) (m 1) 570 f, arL (XI X) (m 5) 12 xs, arL (XI X) (m 6) 12 rf, arL (XI X) (m 7) 12 sd, arL (XI X) (m 8) 30 us, arL (XI X) (m 9) 26 os, arL (XI X) (m 10) 520 C, arL (XI X) (m 11) 20 (lens (spL S)), arL (XI X) (m 14) 520 Hd, arL (XI X) (m 15) 20 (lens L0)] := by
    refine loop_up S.2.2.2.2.1.length ?_
    intro k hk ih x hx
    subst hx
    refine v_iload_n K dX8_changedSpellings_8 rfl ?_
    refine v_aload_n K dX8_changedSpellings_9 rfl ?_
    refine v_get K 0 rfl hasF_c rfl iX8 0 (by decide) rfl (by decide +kernel) rfl dX8_changedSpellings_10 ?_
    refine v_iconst K (1) dX8_changedSpellings_13 (by decide) ?_
    refine v_fald K 1 rfl (1) ?hx14_5 ?ix14_5 dX8_changedSpellings_14 ?_
    case hx14_5 => exact rfl
    case ix14_5 => exact ⟨by decide, by decide⟩
    rw [hA.2.2.1]
    refine v_ic_ge K 114 dX8_changedSpellings_15 (by decide) (fun c15 => ?_) (fun c15 => ?_)
    · refine v_iload_n K dX8_changedSpellings_114 rfl ?_
      refine v_iret K E dX8_changedSpellings_115 ?_ rfl
      have he := up_end rfl (by omega) hk c15
      exact ⟨by rw [he] <;> rfl, _, _, _, _, _, _, _, _, _, _, _, hu, hC.2.1, rfl⟩
    · have hlt := up_lt rfl (by omega) hk c15
      have hI0 : k < L0.length := by omega
      have hI1 : k < (spL S).length := by omega
      have hl0 := rl_len hL (k := k)
      have hl1 := rl_len hC (k := k)
      refine v_aload_n K dX8_changedSpellings_18 rfl ?_
      refine v_get K 0 rfl hasF_c rfl iX8 25 (by decide) rfl (by decide +kernel) rfl dX8_changedSpellings_19 ?_
      refine v_iload_n K dX8_changedSpellings_22 rfl ?_
      refine v_lald K 10 rfl (k) ?hx23_6 ?ix23_6 dX8_changedSpellings_23 ?_
      case hx23_6 => exact rfl
      case ix23_6 => rw [lens_len]; exact hI0
      rw [lens_gd hI0]
      refine v_aload_n K dX8_changedSpellings_24 rfl ?_
      refine v_get K 0 rfl hasF_c rfl iX8 16 (by decide) rfl (by decide +kernel) rfl dX8_changedSpellings_25 ?_
      refine v_iload_n K dX8_changedSpellings_28 rfl ?_
      refine v_lald K 8 rfl (k) ?hx29_7 ?ix29_7 dX8_changedSpellings_29 ?_
      case hx29_7 => exact rfl
      case ix29_7 => rw [lens_len]; exact hI1
      rw [lens_gd hI1]
      refine v_ic_ne K 37 dX8_changedSpellings_30 (by decide) (fun c30 => ?_) (fun c30 => ?_)
      · refine v_iconst K (0) dX8_changedSpellings_37 (by decide) ?_
        refine v_istore_n K dX8_changedSpellings_38 (by decide) ?_
        refine v_iconst K (0) dX8_changedSpellings_39 (by decide) ?_
        refine v_istore K dX8_changedSpellings_40 (by decide) ?_
        refine v_j (lpi k _ hlt (fun y => ?_) 0 (Nat.zero_le _) 0 false rfl (by rw [decide_eq_false (fun z => c30 (by rw [z.1] <;> rfl))] <;> rfl)) rfl rfl rfl
        refine v_iload_n K dX8_changedSpellings_96 rfl ?_
        refine v_iload_n K dX8_changedSpellings_97 rfl ?_
        refine v_if_eq K 105 dX8_changedSpellings_98 (by decide) (fun c98 => ?_) (fun c98 => ?_)
        · refine v_iconst K (1) dX8_changedSpellings_105 (by decide) ?_
          refine v_iadd K dX8_changedSpellings_106 ?_
          refine v_istore_n K dX8_changedSpellings_107 (by decide) ?_
          refine v_iinc K dX8_changedSpellings_108 rfl (by decide) iinc_1 ?_
          refine v_goto K 8 dX8_changedSpellings_111 (by decide) ?_
          have hp : (dif (spL S) L0) k = true := by unfold dif; rw [bI_0 c98] <;> rfl
          exact v_j (ih hlt _ (nI_1 k)) (by rw [c_t hp] <;> rfl) rfl rfl
        · refine v_iconst K (0) dX8_changedSpellings_101 (by decide) ?_
          refine v_goto K 106 dX8_changedSpellings_102 (by decide) ?_
          refine v_iadd K dX8_changedSpellings_106 ?_
          refine v_istore_n K dX8_changedSpellings_107 (by decide) ?_
          refine v_iinc K dX8_changedSpellings_108 rfl (by decide) iinc_1 ?_
          refine v_goto K 8 dX8_changedSpellings_111 (by decide) ?_
          have hp : (dif (spL S) L0) k = false := by unfold dif; rw [bI_1 c98] <;> rfl
          exact v_j (ih hlt _ (nI_1 k)) (by rw [c_f hp] <;> rfl) rfl rfl
      · refine v_iconst K (1) dX8_changedSpellings_33 (by decide) ?_
        refine v_goto K 38 dX8_changedSpellings_34 (by decide) ?_
        refine v_istore_n K dX8_changedSpellings_38 (by decide) ?_
        refine v_iconst K (0) dX8_changedSpellings_39 (by decide) ?_
        refine v_istore K dX8_changedSpellings_40 (by decide) ?_
        refine v_j (lpi k _ hlt (fun y => ?_) 0 (Nat.zero_le _) 0 true rfl (by rw [decide_eq_true ⟨(nI_eq (by omega) (by omega)).mp c30, fun j hj => absurd hj (Nat.not_lt_zero j)⟩] <;> rfl)) rfl rfl rfl
        refine v_iload_n K dX8_changedSpellings_96 rfl ?_
        refine v_iload_n K dX8_changedSpellings_97 rfl ?_
        refine v_if_eq K 105 dX8_changedSpellings_98 (by decide) (fun c98 => ?_) (fun c98 => ?_)
        · refine v_iconst K (1) dX8_changedSpellings_105 (by decide) ?_
          refine v_iadd K dX8_changedSpellings_106 ?_
          refine v_istore_n K dX8_changedSpellings_107 (by decide) ?_
          refine v_iinc K dX8_changedSpellings_108 rfl (by decide) iinc_1 ?_
          refine v_goto K 8 dX8_changedSpellings_111 (by decide) ?_
          have hp : (dif (spL S) L0) k = true := by unfold dif; rw [bI_0 c98] <;> rfl
          exact v_j (ih hlt _ (nI_1 k)) (by rw [c_t hp] <;> rfl) rfl rfl
        · refine v_iconst K (0) dX8_changedSpellings_101 (by decide) ?_
          refine v_goto K 106 dX8_changedSpellings_102 (by decide) ?_
          refine v_iadd K dX8_changedSpellings_106 ?_
          refine v_istore_n K dX8_changedSpellings_107 (by decide) ?_
          refine v_iinc K dX8_changedSpellings_108 rfl (by decide) iinc_1 ?_
          refine v_goto K 8 dX8_changedSpellings_111 (by decide) ?_
          have hp : (dif (spL S) L0) k = false := by unfold dif; rw [bI_1 c98] <;> rfl
          exact v_j (ih hlt _ (nI_1 k)) (by rw [c_f hp] <;> rfl) rfl rfl
  exact v_j (lp 0 (Nat.zero_le _) 0 rfl) rfl rfl rfl

theorem hd_X8_markCollisions : yX8_markCollisions.cls = RX8 ∧ yX8_markCollisions.cls ≠ "java/lang/invoke/MethodHandle" ∧ yX8_markCollisions.cls ≠ "java/lang/invoke/VarHandle" ∧ (parseMethodDescriptor yX8_markCollisions.desc).map (fun d => d.parameters.length) = some 0 := by decide +kernel
set_option maxHeartbeats 4000000 in
set_option maxRecDepth 100000 in
theorem c_X8_markCollisions (cI cB : ClassId) (m : Nat → Nat) (it sz sl ut ol tl sp tw tm mm rl : Int32) (S : Bk) (hs : List Bk) (f0 g h : Nat → Int32) (xs rf sd us os C N : List Int32) (hA : allR S f0) (hH : histR hs h) (hu : us.length = 30) (hC : C.length = 520) : Ct cI cB yX8_markCollisions wsX8_markCollisions { frames := 6, cells := 0, slots := 0, locals := 139 } [.ref (m 0)] [moM m (nI hs.length) it sz sl ut ol tl sp tw tm mm rl, arF cI (m 1) 570 f0, arL cI (m 5) 12 xs, arL cI (m 6) 12 rf, arL cI (m 7) 12 sd, arL cI (m 8) 30 us, arL cI (m 9) 26 os, arL cI (m 10) 520 C, arL cI (m 11) 20 N, arF cI (m 2) 570 g, arF cI (m 3) 2280 h] (fun ov M => ov = some (.int (mkT S hs).1) ∧ ∃ (f g h : Nat → Int32) (sz sl ut ol : Int32) (xs rf sd us os C N : List Int32), allR (mkT S hs).2.1 f ∧ histR (mkT S hs).2.2 h ∧ us.length = 30 ∧ C.length = 520 ∧ M = [moM m (nI (mkT S hs).2.2.length) it sz sl ut ol tl sp tw tm mm rl, arF cI (m 1) 570 f, arL cI (m 5) 12 xs, arL cI (m 6) 12 rf, arL cI (m 7) 12 sd, arL cI (m 8) 30 us, arL cI (m 9) 26 os, arL cI (m 10) 520 C, arL cI (m 11) 20 N, arF cI (m 2) 570 g, arF cI (m 3) 2280 h]) := by
  refine ct_of (cc := cX8_markCollisions) (maxL := 3) (ret := (some .int)) (by decide) rfl (Nat.le_of_ble_eq_true rfl) [(0, .ref (m 0))] rfl ?_
  intro X hI hB K E
  subst hI
  subst hB
  have iX8 : ∀ w ∈ u_ws RX8 TX8 28, w ∈ wsX8_markCollisions := by decide +kernel
  have hw := hA.1
  have h20 := hw.2.2.2.2.1
  have h6 := hw.2.2.2.2.2.1
  have lp : ∀ k, k ≤ S.2.2.2.2.1.length → ∀ (x : Int32), x = nI k → ∀ (f : Nat → Int32) (sz sl ut ol : Int32) (xs rf sd us os C N : List Int32), allR (mkS S (svy S) k) f → us.length = 30 → C.length = 520 → V X 0 0 8 [(0, .ref (m 0)), (1, .int (nI (cntR (tbm S (svy S)) k))), (2, .int x)] [] [moM m (nI hs.length) it sz sl ut ol tl sp tw tm mm rl, arF (XI X) (m 1) 570 f, arL (XI X) (m 5) 12 xs, arL (XI X) (m 6) 12 rf, arL (XI X) (m 7) 12 sd, arL (XI X) (m 8) 30 us, arL (XI X) (m 9) 26 os, arL (XI X) (m 10) 520 C, arL (XI X) (m 11) 20 N, arF (XI X) (m 2) 570 (cpK f0 g 570), arF (XI X) (m 3) 2280 h] := by
    refine loop_up S.2.2.2.2.1.length ?_
    intro k hk ih x hx f sz sl ut ol xs rf sd us os C N hA2 hu hC
    subst hx
    have hwl : (mkS S (svy S) k).2.2.2.2.1.length = S.2.2.2.2.1.length := by rw [mkS_wl] <;> rfl
    have hkd := (mkS_kd (S := S) (v := svy S) k (by omega) (by omega)).2 k
    rw [if_neg (fun z => absurd z.1 (Nat.lt_irrefl k))] at hkd
    refine v_iload_n K dX8_markCollisions_8 rfl ?_
    refine v_aload_n K dX8_markCollisions_9 rfl ?_
    refine v_get K 0 rfl hasF_c rfl iX8 0 (by decide) rfl (by decide +kernel) rfl dX8_markCollisions_10 ?_
    refine v_iconst K (1) dX8_markCollisions_13 (by decide) ?_
    refine v_fald K 1 rfl (1) ?hx14_1 ?ix14_1 dX8_markCollisions_14 ?_
    case hx14_1 => exact rfl
    case ix14_1 => exact ⟨by decide, by decide⟩
    rw [hA2.2.2.1, hwl]
    refine v_ic_ge K 62 dX8_markCollisions_15 (by decide) (fun c15 => ?_) (fun c15 => ?_)
    · refine v_iload_n K dX8_markCollisions_62 rfl ?_
      refine v_if_ne K 71 dX8_markCollisions_63 (by decide) (fun c63 => ?_) (fun c63 => ?_)
      · refine v_aload_n K dX8_markCollisions_71 rfl ?_
        refine v_iload_n K dX8_markCollisions_72 rfl ?_
        refine v_callV K [0, 9, 10] (c_X8_acted (XI X) (XB X) _ _ _ _ _ _ _ _ _ _ _ _ _ S _ _ _ ?hc73_0_2 ?hc73_1_2) rfl gX8_markCollisions_X8_acted rfl rfl hd_X8_acted ⟨rfl, rfl⟩ ⟨by decide, by decide⟩ 0 rfl hasF_c rfl (by decide) (Nat.le_of_ble_eq_true rfl) ⟨Nat.zero_le _, Nat.zero_le _⟩ rfl dX8_markCollisions_73 ?_
        case hc73_0_2 => exact hH
        case hc73_1_2 => exact allR_cp hA
        try dsimp only [Nat.reduceAdd, nf_rep1, nf_rep0, nf_d0, nf_t0, nf_s0, nf_ac, nf_an, nf_d1, nf_t1, nf_s1, nf_d2, nf_t2, nf_s2, nf_d3, nf_t3, nf_s3, nf_d4, nf_t4, nf_s4, nf_d5, nf_t5, nf_s5, nf_d6, nf_t6, nf_s6, nf_d7, nf_t7, nf_s7, nf_d8, nf_t8, nf_s8, nf_d9, nf_t9, nf_s9, nf_d10, nf_t10, nf_s10, nf_d11, nf_t11, nf_s11, nf_d12, nf_t12, nf_s12, nf_d13, nf_t13, nf_s13, nf_d14, nf_t14, nf_s14, nf_d15, nf_t15, nf_s15, nf_d16, nf_t16, nf_s16, nf_d17, nf_t17, nf_s17, nf_d18, nf_t18, nf_s18, nf_d19, nf_t19, nf_s19, nf_d20, nf_t20, nf_s20]
        intro ov Mc1 hpo _
        obtain ⟨rfl, h2, hH2, rfl⟩ := hpo
        refine v_iret K E dX8_markCollisions_76 ?_ rfl
        have he := up_end rfl (by omega) hk c15
        subst he
        exact ⟨by unfold mkT; rw [if_neg c63], _, _, h2, _, _, _, _, _, _, _, _, _, _, _, by unfold mkT; rw [if_neg c63]; exact hA2, by unfold mkT; rw [if_neg c63]; exact hH2, hu, hC, by unfold mkT; rw [if_neg c63] <;> rfl⟩
      · refine v_bipush K (-5) dX8_markCollisions_66 (by decide) ?_
        refine v_goto K 76 dX8_markCollisions_68 (by decide) ?_
        refine v_iret K E dX8_markCollisions_76 ?_ rfl
        have he := up_end rfl (by omega) hk c15
        subst he
        have h0 := nI_z (by have := cntR_le (tbm S (svy S)) S.2.2.2.2.1.length; omega) c63
        exact ⟨by unfold mkT; rw [if_pos c63], _, _, _, _, _, _, _, _, _, _, _, _, _, _, by unfold mkT; rw [if_pos c63]; rw [mkS_id _ (by omega) (by omega) h0] at hA2; exact hA2, by unfold mkT; rw [if_pos c63]; exact hH, hu, hC, by unfold mkT; rw [if_pos c63] <;> rfl⟩
    · have hlt := up_lt rfl (by omega) hk c15
      refine v_aload_n K dX8_markCollisions_18 rfl ?_
      refine v_callV K [0, 1, 2, 3, 4, 5, 6, 7, 8] (c_X8_spells (XI X) (XB X) _ _ _ _ _ _ _ _ _ _ _ _ _ (mkS S (svy S) k) _ _ _ _ _ _ _ _ ?hc19_0_3 ?hc19_1_3 ?hc19_2_3) rfl gX8_markCollisions_X8_spells rfl rfl hd_X8_spells ⟨rfl, rfl⟩ ⟨by decide, by decide⟩ 0 rfl hasF_c rfl (by decide) (Nat.le_of_ble_eq_true rfl) ⟨Nat.zero_le _, Nat.zero_le _⟩ rfl dX8_markCollisions_19 ?_
      case hc19_0_3 => exact hA2
      case hc19_1_3 => exact hu
      case hc19_2_3 => exact hC
      try dsimp only [Nat.reduceAdd, nf_rep1, nf_rep0, nf_d0, nf_t0, nf_s0, nf_ac, nf_an, nf_d1, nf_t1, nf_s1, nf_d2, nf_t2, nf_s2, nf_d3, nf_t3, nf_s3, nf_d4, nf_t4, nf_s4, nf_d5, nf_t5, nf_s5, nf_d6, nf_t6, nf_s6, nf_d7, nf_t7, nf_s7, nf_d8, nf_t8, nf_s8, nf_d9, nf_t9, nf_s9, nf_d10, nf_t10, nf_s10, nf_d11, nf_t11, nf_s11, nf_d12, nf_t12, nf_s12, nf_d13, nf_t13, nf_s13, nf_d14, nf_t14, nf_s14, nf_d15, nf_t15, nf_s15, nf_d16, nf_t16, nf_s16, nf_d17, nf_t17, nf_s17, nf_d18, nf_t18, nf_s18, nf_d19, nf_t19, nf_s19, nf_d20, nf_t20, nf_s20]
      intro ov Mc1 hpo _
      obtain ⟨rfl, sz, sl, ut, ol, xs, rf, sd, us, os, C, hu, hC, rfl⟩ := hpo
      refine v_aload_n K dX8_markCollisions_22 rfl ?_
      refine v_get K 0 rfl hasF_c rfl iX8 0 (by decide) rfl (by decide +kernel) rfl dX8_markCollisions_23 ?_
      refine v_iload_n K dX8_markCollisions_26 rfl ?_
      refine v_callSi K [] (c_X8_wordAt (XI X) (XB X) _ ) rfl gX8_markCollisions_X8_wordAt rfl rfl hd_X8_wordAt ⟨rfl, rfl⟩ ⟨by decide, by decide⟩ (by decide) (Nat.le_of_ble_eq_true rfl) ⟨Nat.zero_le _, Nat.zero_le _⟩ rfl dX8_markCollisions_27 ?_
      try dsimp only [Nat.reduceAdd, nf_rep1, nf_rep0, nf_d0, nf_t0, nf_s0, nf_ac, nf_an, nf_d1, nf_t1, nf_s1, nf_d2, nf_t2, nf_s2, nf_d3, nf_t3, nf_s3, nf_d4, nf_t4, nf_s4, nf_d5, nf_t5, nf_s5, nf_d6, nf_t6, nf_s6, nf_d7, nf_t7, nf_s7, nf_d8, nf_t8, nf_s8, nf_d9, nf_t9, nf_s9, nf_d10, nf_t10, nf_s10, nf_d11, nf_t11, nf_s11, nf_d12, nf_t12, nf_s12, nf_d13, nf_t13, nf_s13, nf_d14, nf_t14, nf_s14, nf_d15, nf_t15, nf_s15, nf_d16, nf_t16, nf_s16, nf_d17, nf_t17, nf_s17, nf_d18, nf_t18, nf_s18, nf_d19, nf_t19, nf_s19, nf_d20, nf_t20, nf_s20]
      refine v_fald K 1 rfl (290 + 14 * k) ?hx30_5 ?ix30_5 dX8_markCollisions_30 ?_
      case hx30_5 => exact rfl
      case ix30_5 => exact ⟨by omega, by decide⟩
      rw [(hA2.2.2.2.2.2 k (by omega)).1, hkd]
      refine v_if_ne K 56 dX8_markCollisions_31 (by decide) (fun c31 => ?_) (fun c31 => ?_)
      · refine v_iinc K dX8_markCollisions_56 rfl (by decide) iinc_1 ?_
        refine v_goto K 8 dX8_markCollisions_59 (by decide) ?_
        have ht : tbm S (svy S) k = false := tbm_k c31
        exact v_j (ih hlt _ (nI_1 k) _ _ _ _ _ _ _ _ _ _ _ _ (by rw [mkS_f (by rw [tbm_mk (by omega) (by omega)]; exact ht)]; exact hA2) hu hC.2.1) (by rw [cntR_f ht] <;> rfl) rfl rfl
      · refine v_aload_n K dX8_markCollisions_34 rfl ?_
        refine v_iload_n K dX8_markCollisions_35 rfl ?_
        refine v_iconst K (1) dX8_markCollisions_36 (by decide) ?_
        refine v_callVi K [0, 1, 7, 8] (c_X8_withSpelling (XI X) (XB X) _ _ _ _ _ _ _ _ _ _ _ _ _ (mkS S (svy S) k) _ _ _ _ true ?hc37_0_6 ?hc37_1_6 ?hc37_2_6 ?hc37_3_6) rfl gX8_markCollisions_X8_withSpelling rfl rfl hd_X8_withSpelling ⟨rfl, rfl⟩ ⟨by decide, by decide⟩ 0 rfl hasF_c rfl (by decide) (Nat.le_of_ble_eq_true rfl) ⟨Nat.zero_le _, Nat.zero_le _⟩ rfl dX8_markCollisions_37 ?_
        case hc37_0_6 => exact hA2
        case hc37_1_6 => exact hC
        case hc37_2_6 => rw [spL_len, hwl]; exact hlt
        case hc37_3_6 => exact spL_len
        try dsimp only [Nat.reduceAdd, nf_rep1, nf_rep0, nf_d0, nf_t0, nf_s0, nf_ac, nf_an, nf_d1, nf_t1, nf_s1, nf_d2, nf_t2, nf_s2, nf_d3, nf_t3, nf_s3, nf_d4, nf_t4, nf_s4, nf_d5, nf_t5, nf_s5, nf_d6, nf_t6, nf_s6, nf_d7, nf_t7, nf_s7, nf_d8, nf_t8, nf_s8, nf_d9, nf_t9, nf_s9, nf_d10, nf_t10, nf_s10, nf_d11, nf_t11, nf_s11, nf_d12, nf_t12, nf_s12, nf_d13, nf_t13, nf_s13, nf_d14, nf_t14, nf_s14, nf_d15, nf_t15, nf_s15, nf_d16, nf_t16, nf_s16, nf_d17, nf_t17, nf_s17, nf_d18, nf_t18, nf_s18, nf_d19, nf_t19, nf_s19, nf_d20, nf_t20, nf_s20]
        rw [if_pos rfl]
        have hcl := cntR_le (sameP (spL (mkS S (svy S) k)) k) k
        refine v_if_le K 56 dX8_markCollisions_40 (by decide) (fun c40 => ?_) (fun c40 => ?_)
        · refine v_iinc K dX8_markCollisions_56 rfl (by decide) iinc_1 ?_
          refine v_goto K 8 dX8_markCollisions_59 (by decide) ?_
          have ht : tbm S (svy S) k = false := tbm_n hw hlt c31 (by rw [show (0 : Int32) = nI 0 from rfl, nI_leI (by omega) (by decide)] at c40; omega)
          exact v_j (ih hlt _ (nI_1 k) _ _ _ _ _ _ _ _ _ _ _ _ (by rw [mkS_f (by rw [tbm_mk (by omega) (by omega)]; exact ht)]; exact hA2) hu hC.2.1) (by rw [cntR_f ht] <;> rfl) rfl rfl
        · have ht : tbm S (svy S) k = true := tbm_y hw hlt c31 (fun z => c40 (by rw [z]; decide))
          refine v_aload_n K dX8_markCollisions_43 rfl ?_
          refine v_get K 0 rfl hasF_c rfl iX8 0 (by decide) rfl (by decide +kernel) rfl dX8_markCollisions_44 ?_
          refine v_iload_n K dX8_markCollisions_47 rfl ?_
          refine v_callSi K [] (c_X8_wordAt (XI X) (XB X) _ ) rfl gX8_markCollisions_X8_wordAt rfl rfl hd_X8_wordAt ⟨rfl, rfl⟩ ⟨by decide, by decide⟩ (by decide) (Nat.le_of_ble_eq_true rfl) ⟨Nat.zero_le _, Nat.zero_le _⟩ rfl dX8_markCollisions_48 ?_
          try dsimp only [Nat.reduceAdd, nf_rep1, nf_rep0, nf_d0, nf_t0, nf_s0, nf_ac, nf_an, nf_d1, nf_t1, nf_s1, nf_d2, nf_t2, nf_s2, nf_d3, nf_t3, nf_s3, nf_d4, nf_t4, nf_s4, nf_d5, nf_t5, nf_s5, nf_d6, nf_t6, nf_s6, nf_d7, nf_t7, nf_s7, nf_d8, nf_t8, nf_s8, nf_d9, nf_t9, nf_s9, nf_d10, nf_t10, nf_s10, nf_d11, nf_t11, nf_s11, nf_d12, nf_t12, nf_s12, nf_d13, nf_t13, nf_s13, nf_d14, nf_t14, nf_s14, nf_d15, nf_t15, nf_s15, nf_d16, nf_t16, nf_s16, nf_d17, nf_t17, nf_s17, nf_d18, nf_t18, nf_s18, nf_d19, nf_t19, nf_s19, nf_d20, nf_t20, nf_s20]
          refine v_iconst K (2) dX8_markCollisions_51 (by decide) ?_
          refine v_fast K 1 rfl (290 + 14 * k) ?hx52_8 ?ix52_8 dX8_markCollisions_52 ?_
          case hx52_8 => exact rfl
          case ix52_8 => exact ⟨by omega, by decide⟩
          try dsimp only [Nat.reduceAdd, nf_rep1, nf_rep0, nf_d0, nf_t0, nf_s0, nf_ac, nf_an, nf_d1, nf_t1, nf_s1, nf_d2, nf_t2, nf_s2, nf_d3, nf_t3, nf_s3, nf_d4, nf_t4, nf_s4, nf_d5, nf_t5, nf_s5, nf_d6, nf_t6, nf_s6, nf_d7, nf_t7, nf_s7, nf_d8, nf_t8, nf_s8, nf_d9, nf_t9, nf_s9, nf_d10, nf_t10, nf_s10, nf_d11, nf_t11, nf_s11, nf_d12, nf_t12, nf_s12, nf_d13, nf_t13, nf_s13, nf_d14, nf_t14, nf_s14, nf_d15, nf_t15, nf_s15, nf_d16, nf_t16, nf_s16, nf_d17, nf_t17, nf_s17, nf_d18, nf_t18, nf_s18, nf_d19, nf_t19, nf_s19, nf_d20, nf_t20, nf_s20]
          refine v_iinc K dX8_markCollisions_53 rfl (by decide) iinc_1 ?_
          refine v_iinc K dX8_markCollisions_56 rfl (by decide) iinc_1 ?_
          refine v_goto K 8 dX8_markCollisions_59 (by decide) ?_
          exact v_j (ih hlt _ (nI_1 k) _ _ _ _ _ _ _ _ _ _ _ _ (by rw [mkS_t (by rw [tbm_mk (by omega) (by omega)]; exact ht)]; exact allR_kind hA2 (by omega) (by decide)) hu hC.2.1) (by rw [c_t ht] <;> rfl) rfl rfl
  refine v_aload_n K dX8_markCollisions_0 rfl ?_
  refine v_callVv K [0, 1, 9] (c_X8_remember (XI X) (XB X) _ _ _ _ _ _ _ _ _ _ _ _ _ _ _ ) rfl gX8_markCollisions_X8_remember rfl rfl hd_X8_remember ⟨rfl, rfl⟩ ⟨by decide, by decide⟩ 0 rfl hasF_c rfl (by decide) (Nat.le_of_ble_eq_true rfl) ⟨Nat.zero_le _, Nat.zero_le _⟩ rfl dX8_markCollisions_1 ?_
  try dsimp only [Nat.reduceAdd, nf_rep1, nf_rep0, nf_d0, nf_t0, nf_s0, nf_ac, nf_an, nf_d1, nf_t1, nf_s1, nf_d2, nf_t2, nf_s2, nf_d3, nf_t3, nf_s3, nf_d4, nf_t4, nf_s4, nf_d5, nf_t5, nf_s5, nf_d6, nf_t6, nf_s6, nf_d7, nf_t7, nf_s7, nf_d8, nf_t8, nf_s8, nf_d9, nf_t9, nf_s9, nf_d10, nf_t10, nf_s10, nf_d11, nf_t11, nf_s11, nf_d12, nf_t12, nf_s12, nf_d13, nf_t13, nf_s13, nf_d14, nf_t14, nf_s14, nf_d15, nf_t15, nf_s15, nf_d16, nf_t16, nf_s16, nf_d17, nf_t17, nf_s17, nf_d18, nf_t18, nf_s18, nf_d19, nf_t19, nf_s19, nf_d20, nf_t20, nf_s20]
  refine v_iconst K (0) dX8_markCollisions_4 (by decide) ?_
  refine v_istore_n K dX8_markCollisions_5 (by decide) ?_
  refine v_iconst K (0) dX8_markCollisions_6 (by decide) ?_
  refine v_istore_n K dX8_markCollisions_7 (by decide) ?_
  exact v_j (lp 0 (Nat.zero_le _) 0 rfl _ _ _ _ _ _ _ _ _ _ _ _ hA hu hC) rfl rfl rfl

theorem hd_X8_moveRule : yX8_moveRule.cls = RX8 ∧ yX8_moveRule.cls ≠ "java/lang/invoke/MethodHandle" ∧ yX8_moveRule.cls ≠ "java/lang/invoke/VarHandle" ∧ (parseMethodDescriptor yX8_moveRule.desc).map (fun d => d.parameters.length) = some 2 := by decide +kernel
set_option maxHeartbeats 4000000 in
set_option maxRecDepth 100000 in
theorem c_X8_moveRule (cI cB : ClassId) (m : Nat → Nat) (it sz sl ut ol tl sp tw tm mm rl : Int32) (S : Bk) (hs : List Bk) (f g h : Nat → Int32) (xs rf sd us os C N Hd HN : List Int32) (i j : Int32) (hA : allR S f) (hH : histR hs h) (hu : us.length = 30) (hC : C.length = 520) : Ct cI cB yX8_moveRule wsX8_moveRule { frames := 7, cells := 0, slots := 0, locals := 163 } [.ref (m 0), .int i, .int j] [moM m (nI hs.length) it sz sl ut ol tl sp tw tm mm rl, arF cI (m 1) 570 f, arL cI (m 5) 12 xs, arL cI (m 6) 12 rf, arL cI (m 7) 12 sd, arL cI (m 8) 30 us, arL cI (m 9) 26 os, arL cI (m 10) 520 C, arL cI (m 11) 20 N, arF cI (m 2) 570 g, arF cI (m 3) 2280 h, arL cI (m 14) 520 Hd, arL cI (m 15) 20 HN] (fun ov M => ov = some (.int (mvT S hs i j).1) ∧ ∃ (f g h : Nat → Int32) (sz sl ut ol : Int32) (xs rf sd us os C N : List Int32) (Hd HN : List Int32), allR (mvT S hs i j).2.1 f ∧ histR (mvT S hs i j).2.2 h ∧ us.length = 30 ∧ C.length = 520 ∧ M = [moM m (nI (mvT S hs i j).2.2.length) it sz sl ut ol tl sp tw tm mm rl, arF cI (m 1) 570 f, arL cI (m 5) 12 xs, arL cI (m 6) 12 rf, arL cI (m 7) 12 sd, arL cI (m 8) 30 us, arL cI (m 9) 26 os, arL cI (m 10) 520 C, arL cI (m 11) 20 N, arF cI (m 2) 570 g, arF cI (m 3) 2280 h, arL cI (m 14) 520 Hd, arL cI (m 15) 20 HN]) := by
  refine ct_of (cc := cX8_moveRule) (maxL := 4) (ret := (some .int)) (by decide) rfl (Nat.le_of_ble_eq_true rfl) [(0, .ref (m 0)), (1, .int i), (2, .int j)] rfl ?_
  intro X hI hB K E
  subst hI
  subst hB
  have iX8 : ∀ w ∈ u_ws RX8 TX8 28, w ∈ wsX8_moveRule := by decide +kernel
  have hw := hA.1
  have h30 := hw.1
  have h20 := hw.2.2.2.2.1
  refine v_aload_n K dX8_moveRule_0 rfl ?_
  refine v_iload_n K dX8_moveRule_1 rfl ?_
  refine v_callVi K [0, 1] (c_X8_isRule (XI X) (XB X) _ _ _ _ _ _ _ _ _ _ _ _ _ S _ _ ?hc2_0_1) rfl gX8_moveRule_X8_isRule rfl rfl hd_X8_isRule ⟨rfl, rfl⟩ ⟨by decide, by decide⟩ 0 rfl hasF_c rfl (by decide) (Nat.le_of_ble_eq_true rfl) ⟨Nat.zero_le _, Nat.zero_le _⟩ rfl dX8_moveRule_2 ?_
  case hc2_0_1 => exact hA
  try dsimp only [Nat.reduceAdd, nf_rep1, nf_rep0, nf_d0, nf_t0, nf_s0, nf_ac, nf_an, nf_d1, nf_t1, nf_s1, nf_d2, nf_t2, nf_s2, nf_d3, nf_t3, nf_s3, nf_d4, nf_t4, nf_s4, nf_d5, nf_t5, nf_s5, nf_d6, nf_t6, nf_s6, nf_d7, nf_t7, nf_s7, nf_d8, nf_t8, nf_s8, nf_d9, nf_t9, nf_s9, nf_d10, nf_t10, nf_s10, nf_d11, nf_t11, nf_s11, nf_d12, nf_t12, nf_s12, nf_d13, nf_t13, nf_s13, nf_d14, nf_t14, nf_s14, nf_d15, nf_t15, nf_s15, nf_d16, nf_t16, nf_s16, nf_d17, nf_t17, nf_s17, nf_d18, nf_t18, nf_s18, nf_d19, nf_t19, nf_s19, nf_d20, nf_t20, nf_s20]
  refine v_if_ne K 10 dX8_moveRule_5 (by decide) (fun c5 => ?_) (fun c5 => ?_)
  · have hbi := bI_1 c5
    refine v_aload_n K dX8_moveRule_10 rfl ?_
    refine v_iload_n K dX8_moveRule_11 rfl ?_
    refine v_callVi K [0, 1] (c_X8_isRule (XI X) (XB X) _ _ _ _ _ _ _ _ _ _ _ _ _ S _ _ ?hc12_0_2) rfl gX8_moveRule_X8_isRule rfl rfl hd_X8_isRule ⟨rfl, rfl⟩ ⟨by decide, by decide⟩ 0 rfl hasF_c rfl (by decide) (Nat.le_of_ble_eq_true rfl) ⟨Nat.zero_le _, Nat.zero_le _⟩ rfl dX8_moveRule_12 ?_
    case hc12_0_2 => exact hA
    try dsimp only [Nat.reduceAdd, nf_rep1, nf_rep0, nf_d0, nf_t0, nf_s0, nf_ac, nf_an, nf_d1, nf_t1, nf_s1, nf_d2, nf_t2, nf_s2, nf_d3, nf_t3, nf_s3, nf_d4, nf_t4, nf_s4, nf_d5, nf_t5, nf_s5, nf_d6, nf_t6, nf_s6, nf_d7, nf_t7, nf_s7, nf_d8, nf_t8, nf_s8, nf_d9, nf_t9, nf_s9, nf_d10, nf_t10, nf_s10, nf_d11, nf_t11, nf_s11, nf_d12, nf_t12, nf_s12, nf_d13, nf_t13, nf_s13, nf_d14, nf_t14, nf_s14, nf_d15, nf_t15, nf_s15, nf_d16, nf_t16, nf_s16, nf_d17, nf_t17, nf_s17, nf_d18, nf_t18, nf_s18, nf_d19, nf_t19, nf_s19, nf_d20, nf_t20, nf_s20]
    refine v_if_ne K 21 dX8_moveRule_15 (by decide) (fun c15 => ?_) (fun c15 => ?_)
    · have hbj := bI_1 c15
      refine v_iload_n K dX8_moveRule_21 rfl ?_
      refine v_iload_n K dX8_moveRule_22 rfl ?_
      refine v_ic_ne K 29 dX8_moveRule_23 (by decide) (fun c23 => ?_) (fun c23 => ?_)
      · obtain ⟨I, hI, rfl⟩ := hasL_of (L := S.1) (by omega) hbi
        obtain ⟨J, hJ, rfl⟩ := hasL_of (L := S.1) (by omega) hbj
        refine v_aload_n K dX8_moveRule_29 rfl ?_
        refine v_callVv K [0, 1, 9] (c_X8_remember (XI X) (XB X) _ _ _ _ _ _ _ _ _ _ _ _ _ _ _ ) rfl gX8_moveRule_X8_remember rfl rfl hd_X8_remember ⟨rfl, rfl⟩ ⟨by decide, by decide⟩ 0 rfl hasF_c rfl (by decide) (Nat.le_of_ble_eq_true rfl) ⟨Nat.zero_le _, Nat.zero_le _⟩ rfl dX8_moveRule_30 ?_
        try dsimp only [Nat.reduceAdd, nf_rep1, nf_rep0, nf_d0, nf_t0, nf_s0, nf_ac, nf_an, nf_d1, nf_t1, nf_s1, nf_d2, nf_t2, nf_s2, nf_d3, nf_t3, nf_s3, nf_d4, nf_t4, nf_s4, nf_d5, nf_t5, nf_s5, nf_d6, nf_t6, nf_s6, nf_d7, nf_t7, nf_s7, nf_d8, nf_t8, nf_s8, nf_d9, nf_t9, nf_s9, nf_d10, nf_t10, nf_s10, nf_d11, nf_t11, nf_s11, nf_d12, nf_t12, nf_s12, nf_d13, nf_t13, nf_s13, nf_d14, nf_t14, nf_s14, nf_d15, nf_t15, nf_s15, nf_d16, nf_t16, nf_s16, nf_d17, nf_t17, nf_s17, nf_d18, nf_t18, nf_s18, nf_d19, nf_t19, nf_s19, nf_d20, nf_t20, nf_s20]
        refine v_aload_n K dX8_moveRule_33 rfl ?_
        refine v_callV K [0, 1, 2, 3, 4, 5, 6, 7, 8] (c_X8_spells (XI X) (XB X) _ _ _ _ _ _ _ _ _ _ _ _ _ S _ _ _ _ _ _ _ _ ?hc34_0_4 ?hc34_1_4 ?hc34_2_4) rfl gX8_moveRule_X8_spells rfl rfl hd_X8_spells ⟨rfl, rfl⟩ ⟨by decide, by decide⟩ 0 rfl hasF_c rfl (by decide) (Nat.le_of_ble_eq_true rfl) ⟨Nat.zero_le _, Nat.zero_le _⟩ rfl dX8_moveRule_34 ?_
        case hc34_0_4 => exact hA
        case hc34_1_4 => exact hu
        case hc34_2_4 => exact hC
        try dsimp only [Nat.reduceAdd, nf_rep1, nf_rep0, nf_d0, nf_t0, nf_s0, nf_ac, nf_an, nf_d1, nf_t1, nf_s1, nf_d2, nf_t2, nf_s2, nf_d3, nf_t3, nf_s3, nf_d4, nf_t4, nf_s4, nf_d5, nf_t5, nf_s5, nf_d6, nf_t6, nf_s6, nf_d7, nf_t7, nf_s7, nf_d8, nf_t8, nf_s8, nf_d9, nf_t9, nf_s9, nf_d10, nf_t10, nf_s10, nf_d11, nf_t11, nf_s11, nf_d12, nf_t12, nf_s12, nf_d13, nf_t13, nf_s13, nf_d14, nf_t14, nf_s14, nf_d15, nf_t15, nf_s15, nf_d16, nf_t16, nf_s16, nf_d17, nf_t17, nf_s17, nf_d18, nf_t18, nf_s18, nf_d19, nf_t19, nf_s19, nf_d20, nf_t20, nf_s20]
        intro ov Mc1 hpo _
        obtain ⟨rfl, sz, sl, ut, ol, xs, rf, sd, us, os, C, hu, hC, rfl⟩ := hpo
        refine v_iconst K (0) dX8_moveRule_37 (by decide) ?_
        refine v_istore_n K dX8_moveRule_38 (by decide) ?_
        refine v_ltk 11 0 rfl ?_
        rw [List.take_zero]
        try dsimp only [Nat.reduceAdd, nf_rep1, nf_rep0, nf_d0, nf_t0, nf_s0, nf_ac, nf_an, nf_d1, nf_t1, nf_s1, nf_d2, nf_t2, nf_s2, nf_d3, nf_t3, nf_s3, nf_d4, nf_t4, nf_s4, nf_d5, nf_t5, nf_s5, nf_d6, nf_t6, nf_s6, nf_d7, nf_t7, nf_s7, nf_d8, nf_t8, nf_s8, nf_d9, nf_t9, nf_s9, nf_d10, nf_t10, nf_s10, nf_d11, nf_t11, nf_s11, nf_d12, nf_t12, nf_s12, nf_d13, nf_t13, nf_s13, nf_d14, nf_t14, nf_s14, nf_d15, nf_t15, nf_s15, nf_d16, nf_t16, nf_s16, nf_d17, nf_t17, nf_s17, nf_d18, nf_t18, nf_s18, nf_d19, nf_t19, nf_s19, nf_d20, nf_t20, nf_s20]
        refine v_ltk 12 0 rfl ?_
        rw [List.take_zero]
        try dsimp only [Nat.reduceAdd, nf_rep1, nf_rep0, nf_d0, nf_t0, nf_s0, nf_ac, nf_an, nf_d1, nf_t1, nf_s1, nf_d2, nf_t2, nf_s2, nf_d3, nf_t3, nf_s3, nf_d4, nf_t4, nf_s4, nf_d5, nf_t5, nf_s5, nf_d6, nf_t6, nf_s6, nf_d7, nf_t7, nf_s7, nf_d8, nf_t8, nf_s8, nf_d9, nf_t9, nf_s9, nf_d10, nf_t10, nf_s10, nf_d11, nf_t11, nf_s11, nf_d12, nf_t12, nf_s12, nf_d13, nf_t13, nf_s13, nf_d14, nf_t14, nf_s14, nf_d15, nf_t15, nf_s15, nf_d16, nf_t16, nf_s16, nf_d17, nf_t17, nf_s17, nf_d18, nf_t18, nf_s18, nf_d19, nf_t19, nf_s19, nf_d20, nf_t20, nf_s20]
        refine v_oar 8 rfl (fun fl hfl => ?_)
        try dsimp only [Nat.reduceAdd, nf_rep1, nf_rep0, nf_d0, nf_t0, nf_s0, nf_ac, nf_an, nf_d1, nf_t1, nf_s1, nf_d2, nf_t2, nf_s2, nf_d3, nf_t3, nf_s3, nf_d4, nf_t4, nf_s4, nf_d5, nf_t5, nf_s5, nf_d6, nf_t6, nf_s6, nf_d7, nf_t7, nf_s7, nf_d8, nf_t8, nf_s8, nf_d9, nf_t9, nf_s9, nf_d10, nf_t10, nf_s10, nf_d11, nf_t11, nf_s11, nf_d12, nf_t12, nf_s12, nf_d13, nf_t13, nf_s13, nf_d14, nf_t14, nf_s14, nf_d15, nf_t15, nf_s15, nf_d16, nf_t16, nf_s16, nf_d17, nf_t17, nf_s17, nf_d18, nf_t18, nf_s18, nf_d19, nf_t19, nf_s19, nf_d20, nf_t20, nf_s20]
        have q4 : ∀ k, k ≤ 7 → ∀ (x : Int32), x = nI k → V X 0 0 156 [(0, .ref (m 0)), (1, .int (nI I)), (2, .int (nI J)), (3, .int x)] [] [moM m (nI hs.length) it sz sl ut ol tl sp tw tm mm rl, arF (XI X) (m 1) 570 (t4K f (upd (t2K (toK f 0 2 7 I (S.1.length - 1) (7 * (S.1.length - 1))) S.1.length (7 * J)) 0 (nI S.1.length)) I J k), arL (XI X) (m 5) 12 xs, arL (XI X) (m 6) 12 rf, arL (XI X) (m 7) 12 sd, arL (XI X) (m 8) 30 us, arL (XI X) (m 9) 26 os, arL (XI X) (m 10) 520 C, arL (XI X) (m 11) 20 (lens (spL S)), arF (XI X) (m 2) 570 (cpK f g 570), arF (XI X) (m 3) 2280 h, arL (XI X) (m 14) 520 C, arL (XI X) (m 15) 20 (lens (spL S))] := by
          refine loop_up 7 ?_
          intro k hk ih x hx
          subst hx
          refine v_iload_n K dX8_moveRule_156 rfl ?_
          refine v_bipush K (7) dX8_moveRule_157 (by decide) ?_
          refine v_ic_ge K 190 dX8_moveRule_159 (by decide) (fun c159 => ?_) (fun c159 => ?_)
          · have he := up_end (N := 7) rfl (by omega) hk c159
            subst he
            have hA2 := allR_shift hA hI hJ
            refine v_aload_n K dX8_moveRule_190 rfl ?_
            refine v_aload_n K dX8_moveRule_191 rfl ?_
            refine v_callV K [0, 1, 2, 3, 4, 5, 6, 7, 8, 11, 12] (c_X8_changedSpellings (XI X) (XB X) _ _ _ _ _ _ _ _ _ _ _ _ _ (shiftR S I J) _ _ _ _ _ _ _ _ _ (spL S) ?hc192_0_5 ?hc192_1_5 ?hc192_2_5 ?hc192_3_5 ?hc192_4_5) rfl gX8_moveRule_X8_changedSpellings rfl rfl hd_X8_changedSpellings ⟨rfl, rfl⟩ ⟨by decide, by decide⟩ 0 rfl hasF_c rfl (by decide) (Nat.le_of_ble_eq_true rfl) ⟨Nat.zero_le _, Nat.zero_le _⟩ rfl dX8_moveRule_192 ?_
            case hc192_0_5 => exact hA2
            case hc192_1_5 => exact hu
            case hc192_2_5 => exact hC.2.1
            case hc192_3_5 => exact hC
            case hc192_4_5 => exact spL_len
            try dsimp only [Nat.reduceAdd, nf_rep1, nf_rep0, nf_d0, nf_t0, nf_s0, nf_ac, nf_an, nf_d1, nf_t1, nf_s1, nf_d2, nf_t2, nf_s2, nf_d3, nf_t3, nf_s3, nf_d4, nf_t4, nf_s4, nf_d5, nf_t5, nf_s5, nf_d6, nf_t6, nf_s6, nf_d7, nf_t7, nf_s7, nf_d8, nf_t8, nf_s8, nf_d9, nf_t9, nf_s9, nf_d10, nf_t10, nf_s10, nf_d11, nf_t11, nf_s11, nf_d12, nf_t12, nf_s12, nf_d13, nf_t13, nf_s13, nf_d14, nf_t14, nf_s14, nf_d15, nf_t15, nf_s15, nf_d16, nf_t16, nf_s16, nf_d17, nf_t17, nf_s17, nf_d18, nf_t18, nf_s18, nf_d19, nf_t19, nf_s19, nf_d20, nf_t20, nf_s20]
            intro ov Mc1 hpo _
            obtain ⟨rfl, sz, sl, ut, ol, xs, rf, sd, us, os, C2, N2, hu, hC2, rfl⟩ := hpo
            refine v_callV K [0, 9, 10] (c_X8_acted (XI X) (XB X) _ _ _ _ _ _ _ _ _ _ _ _ _ S _ _ _ ?hc195_0_6 ?hc195_1_6) rfl gX8_moveRule_X8_acted rfl rfl hd_X8_acted ⟨rfl, rfl⟩ ⟨by decide, by decide⟩ 0 rfl hasF_c rfl (by decide) (Nat.le_of_ble_eq_true rfl) ⟨Nat.zero_le _, Nat.zero_le _⟩ rfl dX8_moveRule_195 ?_
            case hc195_0_6 => exact hH
            case hc195_1_6 => exact allR_cp hA
            try dsimp only [Nat.reduceAdd, nf_rep1, nf_rep0, nf_d0, nf_t0, nf_s0, nf_ac, nf_an, nf_d1, nf_t1, nf_s1, nf_d2, nf_t2, nf_s2, nf_d3, nf_t3, nf_s3, nf_d4, nf_t4, nf_s4, nf_d5, nf_t5, nf_s5, nf_d6, nf_t6, nf_s6, nf_d7, nf_t7, nf_s7, nf_d8, nf_t8, nf_s8, nf_d9, nf_t9, nf_s9, nf_d10, nf_t10, nf_s10, nf_d11, nf_t11, nf_s11, nf_d12, nf_t12, nf_s12, nf_d13, nf_t13, nf_s13, nf_d14, nf_t14, nf_s14, nf_d15, nf_t15, nf_s15, nf_d16, nf_t16, nf_s16, nf_d17, nf_t17, nf_s17, nf_d18, nf_t18, nf_s18, nf_d19, nf_t19, nf_s19, nf_d20, nf_t20, nf_s20]
            intro ov Mc1 hpo _
            obtain ⟨rfl, h2, hH2, rfl⟩ := hpo
            refine v_iret K E dX8_moveRule_198 ?_ rfl
            have e := mvT_y (hs := hs) hw hA2.1 (by omega) (by omega) hbi hbj c23
            exact ⟨by rw [e] <;> rfl, _, _, h2, _, _, _, _, _, _, _, _, _, _, _, _, _, by rw [e]; exact hA2, by rw [e]; exact hH2, hu, hC2, by rw [e] <;> rfl⟩
          · have hlt := up_lt (N := 7) rfl (by omega) hk c159
            refine v_aload_n K dX8_moveRule_162 rfl ?_
            refine v_get K 0 rfl hasF_c rfl iX8 0 (by decide) rfl (by decide +kernel) rfl dX8_moveRule_163 ?_
            refine v_iload_n K dX8_moveRule_166 rfl ?_
            refine v_callSi K [] (c_X8_ruleAt (XI X) (XB X) _ ) rfl gX8_moveRule_X8_ruleAt rfl rfl hd_X8_ruleAt ⟨rfl, rfl⟩ ⟨by decide, by decide⟩ (by decide) (Nat.le_of_ble_eq_true rfl) ⟨Nat.zero_le _, Nat.zero_le _⟩ rfl dX8_moveRule_167 ?_
            try dsimp only [Nat.reduceAdd, nf_rep1, nf_rep0, nf_d0, nf_t0, nf_s0, nf_ac, nf_an, nf_d1, nf_t1, nf_s1, nf_d2, nf_t2, nf_s2, nf_d3, nf_t3, nf_s3, nf_d4, nf_t4, nf_s4, nf_d5, nf_t5, nf_s5, nf_d6, nf_t6, nf_s6, nf_d7, nf_t7, nf_s7, nf_d8, nf_t8, nf_s8, nf_d9, nf_t9, nf_s9, nf_d10, nf_t10, nf_s10, nf_d11, nf_t11, nf_s11, nf_d12, nf_t12, nf_s12, nf_d13, nf_t13, nf_s13, nf_d14, nf_t14, nf_s14, nf_d15, nf_t15, nf_s15, nf_d16, nf_t16, nf_s16, nf_d17, nf_t17, nf_s17, nf_d18, nf_t18, nf_s18, nf_d19, nf_t19, nf_s19, nf_d20, nf_t20, nf_s20]
            refine v_iload_n K dX8_moveRule_170 rfl ?_
            refine v_iadd K dX8_moveRule_171 ?_
            refine v_aload_n K dX8_moveRule_172 rfl ?_
            refine v_get K 0 rfl hasF_c rfl iX8 1 (by decide) rfl (by decide +kernel) rfl dX8_moveRule_173 ?_
            refine v_iload_n K dX8_moveRule_176 rfl ?_
            refine v_callSi K [] (c_X8_ruleAt (XI X) (XB X) _ ) rfl gX8_moveRule_X8_ruleAt rfl rfl hd_X8_ruleAt ⟨rfl, rfl⟩ ⟨by decide, by decide⟩ (by decide) (Nat.le_of_ble_eq_true rfl) ⟨Nat.zero_le _, Nat.zero_le _⟩ rfl dX8_moveRule_177 ?_
            try dsimp only [Nat.reduceAdd, nf_rep1, nf_rep0, nf_d0, nf_t0, nf_s0, nf_ac, nf_an, nf_d1, nf_t1, nf_s1, nf_d2, nf_t2, nf_s2, nf_d3, nf_t3, nf_s3, nf_d4, nf_t4, nf_s4, nf_d5, nf_t5, nf_s5, nf_d6, nf_t6, nf_s6, nf_d7, nf_t7, nf_s7, nf_d8, nf_t8, nf_s8, nf_d9, nf_t9, nf_s9, nf_d10, nf_t10, nf_s10, nf_d11, nf_t11, nf_s11, nf_d12, nf_t12, nf_s12, nf_d13, nf_t13, nf_s13, nf_d14, nf_t14, nf_s14, nf_d15, nf_t15, nf_s15, nf_d16, nf_t16, nf_s16, nf_d17, nf_t17, nf_s17, nf_d18, nf_t18, nf_s18, nf_d19, nf_t19, nf_s19, nf_d20, nf_t20, nf_s20]
            refine v_iload_n K dX8_moveRule_180 rfl ?_
            refine v_iadd K dX8_moveRule_181 ?_
            refine v_fald K 9 rfl (2 + 7 * I + k) ?hx182_9 ?ix182_9 dX8_moveRule_182 ?_
            case hx182_9 => exact nI_add _ _
            case ix182_9 => exact ⟨by omega, by decide⟩
            rw [cpK_in (by omega)]
            refine v_fast K 1 rfl (2 + 7 * J + k) ?hx183_10 ?ix183_10 dX8_moveRule_183 ?_
            case hx183_10 => exact nI_add _ _
            case ix183_10 => exact ⟨by omega, by decide⟩
            try dsimp only [Nat.reduceAdd, nf_rep1, nf_rep0, nf_d0, nf_t0, nf_s0, nf_ac, nf_an, nf_d1, nf_t1, nf_s1, nf_d2, nf_t2, nf_s2, nf_d3, nf_t3, nf_s3, nf_d4, nf_t4, nf_s4, nf_d5, nf_t5, nf_s5, nf_d6, nf_t6, nf_s6, nf_d7, nf_t7, nf_s7, nf_d8, nf_t8, nf_s8, nf_d9, nf_t9, nf_s9, nf_d10, nf_t10, nf_s10, nf_d11, nf_t11, nf_s11, nf_d12, nf_t12, nf_s12, nf_d13, nf_t13, nf_s13, nf_d14, nf_t14, nf_s14, nf_d15, nf_t15, nf_s15, nf_d16, nf_t16, nf_s16, nf_d17, nf_t17, nf_s17, nf_d18, nf_t18, nf_s18, nf_d19, nf_t19, nf_s19, nf_d20, nf_t20, nf_s20]
            refine v_iinc K dX8_moveRule_184 rfl (by decide) iinc_1 ?_
            refine v_goto K 156 dX8_moveRule_187 (by decide) ?_
            exact v_j (ih hlt _ (nI_1 k)) rfl rfl (by rw [t4K_s] <;> rfl)
        have q3 : ∀ Q, Q ≤ 7 * (S.1.length - 1) → 7 * J ≤ Q → ∀ (x : Int32), x = nI Q - 1 → V X 0 0 111 [(0, .ref (m 0)), (1, .int (nI I)), (2, .int (nI J)), (3, .int x)] [] [moM m (nI hs.length) it sz sl ut ol tl sp tw tm mm rl, arF (XI X) (m 1) 570 (t2K (toK f 0 2 7 I (S.1.length - 1) (7 * (S.1.length - 1))) S.1.length Q), arL (XI X) (m 5) 12 xs, arL (XI X) (m 6) 12 rf, arL (XI X) (m 7) 12 sd, arL (XI X) (m 8) 30 us, arL (XI X) (m 9) 26 os, arL (XI X) (m 10) 520 C, arL (XI X) (m 11) 20 (lens (spL S)), arF (XI X) (m 2) 570 (cpK f g 570), arF (XI X) (m 3) 2280 h, arL (XI X) (m 14) 520 C, arL (XI X) (m 15) 20 (lens (spL S))] := by
          refine loop_dn (7 * (S.1.length - 1)) ?_
          intro Q hQ ih hJK x hx
          subst hx
          refine v_iload_n K dX8_moveRule_111 rfl ?_
          refine v_bipush K (7) dX8_moveRule_112 (by decide) ?_
          refine v_iload_n K dX8_moveRule_114 rfl ?_
          refine v_imul K dX8_moveRule_115 ?_
          rw [show (7 : Int32) * nI J = nI (7 * J) from pk_mul 7 J]
          refine v_ic_lt K 144 dX8_moveRule_116 (by decide) (fun c116 => ?_) (fun c116 => ?_)
          · have hQJ : Q = 7 * J := by
              refine Nat.le_antisymm (Nat.not_lt.mp (fun z => ?_)) hJK
              obtain ⟨Q1, hQ1⟩ : ∃ Q1, Q = Q1 + 1 := ⟨Q - 1, by omega⟩
              subst hQ1
              rw [show nI (Q1 + 1) - 1 = nI Q1 from dn_1 Q1, nI_ltI (by omega) (by omega)] at c116
              omega
            subst hQJ
            refine v_aload_n K dX8_moveRule_144 rfl ?_
            refine v_get K 0 rfl hasF_c rfl iX8 0 (by decide) rfl (by decide +kernel) rfl dX8_moveRule_145 ?_
            refine v_iconst K (0) dX8_moveRule_148 (by decide) ?_
            refine v_dup2 K dX8_moveRule_149 rfl rfl ?_
            refine v_fald K 1 rfl (0) ?hx150_11 ?ix150_11 dX8_moveRule_150 ?_
            case hx150_11 => exact rfl
            case ix150_11 => exact ⟨by decide, by decide⟩
            refine v_iconst K (1) dX8_moveRule_151 (by decide) ?_
            refine v_iadd K dX8_moveRule_152 ?_
            rw [show t2K (toK f 0 2 7 I (S.1.length - 1) (7 * (S.1.length - 1))) S.1.length (7 * J) 0 = nI (S.1.length - 1) by unfold t2K; rw [if_neg (by omega)]; exact toK_c]
            rw [nI_1, show S.1.length - 1 + 1 = S.1.length by omega]
            refine v_fast K 1 rfl (0) ?hx153_12 ?ix153_12 dX8_moveRule_153 ?_
            case hx153_12 => exact rfl
            case ix153_12 => exact ⟨by decide, by decide⟩
            try dsimp only [Nat.reduceAdd, nf_rep1, nf_rep0, nf_d0, nf_t0, nf_s0, nf_ac, nf_an, nf_d1, nf_t1, nf_s1, nf_d2, nf_t2, nf_s2, nf_d3, nf_t3, nf_s3, nf_d4, nf_t4, nf_s4, nf_d5, nf_t5, nf_s5, nf_d6, nf_t6, nf_s6, nf_d7, nf_t7, nf_s7, nf_d8, nf_t8, nf_s8, nf_d9, nf_t9, nf_s9, nf_d10, nf_t10, nf_s10, nf_d11, nf_t11, nf_s11, nf_d12, nf_t12, nf_s12, nf_d13, nf_t13, nf_s13, nf_d14, nf_t14, nf_s14, nf_d15, nf_t15, nf_s15, nf_d16, nf_t16, nf_s16, nf_d17, nf_t17, nf_s17, nf_d18, nf_t18, nf_s18, nf_d19, nf_t19, nf_s19, nf_d20, nf_t20, nf_s20]
            refine v_iconst K (0) dX8_moveRule_154 (by decide) ?_
            refine v_istore_n K dX8_moveRule_155 (by decide) ?_
            exact v_j (q4 0 (Nat.zero_le _) 0 rfl) rfl rfl (by rw [t4K_0] <;> rfl)
          · have hQJ : 7 * J < Q := by
              refine Nat.lt_of_le_of_ne hJK (fun z => c116 ?_)
              subst z
              exact m1_lt (by omega)
            obtain ⟨Q1, hQ1⟩ : ∃ Q1, Q = Q1 + 1 := ⟨Q - 1, by omega⟩
            subst hQ1
            rw [show nI (Q1 + 1) - 1 = nI Q1 from dn_1 Q1]
            refine v_aload_n K dX8_moveRule_119 rfl ?_
            refine v_get K 0 rfl hasF_c rfl iX8 0 (by decide) rfl (by decide +kernel) rfl dX8_moveRule_120 ?_
            refine v_iconst K (2) dX8_moveRule_123 (by decide) ?_
            refine v_iload_n K dX8_moveRule_124 rfl ?_
            refine v_iadd K dX8_moveRule_125 ?_
            refine v_bipush K (7) dX8_moveRule_126 (by decide) ?_
            refine v_iadd K dX8_moveRule_128 ?_
            refine v_aload_n K dX8_moveRule_129 rfl ?_
            refine v_get K 0 rfl hasF_c rfl iX8 0 (by decide) rfl (by decide +kernel) rfl dX8_moveRule_130 ?_
            refine v_iconst K (2) dX8_moveRule_133 (by decide) ?_
            refine v_iload_n K dX8_moveRule_134 rfl ?_
            refine v_iadd K dX8_moveRule_135 ?_
            refine v_fald K 1 rfl (2 + Q1) ?hx136_13 ?ix136_13 dX8_moveRule_136 ?_
            case hx136_13 => exact nI_add 2 _
            case ix136_13 => exact ⟨by omega, by decide⟩
            refine v_fast K 1 rfl (2 + Q1 + 7) ?hx137_14 ?ix137_14 dX8_moveRule_137 ?_
            case hx137_14 => rw [show (2 : Int32) + nI Q1 = nI (2 + Q1) from nI_add 2 _]; exact nI_add _ 7
            case ix137_14 => exact ⟨by omega, by decide⟩
            try dsimp only [Nat.reduceAdd, nf_rep1, nf_rep0, nf_d0, nf_t0, nf_s0, nf_ac, nf_an, nf_d1, nf_t1, nf_s1, nf_d2, nf_t2, nf_s2, nf_d3, nf_t3, nf_s3, nf_d4, nf_t4, nf_s4, nf_d5, nf_t5, nf_s5, nf_d6, nf_t6, nf_s6, nf_d7, nf_t7, nf_s7, nf_d8, nf_t8, nf_s8, nf_d9, nf_t9, nf_s9, nf_d10, nf_t10, nf_s10, nf_d11, nf_t11, nf_s11, nf_d12, nf_t12, nf_s12, nf_d13, nf_t13, nf_s13, nf_d14, nf_t14, nf_s14, nf_d15, nf_t15, nf_s15, nf_d16, nf_t16, nf_s16, nf_d17, nf_t17, nf_s17, nf_d18, nf_t18, nf_s18, nf_d19, nf_t19, nf_s19, nf_d20, nf_t20, nf_s20]
            refine v_iinc K dX8_moveRule_138 rfl (by decide) iinc_m1 ?_
            refine v_goto K 111 dX8_moveRule_141 (by decide) ?_
            exact v_j (ih Q1 rfl (by omega) _ rfl) rfl rfl (by rw [t2K_s (by omega)] <;> rfl)
        have q2 : ∀ k, k ≤ 20 → ∀ (x : Int32), x = nI k → V X 0 0 66 [(0, .ref (m 0)), (1, .int (nI I)), (2, .int (nI J)), (3, .int x)] [] [moM m (nI hs.length) it sz sl ut ol tl sp tw tm mm rl, arF (XI X) (m 1) 570 f, arL (XI X) (m 5) 12 xs, arL (XI X) (m 6) 12 rf, arL (XI X) (m 7) 12 sd, arL (XI X) (m 8) 30 us, arL (XI X) (m 9) 26 os, arL (XI X) (m 10) 520 C, arF (XI X) (m 11) 20 fl, arF (XI X) (m 2) 570 (cpK f g 570), arF (XI X) (m 3) 2280 h, arL (XI X) (m 14) 520 C, arL (XI X) (m 15) 20 (mpG fl k)] := by
          refine loop_up 20 ?_
          intro k hk ih x hx
          subst hx
          refine v_iload_n K dX8_moveRule_66 rfl ?_
          refine v_bipush K (20) dX8_moveRule_67 (by decide) ?_
          refine v_ic_ge K 90 dX8_moveRule_69 (by decide) (fun c69 => ?_) (fun c69 => ?_)
          · have he := up_end (N := 20) rfl (by omega) hk c69
            subst he
            refine v_car 8 (lens (spL S)) rfl hfl ?_
            have hll := lens_len (spL S)
            refine v_ltk 12 (lens (spL S)).length rfl ?_
            rw [mp_lay hfl]
            try dsimp only [Nat.reduceAdd, nf_rep1, nf_rep0, nf_d0, nf_t0, nf_s0, nf_ac, nf_an, nf_d1, nf_t1, nf_s1, nf_d2, nf_t2, nf_s2, nf_d3, nf_t3, nf_s3, nf_d4, nf_t4, nf_s4, nf_d5, nf_t5, nf_s5, nf_d6, nf_t6, nf_s6, nf_d7, nf_t7, nf_s7, nf_d8, nf_t8, nf_s8, nf_d9, nf_t9, nf_s9, nf_d10, nf_t10, nf_s10, nf_d11, nf_t11, nf_s11, nf_d12, nf_t12, nf_s12, nf_d13, nf_t13, nf_s13, nf_d14, nf_t14, nf_s14, nf_d15, nf_t15, nf_s15, nf_d16, nf_t16, nf_s16, nf_d17, nf_t17, nf_s17, nf_d18, nf_t18, nf_s18, nf_d19, nf_t19, nf_s19, nf_d20, nf_t20, nf_s20]
            refine v_aload_n K dX8_moveRule_90 rfl ?_
            refine v_iconst K (0) dX8_moveRule_91 (by decide) ?_
            refine v_iconst K (2) dX8_moveRule_92 (by decide) ?_
            refine v_bipush K (7) dX8_moveRule_93 (by decide) ?_
            refine v_iload_n K dX8_moveRule_95 rfl ?_
            refine v_callVv K [0, 1] (c_X8_takesOut (XI X) (XB X) _ _ _ _ _ _ _ _ _ _ _ _ _ _ 0 2 7 I (S.1.length - 1) ?hc96_0_15 ?hc96_1_15 ?hc96_2_15 ?hc96_3_15) rfl gX8_moveRule_X8_takesOut rfl rfl hd_X8_takesOut ⟨rfl, rfl⟩ ⟨by decide, by decide⟩ 0 rfl hasF_c rfl (by decide) (Nat.le_of_ble_eq_true rfl) ⟨Nat.zero_le _, Nat.zero_le _⟩ rfl dX8_moveRule_96 ?_
            case hc96_0_15 => rw [hA.2.1]; exact congrArg nI (by omega)
            case hc96_1_15 => decide
            case hc96_2_15 => omega
            case hc96_3_15 => omega
            try dsimp only [Nat.reduceAdd, nf_rep1, nf_rep0, nf_d0, nf_t0, nf_s0, nf_ac, nf_an, nf_d1, nf_t1, nf_s1, nf_d2, nf_t2, nf_s2, nf_d3, nf_t3, nf_s3, nf_d4, nf_t4, nf_s4, nf_d5, nf_t5, nf_s5, nf_d6, nf_t6, nf_s6, nf_d7, nf_t7, nf_s7, nf_d8, nf_t8, nf_s8, nf_d9, nf_t9, nf_s9, nf_d10, nf_t10, nf_s10, nf_d11, nf_t11, nf_s11, nf_d12, nf_t12, nf_s12, nf_d13, nf_t13, nf_s13, nf_d14, nf_t14, nf_s14, nf_d15, nf_t15, nf_s15, nf_d16, nf_t16, nf_s16, nf_d17, nf_t17, nf_s17, nf_d18, nf_t18, nf_s18, nf_d19, nf_t19, nf_s19, nf_d20, nf_t20, nf_s20]
            refine v_bipush K (7) dX8_moveRule_99 (by decide) ?_
            refine v_aload_n K dX8_moveRule_101 rfl ?_
            refine v_get K 0 rfl hasF_c rfl iX8 0 (by decide) rfl (by decide +kernel) rfl dX8_moveRule_102 ?_
            refine v_iconst K (0) dX8_moveRule_105 (by decide) ?_
            refine v_fald K 1 rfl (0) ?hx106_16 ?ix106_16 dX8_moveRule_106 ?_
            case hx106_16 => exact rfl
            case ix106_16 => exact ⟨by decide, by decide⟩
            rw [toK_c]
            refine v_imul K dX8_moveRule_107 ?_
            rw [show (7 : Int32) * nI (S.1.length - 1) = nI (7 * (S.1.length - 1)) from pk_mul 7 _]
            refine v_iconst K (1) dX8_moveRule_108 (by decide) ?_
            refine v_isub K dX8_moveRule_109 ?_
            refine v_istore_n K dX8_moveRule_110 (by decide) ?_
            exact v_j (q3 _ (Nat.le_refl _) (by omega) _ rfl) rfl rfl (by rw [t2K_0 (by omega)] <;> rfl)
          · have hlt := up_lt (N := 20) rfl (by omega) hk c69
            refine v_aload_n K dX8_moveRule_72 rfl ?_
            refine v_get K 0 rfl hasF_c rfl iX8 25 (by decide) rfl (by decide +kernel) rfl dX8_moveRule_73 ?_
            refine v_iload_n K dX8_moveRule_76 rfl ?_
            refine v_aload_n K dX8_moveRule_77 rfl ?_
            refine v_get K 0 rfl hasF_c rfl iX8 16 (by decide) rfl (by decide +kernel) rfl dX8_moveRule_78 ?_
            refine v_iload_n K dX8_moveRule_81 rfl ?_
            refine v_fald K 8 rfl (k) ?hx82_17 ?ix82_17 dX8_moveRule_82 ?_
            case hx82_17 => exact rfl
            case ix82_17 => exact ⟨by omega, by decide⟩
            refine v_last K 12 rfl ?hx83_18 ?ix83_18 dX8_moveRule_83 ?_
            case hx83_18 => rw [mpG_len]
            case ix83_18 => rw [mpG_len]; exact hlt
            try dsimp only [Nat.reduceAdd, nf_rep1, nf_rep0, nf_d0, nf_t0, nf_s0, nf_ac, nf_an, nf_d1, nf_t1, nf_s1, nf_d2, nf_t2, nf_s2, nf_d3, nf_t3, nf_s3, nf_d4, nf_t4, nf_s4, nf_d5, nf_t5, nf_s5, nf_d6, nf_t6, nf_s6, nf_d7, nf_t7, nf_s7, nf_d8, nf_t8, nf_s8, nf_d9, nf_t9, nf_s9, nf_d10, nf_t10, nf_s10, nf_d11, nf_t11, nf_s11, nf_d12, nf_t12, nf_s12, nf_d13, nf_t13, nf_s13, nf_d14, nf_t14, nf_s14, nf_d15, nf_t15, nf_s15, nf_d16, nf_t16, nf_s16, nf_d17, nf_t17, nf_s17, nf_d18, nf_t18, nf_s18, nf_d19, nf_t19, nf_s19, nf_d20, nf_t20, nf_s20]
            refine v_iinc K dX8_moveRule_84 rfl (by decide) iinc_1 ?_
            refine v_goto K 66 dX8_moveRule_87 (by decide) ?_
            exact v_j (ih hlt _ (nI_1 k)) rfl rfl (by rw [mpG_add] <;> rfl)
        have q1 : ∀ k, k ≤ 520 → ∀ (x : Int32), x = nI k → V X 0 0 39 [(0, .ref (m 0)), (1, .int (nI I)), (2, .int (nI J)), (3, .int x)] [] [moM m (nI hs.length) it sz sl ut ol tl sp tw tm mm rl, arF (XI X) (m 1) 570 f, arL (XI X) (m 5) 12 xs, arL (XI X) (m 6) 12 rf, arL (XI X) (m 7) 12 sd, arL (XI X) (m 8) 30 us, arL (XI X) (m 9) 26 os, arL (XI X) (m 10) 520 C, arF (XI X) (m 11) 20 fl, arF (XI X) (m 2) 570 (cpK f g 570), arF (XI X) (m 3) 2280 h, arL (XI X) (m 14) 520 (C.take k), arL (XI X) (m 15) 20 []] := by
          refine loop_up 520 ?_
          intro k hk ih x hx
          subst hx
          refine v_iload_n K dX8_moveRule_39 rfl ?_
          refine v_sipush K (520) dX8_moveRule_40 (by decide) ?_
          refine v_ic_ge K 64 dX8_moveRule_43 (by decide) (fun c43 => ?_) (fun c43 => ?_)
          · refine v_iconst K (0) dX8_moveRule_64 (by decide) ?_
            refine v_istore_n K dX8_moveRule_65 (by decide) ?_
            have he := up_end (N := 520) rfl (by omega) hk c43
            exact v_j (q2 0 (Nat.zero_le _) 0 rfl) rfl rfl (by rw [he, List.take_of_length_le (Nat.le_of_eq hC.2.1)] <;> rfl)
          · have hlt := up_lt (N := 520) rfl (by omega) hk c43
            refine v_aload_n K dX8_moveRule_46 rfl ?_
            refine v_get K 0 rfl hasF_c rfl iX8 24 (by decide) rfl (by decide +kernel) rfl dX8_moveRule_47 ?_
            refine v_iload_n K dX8_moveRule_50 rfl ?_
            refine v_aload_n K dX8_moveRule_51 rfl ?_
            refine v_get K 0 rfl hasF_c rfl iX8 15 (by decide) rfl (by decide +kernel) rfl dX8_moveRule_52 ?_
            refine v_iload_n K dX8_moveRule_55 rfl ?_
            refine v_lald K 7 rfl (k) ?hx56_19 ?ix56_19 dX8_moveRule_56 ?_
            case hx56_19 => exact rfl
            case ix56_19 => rw [hC.2.1]; exact hlt
            refine v_last K 11 rfl ?hx57_20 ?ix57_20 dX8_moveRule_57 ?_
            case hx57_20 => rw [tkl (by rw [hC.2.1]; exact hk)]
            case ix57_20 => rw [tkl (by rw [hC.2.1]; exact hk)]; exact hlt
            try dsimp only [Nat.reduceAdd, nf_rep1, nf_rep0, nf_d0, nf_t0, nf_s0, nf_ac, nf_an, nf_d1, nf_t1, nf_s1, nf_d2, nf_t2, nf_s2, nf_d3, nf_t3, nf_s3, nf_d4, nf_t4, nf_s4, nf_d5, nf_t5, nf_s5, nf_d6, nf_t6, nf_s6, nf_d7, nf_t7, nf_s7, nf_d8, nf_t8, nf_s8, nf_d9, nf_t9, nf_s9, nf_d10, nf_t10, nf_s10, nf_d11, nf_t11, nf_s11, nf_d12, nf_t12, nf_s12, nf_d13, nf_t13, nf_s13, nf_d14, nf_t14, nf_s14, nf_d15, nf_t15, nf_s15, nf_d16, nf_t16, nf_s16, nf_d17, nf_t17, nf_s17, nf_d18, nf_t18, nf_s18, nf_d19, nf_t19, nf_s19, nf_d20, nf_t20, nf_s20]
            refine v_iinc K dX8_moveRule_58 rfl (by decide) iinc_1 ?_
            refine v_goto K 39 dX8_moveRule_61 (by decide) ?_
            exact v_j (ih hlt _ (nI_1 k)) rfl rfl (by rw [tk1 (by rw [hC.2.1]; exact hlt)] <;> rfl)
        exact v_j (q1 0 (Nat.zero_le _) 0 rfl) rfl rfl rfl
      · refine v_bipush K (-5) dX8_moveRule_26 (by decide) ?_
        refine v_iret K E dX8_moveRule_28 ?_ rfl
        exact ⟨by rw [mvT_5 hbi hbj c23] <;> rfl, _, _, _, _, _, _, _, _, _, _, _, _, _, _, _, _, by rw [mvT_5 hbi hbj c23]; exact hA, by rw [mvT_5 hbi hbj c23]; exact hH, hu, hC, by rw [mvT_5 hbi hbj c23] <;> rfl⟩
    · refine v_bipush K (-2) dX8_moveRule_18 (by decide) ?_
      refine v_iret K E dX8_moveRule_20 ?_ rfl
      exact ⟨by rw [mvT_2 hbi (bI_0 c15)] <;> rfl, _, _, _, _, _, _, _, _, _, _, _, _, _, _, _, _, by rw [mvT_2 hbi (bI_0 c15)]; exact hA, by rw [mvT_2 hbi (bI_0 c15)]; exact hH, hu, hC, by rw [mvT_2 hbi (bI_0 c15)] <;> rfl⟩
  · refine v_iconst K (-1) dX8_moveRule_8 (by decide) ?_
    refine v_iret K E dX8_moveRule_9 ?_ rfl
    exact ⟨by rw [mvT_1 (bI_0 c5)] <;> rfl, _, _, _, _, _, _, _, _, _, _, _, _, _, _, _, _, by rw [mvT_1 (bI_0 c5)]; exact hA, by rw [mvT_1 (bI_0 c5)]; exact hH, hu, hC, by rw [mvT_1 (bI_0 c5)] <;> rfl⟩
