theorem hd_X8_convert : yX8_convert.cls = RX8 ∧ yX8_convert.cls ≠ "java/lang/invoke/MethodHandle" ∧ yX8_convert.cls ≠ "java/lang/invoke/VarHandle" ∧ (parseMethodDescriptor yX8_convert.desc).map (fun d => d.parameters.length) = some 1 := by decide +kernel
set_option maxHeartbeats 4000000 in
set_option maxRecDepth 100000 in
theorem c_X8_convert (cI cB : ClassId) (m : Nat → Nat) (hl it sz sl ut ol sp tw tm mm : Int32) (S : Bk) (f : Nat → Int32) (ts rs xs rf sd us os C N : List Int32) (b : Bool) (hA : allR S f) (hu : us.length = 30) (hC : C.length = 520) : Ct cI cB yX8_convert wsX8_convert { frames := 6, cells := 0, slots := 0, locals := 141 } [.ref (m 0), .int (bI b)] [moM m hl it sz sl ut ol (nI ts.length) sp tw tm mm (nI rs.length), arF cI (m 1) 570 f, arL cI (m 5) 12 xs, arL cI (m 6) 12 rf, arL cI (m 7) 12 sd, arL cI (m 8) 30 us, arL cI (m 9) 26 os, arL cI (m 10) 520 C, arL cI (m 11) 20 N, arL cI (m 12) 60 ts, arL cI (m 16) 420 rs] (fun ov M => ov = some (.int (cvT S ts rs b).1) ∧ ∃ (sz sl ut ol sp : Int32) (xs rf sd us os C N : List Int32), us.length = 30 ∧ C.length = 520 ∧ M = [moM m hl it sz sl ut ol (nI ts.length) sp tw tm mm (nI (cvT S ts rs b).2.length), arF cI (m 1) 570 f, arL cI (m 5) 12 xs, arL cI (m 6) 12 rf, arL cI (m 7) 12 sd, arL cI (m 8) 30 us, arL cI (m 9) 26 os, arL cI (m 10) 520 C, arL cI (m 11) 20 N, arL cI (m 12) 60 ts, arL cI (m 16) 420 (cvT S ts rs b).2]) := by
  refine ct_of (cc := cX8_convert) (maxL := 5) (ret := (some .int)) (by decide) rfl (Nat.le_of_ble_eq_true rfl) [(0, .ref (m 0)), (1, .int (bI b))] rfl ?_
  intro X hI hB K E
  subst hI
  subst hB
  have iX8 : ∀ w ∈ u_ws RX8 TX8 28, w ∈ wsX8_convert := by decide +kernel
  have hw := hA.1
  refine v_arlen 9 rfl (fun hX => ?_)
  obtain ⟨R, hR0⟩ : ∃ R, cvF ts S b 60 0 [] = R := ⟨_, rfl⟩
  have hRl : R.2.1 ≤ ts.length := by rw [← hR0]; exact cvF_le 60 0 [] (Nat.zero_le _)
  refine v_aload_n K dX8_convert_0 rfl ?_
  refine v_iload_n K dX8_convert_1 rfl ?_
  refine v_callV K [0, 9] (c_X8_faultOfWords (XI X) (XB X) _ _ _ _ _ _ _ _ _ _ _ _ S _ b ) rfl gX8_convert_X8_faultOfWords rfl rfl hd_X8_faultOfWords ⟨rfl, rfl⟩ ⟨by decide, by decide⟩ 0 rfl hasF_c rfl (by decide) (Nat.le_of_ble_eq_true rfl) ⟨Nat.zero_le _, Nat.zero_le _⟩ rfl dX8_convert_2 ?_
  try dsimp only [Nat.reduceAdd, nf_rep1, nf_rep0, nf_d0, nf_t0, nf_s0, nf_ac, nf_an, nf_d1, nf_t1, nf_s1, nf_d2, nf_t2, nf_s2, nf_d3, nf_t3, nf_s3, nf_d4, nf_t4, nf_s4, nf_d5, nf_t5, nf_s5, nf_d6, nf_t6, nf_s6, nf_d7, nf_t7, nf_s7, nf_d8, nf_t8, nf_s8, nf_d9, nf_t9, nf_s9, nf_d10, nf_t10, nf_s10, nf_d11, nf_t11, nf_s11, nf_d12, nf_t12, nf_s12, nf_d13, nf_t13, nf_s13, nf_d14, nf_t14, nf_s14, nf_d15, nf_t15, nf_s15, nf_d16, nf_t16, nf_s16, nf_d17, nf_t17, nf_s17, nf_d18, nf_t18, nf_s18, nf_d19, nf_t19, nf_s19, nf_d20, nf_t20, nf_s20]
  intro ov Mc1 hpo _
  obtain ⟨rfl, sp, rfl⟩ := hpo
  rw [hR0]
  refine v_istore_n K dX8_convert_5 (by decide) ?_
  refine v_iload_n K dX8_convert_6 rfl ?_
  refine v_bipush K (-5) dX8_convert_7 (by decide) ?_
  refine v_ic_eq K 17 dX8_convert_9 (by decide) (fun c9 => ?_) (fun c9 => ?_)
  · refine v_aload_n K dX8_convert_17 rfl ?_
    refine v_callV K [0, 1, 2, 3, 4, 5, 6, 7, 8] (c_X8_spells (XI X) (XB X) _ _ _ _ _ _ _ _ _ _ _ _ _ S _ _ _ _ _ _ _ _ ?hc18_0_2 ?hc18_1_2 ?hc18_2_2) rfl gX8_convert_X8_spells rfl rfl hd_X8_spells ⟨rfl, rfl⟩ ⟨by decide, by decide⟩ 0 rfl hasF_c rfl (by decide) (Nat.le_of_ble_eq_true rfl) ⟨Nat.zero_le _, Nat.zero_le _⟩ rfl dX8_convert_18 ?_
    case hc18_0_2 => exact hA
    case hc18_1_2 => exact hu
    case hc18_2_2 => exact hC
    try dsimp only [Nat.reduceAdd, nf_rep1, nf_rep0, nf_d0, nf_t0, nf_s0, nf_ac, nf_an, nf_d1, nf_t1, nf_s1, nf_d2, nf_t2, nf_s2, nf_d3, nf_t3, nf_s3, nf_d4, nf_t4, nf_s4, nf_d5, nf_t5, nf_s5, nf_d6, nf_t6, nf_s6, nf_d7, nf_t7, nf_s7, nf_d8, nf_t8, nf_s8, nf_d9, nf_t9, nf_s9, nf_d10, nf_t10, nf_s10, nf_d11, nf_t11, nf_s11, nf_d12, nf_t12, nf_s12, nf_d13, nf_t13, nf_s13, nf_d14, nf_t14, nf_s14, nf_d15, nf_t15, nf_s15, nf_d16, nf_t16, nf_s16, nf_d17, nf_t17, nf_s17, nf_d18, nf_t18, nf_s18, nf_d19, nf_t19, nf_s19, nf_d20, nf_t20, nf_s20]
    intro ov Mc1 hpo _
    obtain ⟨rfl, sz, sl, ut, ol, xs, rf, sd, us, os, C, hu, hC, rfl⟩ := hpo
    refine v_aload_n K dX8_convert_21 rfl ?_
    refine v_iconst K (0) dX8_convert_22 (by decide) ?_
    refine v_put K 0 rfl rfl iX8 tyX8 tyX8_ok nmX8 27 (by decide) rfl (by decide +kernel) rfl rfl (Nat.le_of_ble_eq_true rfl) dX8_convert_23 ?_
    try dsimp only [Nat.reduceAdd, nf_rep1, nf_rep0, nf_d0, nf_t0, nf_s0, nf_ac, nf_an, nf_d1, nf_t1, nf_s1, nf_d2, nf_t2, nf_s2, nf_d3, nf_t3, nf_s3, nf_d4, nf_t4, nf_s4, nf_d5, nf_t5, nf_s5, nf_d6, nf_t6, nf_s6, nf_d7, nf_t7, nf_s7, nf_d8, nf_t8, nf_s8, nf_d9, nf_t9, nf_s9, nf_d10, nf_t10, nf_s10, nf_d11, nf_t11, nf_s11, nf_d12, nf_t12, nf_s12, nf_d13, nf_t13, nf_s13, nf_d14, nf_t14, nf_s14, nf_d15, nf_t15, nf_s15, nf_d16, nf_t16, nf_s16, nf_d17, nf_t17, nf_s17, nf_d18, nf_t18, nf_s18, nf_d19, nf_t19, nf_s19, nf_d20, nf_t20, nf_s20]
    refine v_iconst K (0) dX8_convert_26 (by decide) ?_
    refine v_istore_n K dX8_convert_27 (by decide) ?_
    have h1 := fwR_t (ts := ts) (R := R) (by omega) c9
    have h60 := hX.1
    refine v_ltk 10 0 rfl ?_
    rw [List.take_zero]
    try dsimp only [Nat.reduceAdd, nf_rep1, nf_rep0, nf_d0, nf_t0, nf_s0, nf_ac, nf_an, nf_d1, nf_t1, nf_s1, nf_d2, nf_t2, nf_s2, nf_d3, nf_t3, nf_s3, nf_d4, nf_t4, nf_s4, nf_d5, nf_t5, nf_s5, nf_d6, nf_t6, nf_s6, nf_d7, nf_t7, nf_s7, nf_d8, nf_t8, nf_s8, nf_d9, nf_t9, nf_s9, nf_d10, nf_t10, nf_s10, nf_d11, nf_t11, nf_s11, nf_d12, nf_t12, nf_s12, nf_d13, nf_t13, nf_s13, nf_d14, nf_t14, nf_s14, nf_d15, nf_t15, nf_s15, nf_d16, nf_t16, nf_s16, nf_d17, nf_t17, nf_s17, nf_d18, nf_t18, nf_s18, nf_d19, nf_t19, nf_s19, nf_d20, nf_t20, nf_s20]
    have lx : ∀ (rs1 : List Int32), R.2.2 = rs1 → rs1.length ≤ 400 → ∀ (sz sl ut ol sp : Int32) (xs rf sd us os : List Int32), us.length = 30 → V X 0 0 28 [(0, .ref (m 0)), (1, .int (bI b)), (3, .int (nI (ts.length + 1)))] [] [moM m hl it sz sl ut ol (nI ts.length) sp tw tm mm (nI rs1.length), arF (XI X) (m 1) 570 f, arL (XI X) (m 5) 12 xs, arL (XI X) (m 6) 12 rf, arL (XI X) (m 7) 12 sd, arL (XI X) (m 8) 30 us, arL (XI X) (m 9) 26 os, arL (XI X) (m 10) 520 C, arL (XI X) (m 11) 20 (lens (spL S)), arL (XI X) (m 12) 60 ts, arL (XI X) (m 16) 420 rs1] := by
      intro rs1 hr hr4 sz sl ut ol sp xs rf sd us os hu
      refine v_iload_n K dX8_convert_28 rfl ?_
      refine v_aload_n K dX8_convert_29 rfl ?_
      refine v_get K 0 rfl hasF_c rfl iX8 18 (by decide) rfl (by decide +kernel) rfl dX8_convert_30 ?_
      refine v_ic_ge K 109 dX8_convert_33 (by decide) (fun c33 => ?_) (fun c33 => False.elim (c33 (by rw [nI_leI (by omega) (by omega)]; omega)))
      refine v_aload_n K dX8_convert_109 rfl ?_
      refine v_get K 0 rfl hasF_c rfl iX8 27 (by decide) rfl (by decide +kernel) rfl dX8_convert_110 ?_
      refine v_iret K E dX8_convert_113 ?_ rfl
      have e := cvT_y (rs := rs) hR0 h1 (by rw [hr]; exact hr4)
      rw [hr] at e
      exact ⟨by rw [e] <;> rfl, _, _, _, _, _, _, _, _, _, _, _, _, hu, hC.2.1, by rw [e] <;> rfl⟩
    have lq : ∀ (P : Nat) (zs rs1 : List Int32) (sz sl ut ol sp : Int32) (xs rf sd us os : List Int32), P ≤ 60 → pcT ts P zs → (∀ j, j < zs.length → ¬ zs.getD j (-5) = 32) → (P + zs.length = ts.length ∨ ts.getD (P + zs.length) (-5) = 32) → V X 0 0 66 [(0, .ref (m 0)), (1, .int (bI b)), (3, .int (nI P)), (4, .int (nI (P + zs.length)))] [] [moM m hl it sz sl ut ol (nI ts.length) sp tw tm mm (nI rs1.length), arF (XI X) (m 1) 570 f, arL (XI X) (m 5) 12 xs, arL (XI X) (m 6) 12 rf, arL (XI X) (m 7) 12 sd, arL (XI X) (m 8) 30 us, arL (XI X) (m 9) 26 os, arL (XI X) (m 10) 520 C, arL (XI X) (m 11) 20 (lens (spL S)), arL (XI X) (m 12) 60 ts, arL (XI X) (m 16) 420 rs1] → ∀ k, k ≤ zs.length → ∀ (x : Int32), x = nI (P + k) → V X 0 0 39 [(0, .ref (m 0)), (1, .int (bI b)), (3, .int (nI P)), (4, .int x)] [] [moM m hl it sz sl ut ol (nI ts.length) sp tw tm mm (nI rs1.length), arF (XI X) (m 1) 570 f, arL (XI X) (m 5) 12 xs, arL (XI X) (m 6) 12 rf, arL (XI X) (m 7) 12 sd, arL (XI X) (m 8) 30 us, arL (XI X) (m 9) 26 os, arL (XI X) (m 10) 520 C, arL (XI X) (m 11) 20 (lens (spL S)), arL (XI X) (m 12) 60 ts, arL (XI X) (m 16) 420 rs1] := by
      intro P zs rs1 sz sl ut ol sp xs rf sd us os hP6 hpc hne hend hk0
      have hpl := hpc.1
      refine loop_up zs.length ?_
      intro k hk ih x hx
      subst hx
      rcases Nat.lt_or_eq_of_le hk with hlt | he
      · skip
        refine v_iload K dX8_convert_39 rfl ?_
        refine v_aload_n K dX8_convert_41 rfl ?_
        refine v_get K 0 rfl hasF_c rfl iX8 18 (by decide) rfl (by decide +kernel) rfl dX8_convert_42 ?_
        refine v_ic_ge K 66 dX8_convert_45 (by decide) (fun c45 => False.elim (by rw [nI_leI (by omega) (by omega)] at c45; omega)) (fun c45 => ?_)
        refine v_aload_n K dX8_convert_48 rfl ?_
        refine v_get K 0 rfl hasF_c rfl iX8 17 (by decide) rfl (by decide +kernel) rfl dX8_convert_49 ?_
        refine v_iload K dX8_convert_52 rfl ?_
        refine v_lald K 9 rfl (P + k) ?hx54_3 ?ix54_3 dX8_convert_54 ?_
        case hx54_3 => exact rfl
        case ix54_3 => omega
        rw [hpc.2 k hlt]
        refine v_bipush K (32) dX8_convert_55 (by decide) ?_
        refine v_ic_eq K 66 dX8_convert_57 (by decide) (fun c57 => False.elim (hne k hlt c57)) (fun c57 => ?_)
        refine v_iinc K dX8_convert_60 rfl (by decide) iinc_1 ?_
        refine v_goto K 39 dX8_convert_63 (by decide) ?_
        exact v_j (ih hlt _ (by rw [nI_1] <;> rfl)) rfl rfl rfl
      · subst he
        refine v_iload K dX8_convert_39 rfl ?_
        refine v_aload_n K dX8_convert_41 rfl ?_
        refine v_get K 0 rfl hasF_c rfl iX8 18 (by decide) rfl (by decide +kernel) rfl dX8_convert_42 ?_
        refine v_ic_ge K 66 dX8_convert_45 (by decide) (fun c45 => ?_) (fun c45 => ?_)
        · exact v_j hk0 rfl rfl rfl
        · have hlt : P + zs.length < ts.length := nI_gt (by omega) (by omega) c45
          refine v_aload_n K dX8_convert_48 rfl ?_
          refine v_get K 0 rfl hasF_c rfl iX8 17 (by decide) rfl (by decide +kernel) rfl dX8_convert_49 ?_
          refine v_iload K dX8_convert_52 rfl ?_
          refine v_lald K 9 rfl (P + zs.length) ?hx54_4 ?ix54_4 dX8_convert_54 ?_
          case hx54_4 => exact rfl
          case ix54_4 => exact hlt
          refine v_bipush K (32) dX8_convert_55 (by decide) ?_
          refine v_ic_eq K 66 dX8_convert_57 (by decide) (fun c57 => ?_) (fun c57 => ?_)
          · exact v_j hk0 rfl rfl rfl
          · exact absurd (hend.resolve_left (by omega)) c57
    have lp : ∀ (d n P : Nat) (ns rs1 : List Int32), ts.length - P = d → P ≤ ts.length → ts.length + 1 ≤ P + 2 * n → cvF ts S b n P ns = R → (P = 0 ∧ ns = rs1 ∨ 0 < P ∧ ns = rs1 ++ [32]) → 2 * ns.length ≤ 13 * P → ∀ (sz sl ut ol sp : Int32) (xs rf sd us os : List Int32), us.length = 30 → V X 0 0 28 [(0, .ref (m 0)), (1, .int (bI b)), (3, .int (nI P))] [] [moM m hl it sz sl ut ol (nI ts.length) sp tw tm mm (nI rs1.length), arF (XI X) (m 1) 570 f, arL (XI X) (m 5) 12 xs, arL (XI X) (m 6) 12 rf, arL (XI X) (m 7) 12 sd, arL (XI X) (m 8) 30 us, arL (XI X) (m 9) 26 os, arL (XI X) (m 10) 520 C, arL (XI X) (m 11) 20 (lens (spL S)), arL (XI X) (m 12) 60 ts, arL (XI X) (m 16) 420 rs1] := by
      intro d
      induction d using Nat.strongRecOn with | _ d ih => ?_
      intro n P ns rs1 hd hP hn hR hrs hns sz sl ut ol sp xs rf sd us os hu
      obtain ⟨ww, zs, O, hw1, hlow, hwz, hpc, hne, hbf, hbt, hO, hnx⟩ := cv_step hw hP hn hR h1.1 h1.2 h60 hns
      have hpl := hpc.1
      have hend : P + zs.length = ts.length ∨ ts.getD (P + zs.length) (-5) = 32 := hnx.elim (fun z => Or.inr z.1) (fun z => Or.inl z.1)
      have l101 : ∀ (sz sl ut ol sp : Int32) (xs rf sd us os : List Int32), us.length = 30 → V X 0 0 101 [(0, .ref (m 0)), (1, .int (bI b)), (4, .int (nI (P + zs.length)))] [] [moM m hl it sz sl ut ol (nI ts.length) sp tw tm mm (nI (ns ++ O).length), arF (XI X) (m 1) 570 f, arL (XI X) (m 5) 12 xs, arL (XI X) (m 6) 12 rf, arL (XI X) (m 7) 12 sd, arL (XI X) (m 8) 30 us, arL (XI X) (m 9) 26 os, arL (XI X) (m 10) 520 C, arL (XI X) (m 11) 20 (lens (spL S)), arL (XI X) (m 12) 60 ts, arL (XI X) (m 16) 420 (ns ++ O)] := by
        intro sz sl ut ol sp xs rf sd us os hu
        refine v_iload K dX8_convert_101 rfl ?_
        refine v_iconst K (1) dX8_convert_103 (by decide) ?_
        refine v_iadd K dX8_convert_104 ?_
        refine v_istore_n K dX8_convert_105 (by decide) ?_
        refine v_goto K 28 dX8_convert_106 (by decide) ?_
        rcases hnx with ⟨q1, q2, n2, q3, q4, q5⟩ | ⟨q1, q2⟩
        · exact v_j (ih (ts.length - (P + zs.length + 1)) (by omega) n2 (P + zs.length + 1) _ (ns ++ O) rfl (by omega) q3 q4 (Or.inr ⟨by omega, rfl⟩) q5 _ _ _ _ _ _ _ _ _ _ hu) (by rw [nI_1] <;> rfl) rfl rfl
        · rw [q1]
          exact v_j (lx (ns ++ O) q2 (by rw [List.length_append]; omega) _ _ _ _ _ _ _ _ _ _ hu) (by rw [nI_1] <;> rfl) rfl rfl
      have l76 : V X 0 0 76 [(0, .ref (m 0)), (1, .int (bI b)), (3, .int (nI P)), (4, .int (nI (P + zs.length)))] [] [moM m hl it sz sl ut ol (nI ts.length) sp tw tm mm (nI ns.length), arF (XI X) (m 1) 570 f, arL (XI X) (m 5) 12 xs, arL (XI X) (m 6) 12 rf, arL (XI X) (m 7) 12 sd, arL (XI X) (m 8) 30 us, arL (XI X) (m 9) 26 os, arL (XI X) (m 10) 520 C, arL (XI X) (m 11) 20 (lens (spL S)), arL (XI X) (m 12) 60 ts, arL (XI X) (m 16) 420 ns] := by
        cases b with
        | false =>
          obtain ⟨e1, e2, e3⟩ := hbf rfl
          subst e1
          refine v_iload_n K dX8_convert_76 rfl ?_
          refine v_if_eq K 92 dX8_convert_77 (by decide) (fun c77 => ?_) (fun c77 => absurd c77 (fun z => z rfl))
          refine v_aload_n K dX8_convert_92 rfl ?_
          refine v_iload_n K dX8_convert_93 rfl ?_
          refine v_iload K dX8_convert_94 rfl ?_
          refine v_iload_n K dX8_convert_96 rfl ?_
          refine v_isub K dX8_convert_97 ?_
          rw [pk_sub (by omega), Nat.add_sub_cancel_left]
          refine v_callV K [0, 1, 2, 3, 4, 5, 6, 9, 10] (c_X8_converts (XI X) (XB X) _ _ _ _ _ _ _ _ _ _ _ S _ _ _ _ _ _ _ _ _ zs ?hc98_0_5 ?hc98_1_5 ?hc98_2_5 ?hc98_3_5 ?hc98_4_5 ?hc98_5_5) rfl gX8_convert_X8_converts rfl rfl hd_X8_converts ⟨rfl, rfl⟩ ⟨by decide, by decide⟩ 0 rfl hasF_c rfl (by decide) (Nat.le_of_ble_eq_true rfl) ⟨Nat.zero_le _, Nat.zero_le _⟩ rfl dX8_convert_98 ?_
          case hc98_0_5 => exact hA
          case hc98_1_5 => exact hpc
          case hc98_2_5 => exact hlow
          case hc98_3_5 => exact e2
          case hc98_4_5 => exact hu
          case hc98_5_5 => rw [← e3]; omega
          try dsimp only [Nat.reduceAdd, nf_rep1, nf_rep0, nf_d0, nf_t0, nf_s0, nf_ac, nf_an, nf_d1, nf_t1, nf_s1, nf_d2, nf_t2, nf_s2, nf_d3, nf_t3, nf_s3, nf_d4, nf_t4, nf_s4, nf_d5, nf_t5, nf_s5, nf_d6, nf_t6, nf_s6, nf_d7, nf_t7, nf_s7, nf_d8, nf_t8, nf_s8, nf_d9, nf_t9, nf_s9, nf_d10, nf_t10, nf_s10, nf_d11, nf_t11, nf_s11, nf_d12, nf_t12, nf_s12, nf_d13, nf_t13, nf_s13, nf_d14, nf_t14, nf_s14, nf_d15, nf_t15, nf_s15, nf_d16, nf_t16, nf_s16, nf_d17, nf_t17, nf_s17, nf_d18, nf_t18, nf_s18, nf_d19, nf_t19, nf_s19, nf_d20, nf_t20, nf_s20]
          intro ov Mc1 hpo _
          obtain ⟨rfl, sz, sl, ut, ol, xs, rf, sd, us, os, hu, rfl⟩ := hpo
          exact v_j (l101 _ _ _ _ _ _ _ _ _ _ hu) rfl rfl (by rw [e3] <;> rfl)
        | true =>
          have e3 := hbt rfl
          refine v_iload_n K dX8_convert_76 rfl ?_
          refine v_if_eq K 92 dX8_convert_77 (by decide) (fun c77 => False.elim (absurd c77 (by decide))) (fun c77 => ?_)
          refine v_aload_n K dX8_convert_80 rfl ?_
          refine v_iload_n K dX8_convert_81 rfl ?_
          refine v_iload K dX8_convert_82 rfl ?_
          refine v_iload_n K dX8_convert_84 rfl ?_
          refine v_isub K dX8_convert_85 ?_
          rw [pk_sub (by omega), Nat.add_sub_cancel_left]
          refine v_callVv K [0, 1, 7, 8, 9, 10] (c_X8_convertsBack (XI X) (XB X) _ _ _ _ _ _ _ _ _ _ _ S _ _ _ _ zs _ (spL S) ?hc86_0_6 ?hc86_1_6 ?hc86_2_6 ?hc86_3_6 ?hc86_4_6) rfl gX8_convert_X8_convertsBack rfl rfl hd_X8_convertsBack ⟨rfl, rfl⟩ ⟨by decide, by decide⟩ 0 rfl hasF_c rfl (by decide) (Nat.le_of_ble_eq_true rfl) ⟨Nat.zero_le _, Nat.zero_le _⟩ rfl dX8_convert_86 ?_
          case hc86_0_6 => exact hA
          case hc86_1_6 => exact hpc
          case hc86_2_6 => exact hC
          case hc86_3_6 => exact spL_len
          case hc86_4_6 => rw [← e3]; omega
          try dsimp only [Nat.reduceAdd, nf_rep1, nf_rep0, nf_d0, nf_t0, nf_s0, nf_ac, nf_an, nf_d1, nf_t1, nf_s1, nf_d2, nf_t2, nf_s2, nf_d3, nf_t3, nf_s3, nf_d4, nf_t4, nf_s4, nf_d5, nf_t5, nf_s5, nf_d6, nf_t6, nf_s6, nf_d7, nf_t7, nf_s7, nf_d8, nf_t8, nf_s8, nf_d9, nf_t9, nf_s9, nf_d10, nf_t10, nf_s10, nf_d11, nf_t11, nf_s11, nf_d12, nf_t12, nf_s12, nf_d13, nf_t13, nf_s13, nf_d14, nf_t14, nf_s14, nf_d15, nf_t15, nf_s15, nf_d16, nf_t16, nf_s16, nf_d17, nf_t17, nf_s17, nf_d18, nf_t18, nf_s18, nf_d19, nf_t19, nf_s19, nf_d20, nf_t20, nf_s20]
          refine v_goto K 101 dX8_convert_89 (by decide) ?_
          exact v_j (l101 _ _ _ _ _ _ _ _ _ _ hu) rfl rfl (by rw [e3] <;> rfl)
      have l66 : V X 0 0 66 [(0, .ref (m 0)), (1, .int (bI b)), (3, .int (nI P)), (4, .int (nI (P + zs.length)))] [] [moM m hl it sz sl ut ol (nI ts.length) sp tw tm mm (nI rs1.length), arF (XI X) (m 1) 570 f, arL (XI X) (m 5) 12 xs, arL (XI X) (m 6) 12 rf, arL (XI X) (m 7) 12 sd, arL (XI X) (m 8) 30 us, arL (XI X) (m 9) 26 os, arL (XI X) (m 10) 520 C, arL (XI X) (m 11) 20 (lens (spL S)), arL (XI X) (m 12) 60 ts, arL (XI X) (m 16) 420 rs1] := by
        rcases hrs with ⟨q1, q2⟩ | ⟨q1, q2⟩
        · subst q1
          subst q2
          refine v_iload_n K dX8_convert_66 rfl ?_
          refine v_if_le K 76 dX8_convert_67 (by decide) (fun c67 => ?_) (fun c67 => False.elim (c67 (by decide)))
          exact v_j l76 rfl rfl rfl
        · subst q2
          refine v_iload_n K dX8_convert_66 rfl ?_
          refine v_if_le K 76 dX8_convert_67 (by decide) (fun c67 => False.elim (nI_nle q1 (by omega) c67)) (fun c67 => ?_)
          refine v_aload_n K dX8_convert_70 rfl ?_
          refine v_bipush K (32) dX8_convert_71 (by decide) ?_
          refine v_callVv K [0, 10] (c_X8_tells (XI X) (XB X) _ _ _ _ _ _ _ _ _ _ _ _ _ _ ?hc73_0_7) rfl gX8_convert_X8_tells rfl rfl hd_X8_tells ⟨rfl, rfl⟩ ⟨by decide, by decide⟩ 0 rfl hasF_c rfl (by decide) (Nat.le_of_ble_eq_true rfl) ⟨Nat.zero_le _, Nat.zero_le _⟩ rfl dX8_convert_73 ?_
          case hc73_0_7 => rw [len1n] at hns hO; omega
          try dsimp only [Nat.reduceAdd, nf_rep1, nf_rep0, nf_d0, nf_t0, nf_s0, nf_ac, nf_an, nf_d1, nf_t1, nf_s1, nf_d2, nf_t2, nf_s2, nf_d3, nf_t3, nf_s3, nf_d4, nf_t4, nf_s4, nf_d5, nf_t5, nf_s5, nf_d6, nf_t6, nf_s6, nf_d7, nf_t7, nf_s7, nf_d8, nf_t8, nf_s8, nf_d9, nf_t9, nf_s9, nf_d10, nf_t10, nf_s10, nf_d11, nf_t11, nf_s11, nf_d12, nf_t12, nf_s12, nf_d13, nf_t13, nf_s13, nf_d14, nf_t14, nf_s14, nf_d15, nf_t15, nf_s15, nf_d16, nf_t16, nf_s16, nf_d17, nf_t17, nf_s17, nf_d18, nf_t18, nf_s18, nf_d19, nf_t19, nf_s19, nf_d20, nf_t20, nf_s20]
          exact v_j l76 rfl rfl rfl
      refine v_iload_n K dX8_convert_28 rfl ?_
      refine v_aload_n K dX8_convert_29 rfl ?_
      refine v_get K 0 rfl hasF_c rfl iX8 18 (by decide) rfl (by decide +kernel) rfl dX8_convert_30 ?_
      refine v_ic_ge K 109 dX8_convert_33 (by decide) (fun c33 => False.elim (by rw [nI_leI (by omega) (by omega)] at c33; omega)) (fun c33 => ?_)
      refine v_iload_n K dX8_convert_36 rfl ?_
      refine v_istore K dX8_convert_37 (by decide) ?_
      exact v_j (lq P zs rs1 _ _ _ _ _ _ _ _ _ _ (by omega) hpc hne hend l66 0 (Nat.zero_le _) _ (by rw [Nat.add_zero] <;> rfl)) rfl rfl rfl
    exact v_j (lp _ 60 0 [] [] rfl (Nat.zero_le _) (by omega) hR0 (Or.inl ⟨rfl, rfl⟩) (Nat.zero_le _) _ _ _ _ _ _ _ _ _ _ hu) rfl rfl rfl
  · refine v_bipush K (-100) dX8_convert_12 (by decide) ?_
    refine v_iload_n K dX8_convert_14 rfl ?_
    refine v_isub K dX8_convert_15 ?_
    refine v_iret K E dX8_convert_16 ?_ rfl
    obtain ⟨hf, hv⟩ := fwR_f (ts := ts) (R := R) (by omega) c9
    have e := cvT_f (rs := rs) hR0 hf
    exact ⟨by rw [e, hv] <;> rfl, _, _, _, _, _, _, _, _, _, _, _, _, hu, hC, by rw [e] <;> rfl⟩
