theorem hd_X7_removeRule : yX7_removeRule.cls = RX7 ∧ yX7_removeRule.cls ≠ "java/lang/invoke/MethodHandle" ∧ yX7_removeRule.cls ≠ "java/lang/invoke/VarHandle" ∧ (parseMethodDescriptor yX7_removeRule.desc).map (fun d => d.parameters.length) = some 1 := by decide +kernel
set_option maxHeartbeats 4000000 in
set_option maxRecDepth 100000 in
theorem c_X7_removeRule (cI cB : ClassId) (a : Nat → Nat) (g HB : Nat → Nat → Nat) (ts cs : List Int32) (S SS : Bk) (hn : Bool) (hs : List Bk) (ns xs : List Int32) (P e s d k : Int32) (T : T4) (D : Bk) (w : Sv) (i : Int32)  : Ct cI cB yX7_removeRule wsX7_removeRule { frames := 6, cells := 0, slots := 0, locals := 142 } [.ref (a 0), .int i] [cM (a 0) (.inr (7, [.ref (a 1), .ref (a 3), .ref (a 5), .ref (a 7), .ref (g 0 0), .ref (g 1 0), .ref (g 2 0), .ref (g 3 0), .int (bI hn), .ref (a 10), .ref (g 4 0), .ref (g 5 0)])), rowM cI (a 1) (a 2) 60 ts, rowM cI (a 3) (a 4) 400 cs, rowM cI (a 5) (a 6) 400 ns, rdM (a 7) (a 8) (a 1) P e s d k, rowM cI (a 8) (a 9) 25 xs, spM cI (g 0) T, bookM cI (g 1) 30 20 S, bookM cI (g 2) 60 50 D, bookM cI (g 3) 30 20 SS, hiM cI cB (a 10) (a 11) HB hs, svM cI (g 4) (svy S), svM cI (g 5) w] (po cI cB a g HB (sRmR (ts, cs, S, SS, hn, hs) i).1 (sRmR (ts, cs, S, SS, hn, hs) i).2) := by
  refine ct_of (cc := cX7_removeRule) (maxL := 2) (ret := (some .int)) (by decide) rfl (Nat.le_of_ble_eq_true rfl) [(0, .ref (a 0)), (1, .int i)] rfl ?_
  intro X hI hB K E
  subst hI
  subst hB
  have iX7 : ∀ w ∈ u_ws RX7 TX7 12, w ∈ wsX7_removeRule := by decide +kernel
  refine v_bfit 7 rfl (fun hb => ?_)
  have hR := bfit_r hb
  have hW := bfit_w hb
  refine v_aload_n K dX7_removeRule_0 rfl ?_
  refine v_get K 0 rfl hasF_c rfl iX7 5 (by decide) rfl (by decide +kernel) rfl dX7_removeRule_1 ?_
  refine v_iload_n K dX7_removeRule_4 rfl ?_
  refine v_callVi K [7] (c_X0_hasRule (XI X) (XB X) _ _ _ _ _ ) rfl gX7_removeRule_X0_hasRule rfl rfl hd_X0_hasRule ⟨rfl, rfl⟩ ⟨by decide, by decide⟩ 7 rfl bookF rfl (by decide) (Nat.le_of_ble_eq_true rfl) ⟨Nat.zero_le _, Nat.zero_le _⟩ rfl dX7_removeRule_5 ?_
  try dsimp only [Nat.reduceAdd, nf_rep1, nf_rep0, nf_d0, nf_t0, nf_s0, nf_ac, nf_an, nf_d1, nf_t1, nf_s1, nf_d2, nf_t2, nf_s2, nf_d3, nf_t3, nf_s3, nf_d4, nf_t4, nf_s4, nf_d5, nf_t5, nf_s5, nf_d6, nf_t6, nf_s6, nf_d7, nf_t7, nf_s7, nf_d8, nf_t8, nf_s8, nf_d9, nf_t9, nf_s9, nf_d10, nf_t10, nf_s10, nf_d11, nf_t11, nf_s11, nf_d12, nf_t12, nf_s12, nf_d13, nf_t13, nf_s13, nf_d14, nf_t14, nf_s14, nf_d15, nf_t15, nf_s15, nf_d16, nf_t16, nf_s16, nf_d17, nf_t17, nf_s17, nf_d18, nf_t18, nf_s18, nf_d19, nf_t19, nf_s19, nf_d20, nf_t20, nf_s20]
  refine v_if_ne K 13 dX7_removeRule_8 (by decide) (fun c8 => ?_) (fun c8 => ?_)
  · have hL := bI_1 c8
    obtain ⟨I, hI, rfl⟩ := hasL_of hR.1 hL
    refine v_aload_n K dX7_removeRule_13 rfl ?_
    refine v_get K 0 rfl hasF_c rfl iX7 9 (by decide) rfl (by decide +kernel) rfl dX7_removeRule_14 ?_
    refine v_aload_n K dX7_removeRule_17 rfl ?_
    refine v_get K 0 rfl hasF_c rfl iX7 5 (by decide) rfl (by decide +kernel) rfl dX7_removeRule_18 ?_
    refine v_callVv K [10, 7] (c_X1_record (XI X) (XB X) _ _ _ _ _ _ _ _ ) rfl gX7_removeRule_X1_record rfl rfl hd_X1_record ⟨rfl, rfl⟩ ⟨by decide, by decide⟩ 10 rfl hiF rfl (by decide) (Nat.le_of_ble_eq_true rfl) ⟨Nat.zero_le _, Nat.zero_le _⟩ rfl dX7_removeRule_21 ?_
    try dsimp only [Nat.reduceAdd, nf_rep1, nf_rep0, nf_d0, nf_t0, nf_s0, nf_ac, nf_an, nf_d1, nf_t1, nf_s1, nf_d2, nf_t2, nf_s2, nf_d3, nf_t3, nf_s3, nf_d4, nf_t4, nf_s4, nf_d5, nf_t5, nf_s5, nf_d6, nf_t6, nf_s6, nf_d7, nf_t7, nf_s7, nf_d8, nf_t8, nf_s8, nf_d9, nf_t9, nf_s9, nf_d10, nf_t10, nf_s10, nf_d11, nf_t11, nf_s11, nf_d12, nf_t12, nf_s12, nf_d13, nf_t13, nf_s13, nf_d14, nf_t14, nf_s14, nf_d15, nf_t15, nf_s15, nf_d16, nf_t16, nf_s16, nf_d17, nf_t17, nf_s17, nf_d18, nf_t18, nf_s18, nf_d19, nf_t19, nf_s19, nf_d20, nf_t20, nf_s20]
    refine v_aload_n K dX7_removeRule_24 rfl ?_
    refine v_get K 0 rfl hasF_c rfl iX7 5 (by decide) rfl (by decide +kernel) rfl dX7_removeRule_25 ?_
    refine v_iload_n K dX7_removeRule_28 rfl ?_
    refine v_callVv K [7] (c_X0_dropRule (XI X) (XB X) _ _ _ _ _ ?hc29_0_3 ?hc29_1_3) rfl gX7_removeRule_X0_dropRule rfl rfl hd_X0_dropRule ⟨rfl, rfl⟩ ⟨by decide, by decide⟩ 7 rfl bookF rfl (by decide) (Nat.le_of_ble_eq_true rfl) ⟨Nat.zero_le _, Nat.zero_le _⟩ rfl dX7_removeRule_29 ?_
    case hc29_0_3 => exact hI
    case hc29_1_3 => omega
    try dsimp only [Nat.reduceAdd, nf_rep1, nf_rep0, nf_d0, nf_t0, nf_s0, nf_ac, nf_an, nf_d1, nf_t1, nf_s1, nf_d2, nf_t2, nf_s2, nf_d3, nf_t3, nf_s3, nf_d4, nf_t4, nf_s4, nf_d5, nf_t5, nf_s5, nf_d6, nf_t6, nf_s6, nf_d7, nf_t7, nf_s7, nf_d8, nf_t8, nf_s8, nf_d9, nf_t9, nf_s9, nf_d10, nf_t10, nf_s10, nf_d11, nf_t11, nf_s11, nf_d12, nf_t12, nf_s12, nf_d13, nf_t13, nf_s13, nf_d14, nf_t14, nf_s14, nf_d15, nf_t15, nf_s15, nf_d16, nf_t16, nf_s16, nf_d17, nf_t17, nf_s17, nf_d18, nf_t18, nf_s18, nf_d19, nf_t19, nf_s19, nf_d20, nf_t20, nf_s20]
    refine v_aload_n K dX7_removeRule_32 rfl ?_
    refine v_get K 0 rfl hasF_c rfl iX7 10 (by decide) rfl (by decide +kernel) rfl dX7_removeRule_33 ?_
    refine v_aload_n K dX7_removeRule_36 rfl ?_
    refine v_get K 0 rfl hasF_c rfl iX7 5 (by decide) rfl (by decide +kernel) rfl dX7_removeRule_37 ?_
    refine v_callVv K [11, 7] (c_X6_renew (XI X) (XB X) _ _ _ _ _ _ ) rfl gX7_removeRule_X6_renew rfl rfl hd_X6_renew ⟨rfl, rfl⟩ ⟨by decide, by decide⟩ 11 rfl svF rfl (by decide) (Nat.le_of_ble_eq_true rfl) ⟨Nat.zero_le _, Nat.zero_le _⟩ rfl dX7_removeRule_40 ?_
    try dsimp only [Nat.reduceAdd, nf_rep1, nf_rep0, nf_d0, nf_t0, nf_s0, nf_ac, nf_an, nf_d1, nf_t1, nf_s1, nf_d2, nf_t2, nf_s2, nf_d3, nf_t3, nf_s3, nf_d4, nf_t4, nf_s4, nf_d5, nf_t5, nf_s5, nf_d6, nf_t6, nf_s6, nf_d7, nf_t7, nf_s7, nf_d8, nf_t8, nf_s8, nf_d9, nf_t9, nf_s9, nf_d10, nf_t10, nf_s10, nf_d11, nf_t11, nf_s11, nf_d12, nf_t12, nf_s12, nf_d13, nf_t13, nf_s13, nf_d14, nf_t14, nf_s14, nf_d15, nf_t15, nf_s15, nf_d16, nf_t16, nf_s16, nf_d17, nf_t17, nf_s17, nf_d18, nf_t18, nf_s18, nf_d19, nf_t19, nf_s19, nf_d20, nf_t20, nf_s20]
    refine v_aload_n K dX7_removeRule_43 rfl ?_
    refine v_get K 0 rfl hasF_c rfl iX7 5 (by decide) rfl (by decide +kernel) rfl dX7_removeRule_44 ?_
    refine v_callVi K [7] (c_X0_rules (XI X) (XB X) _ _ _ _ ) rfl gX7_removeRule_X0_rules rfl rfl hd_X0_rules ⟨rfl, rfl⟩ ⟨by decide, by decide⟩ 7 rfl bookF rfl (by decide) (Nat.le_of_ble_eq_true rfl) ⟨Nat.zero_le _, Nat.zero_le _⟩ rfl dX7_removeRule_47 ?_
    try dsimp only [Nat.reduceAdd, nf_rep1, nf_rep0, nf_d0, nf_t0, nf_s0, nf_ac, nf_an, nf_d1, nf_t1, nf_s1, nf_d2, nf_t2, nf_s2, nf_d3, nf_t3, nf_s3, nf_d4, nf_t4, nf_s4, nf_d5, nf_t5, nf_s5, nf_d6, nf_t6, nf_s6, nf_d7, nf_t7, nf_s7, nf_d8, nf_t8, nf_s8, nf_d9, nf_t9, nf_s9, nf_d10, nf_t10, nf_s10, nf_d11, nf_t11, nf_s11, nf_d12, nf_t12, nf_s12, nf_d13, nf_t13, nf_s13, nf_d14, nf_t14, nf_s14, nf_d15, nf_t15, nf_s15, nf_d16, nf_t16, nf_s16, nf_d17, nf_t17, nf_s17, nf_d18, nf_t18, nf_s18, nf_d19, nf_t19, nf_s19, nf_d20, nf_t20, nf_s20]
    refine v_iret K E dX7_removeRule_50 ?_ (by (simp only [nf_rep1, nf_rep0, nf_d0, nf_t0, nf_s0, nf_ac, nf_an, List.map_cons, List.map_nil, cM_1, rowM_1, rowsM_1, rdM_1, spM_1, bookM_1, svM_1, hiM_1]))
    rw [show sRmR (ts, cs, S, SS, hn, hs) (nI I) = _ by unfold sRmR; rw [if_pos hL, nI_clamp (by omega)]]
    exact ⟨rfl, (_, _, (_, _, _, _, _), _, _, _), rfl⟩
  · refine v_iconst K (-1) dX7_removeRule_11 (by decide) ?_
    refine v_iret K E dX7_removeRule_12 ?_ (by (simp only [nf_rep1, nf_rep0, nf_d0, nf_t0, nf_s0, nf_ac, nf_an, List.map_cons, List.map_nil, cM_1, rowM_1, rowsM_1, rdM_1, spM_1, bookM_1, svM_1, hiM_1]))
    rw [show sRmR (ts, cs, S, SS, hn, hs) i = _ by unfold sRmR; rw [if_neg (by rw [bI_0 c8]; exact Bool.false_ne_true)]]
    exact ⟨rfl, (_, _, (_, _, _, _, _), _, _, _), rfl⟩

theorem hd_X7_moveRule : yX7_moveRule.cls = RX7 ∧ yX7_moveRule.cls ≠ "java/lang/invoke/MethodHandle" ∧ yX7_moveRule.cls ≠ "java/lang/invoke/VarHandle" ∧ (parseMethodDescriptor yX7_moveRule.desc).map (fun d => d.parameters.length) = some 2 := by decide +kernel
set_option maxHeartbeats 4000000 in
set_option maxRecDepth 100000 in
theorem c_X7_moveRule (cI cB : ClassId) (a : Nat → Nat) (g HB : Nat → Nat → Nat) (ts cs : List Int32) (S SS : Bk) (hn : Bool) (hs : List Bk) (ns xs : List Int32) (P e s d k : Int32) (T : T4) (D : Bk) (w : Sv) (i j : Int32)  : Ct cI cB yX7_moveRule wsX7_moveRule { frames := 6, cells := 0, slots := 0, locals := 142 } [.ref (a 0), .int i, .int j] [cM (a 0) (.inr (7, [.ref (a 1), .ref (a 3), .ref (a 5), .ref (a 7), .ref (g 0 0), .ref (g 1 0), .ref (g 2 0), .ref (g 3 0), .int (bI hn), .ref (a 10), .ref (g 4 0), .ref (g 5 0)])), rowM cI (a 1) (a 2) 60 ts, rowM cI (a 3) (a 4) 400 cs, rowM cI (a 5) (a 6) 400 ns, rdM (a 7) (a 8) (a 1) P e s d k, rowM cI (a 8) (a 9) 25 xs, spM cI (g 0) T, bookM cI (g 1) 30 20 S, bookM cI (g 2) 60 50 D, bookM cI (g 3) 30 20 SS, hiM cI cB (a 10) (a 11) HB hs, svM cI (g 4) (svy S), svM cI (g 5) w] (po cI cB a g HB (sMvR (ts, cs, S, SS, hn, hs) i j).1 (sMvR (ts, cs, S, SS, hn, hs) i j).2) := by
  refine ct_of (cc := cX7_moveRule) (maxL := 3) (ret := (some .int)) (by decide) rfl (Nat.le_of_ble_eq_true rfl) [(0, .ref (a 0)), (1, .int i), (2, .int j)] rfl ?_
  intro X hI hB K E
  subst hI
  subst hB
  have iX7 : ∀ w ∈ u_ws RX7 TX7 12, w ∈ wsX7_moveRule := by decide +kernel
  refine v_bfit 7 rfl (fun hb => ?_)
  have hR := bfit_r hb
  have hW := bfit_w hb
  refine v_aload_n K dX7_moveRule_0 rfl ?_
  refine v_get K 0 rfl hasF_c rfl iX7 5 (by decide) rfl (by decide +kernel) rfl dX7_moveRule_1 ?_
  refine v_iload_n K dX7_moveRule_4 rfl ?_
  refine v_callVi K [7] (c_X0_hasRule (XI X) (XB X) _ _ _ _ _ ) rfl gX7_moveRule_X0_hasRule rfl rfl hd_X0_hasRule ⟨rfl, rfl⟩ ⟨by decide, by decide⟩ 7 rfl bookF rfl (by decide) (Nat.le_of_ble_eq_true rfl) ⟨Nat.zero_le _, Nat.zero_le _⟩ rfl dX7_moveRule_5 ?_
  try dsimp only [Nat.reduceAdd, nf_rep1, nf_rep0, nf_d0, nf_t0, nf_s0, nf_ac, nf_an, nf_d1, nf_t1, nf_s1, nf_d2, nf_t2, nf_s2, nf_d3, nf_t3, nf_s3, nf_d4, nf_t4, nf_s4, nf_d5, nf_t5, nf_s5, nf_d6, nf_t6, nf_s6, nf_d7, nf_t7, nf_s7, nf_d8, nf_t8, nf_s8, nf_d9, nf_t9, nf_s9, nf_d10, nf_t10, nf_s10, nf_d11, nf_t11, nf_s11, nf_d12, nf_t12, nf_s12, nf_d13, nf_t13, nf_s13, nf_d14, nf_t14, nf_s14, nf_d15, nf_t15, nf_s15, nf_d16, nf_t16, nf_s16, nf_d17, nf_t17, nf_s17, nf_d18, nf_t18, nf_s18, nf_d19, nf_t19, nf_s19, nf_d20, nf_t20, nf_s20]
  refine v_if_ne K 13 dX7_moveRule_8 (by decide) (fun c8 => ?_) (fun c8 => ?_)
  · have hL := bI_1 c8
    obtain ⟨I, hI, rfl⟩ := hasL_of hR.1 hL
    refine v_aload_n K dX7_moveRule_13 rfl ?_
    refine v_get K 0 rfl hasF_c rfl iX7 5 (by decide) rfl (by decide +kernel) rfl dX7_moveRule_14 ?_
    refine v_iload_n K dX7_moveRule_17 rfl ?_
    refine v_callVi K [7] (c_X0_hasRule (XI X) (XB X) _ _ _ _ _ ) rfl gX7_moveRule_X0_hasRule rfl rfl hd_X0_hasRule ⟨rfl, rfl⟩ ⟨by decide, by decide⟩ 7 rfl bookF rfl (by decide) (Nat.le_of_ble_eq_true rfl) ⟨Nat.zero_le _, Nat.zero_le _⟩ rfl dX7_moveRule_18 ?_
    try dsimp only [Nat.reduceAdd, nf_rep1, nf_rep0, nf_d0, nf_t0, nf_s0, nf_ac, nf_an, nf_d1, nf_t1, nf_s1, nf_d2, nf_t2, nf_s2, nf_d3, nf_t3, nf_s3, nf_d4, nf_t4, nf_s4, nf_d5, nf_t5, nf_s5, nf_d6, nf_t6, nf_s6, nf_d7, nf_t7, nf_s7, nf_d8, nf_t8, nf_s8, nf_d9, nf_t9, nf_s9, nf_d10, nf_t10, nf_s10, nf_d11, nf_t11, nf_s11, nf_d12, nf_t12, nf_s12, nf_d13, nf_t13, nf_s13, nf_d14, nf_t14, nf_s14, nf_d15, nf_t15, nf_s15, nf_d16, nf_t16, nf_s16, nf_d17, nf_t17, nf_s17, nf_d18, nf_t18, nf_s18, nf_d19, nf_t19, nf_s19, nf_d20, nf_t20, nf_s20]
    refine v_if_ne K 27 dX7_moveRule_21 (by decide) (fun c21 => ?_) (fun c21 => ?_)
    · have hL2 := bI_1 c21
      obtain ⟨J, hJ, rfl⟩ := hasL_of hR.1 hL2
      refine v_iload_n K dX7_moveRule_27 rfl ?_
      refine v_iload_n K dX7_moveRule_28 rfl ?_
      refine v_ic_ne K 35 dX7_moveRule_29 (by decide) (fun c29 => ?_) (fun c29 => ?_)
      · refine v_aload_n K dX7_moveRule_35 rfl ?_
        refine v_get K 0 rfl hasF_c rfl iX7 9 (by decide) rfl (by decide +kernel) rfl dX7_moveRule_36 ?_
        refine v_aload_n K dX7_moveRule_39 rfl ?_
        refine v_get K 0 rfl hasF_c rfl iX7 5 (by decide) rfl (by decide +kernel) rfl dX7_moveRule_40 ?_
        refine v_callVv K [10, 7] (c_X1_record (XI X) (XB X) _ _ _ _ _ _ _ _ ) rfl gX7_moveRule_X1_record rfl rfl hd_X1_record ⟨rfl, rfl⟩ ⟨by decide, by decide⟩ 10 rfl hiF rfl (by decide) (Nat.le_of_ble_eq_true rfl) ⟨Nat.zero_le _, Nat.zero_le _⟩ rfl dX7_moveRule_43 ?_
        try dsimp only [Nat.reduceAdd, nf_rep1, nf_rep0, nf_d0, nf_t0, nf_s0, nf_ac, nf_an, nf_d1, nf_t1, nf_s1, nf_d2, nf_t2, nf_s2, nf_d3, nf_t3, nf_s3, nf_d4, nf_t4, nf_s4, nf_d5, nf_t5, nf_s5, nf_d6, nf_t6, nf_s6, nf_d7, nf_t7, nf_s7, nf_d8, nf_t8, nf_s8, nf_d9, nf_t9, nf_s9, nf_d10, nf_t10, nf_s10, nf_d11, nf_t11, nf_s11, nf_d12, nf_t12, nf_s12, nf_d13, nf_t13, nf_s13, nf_d14, nf_t14, nf_s14, nf_d15, nf_t15, nf_s15, nf_d16, nf_t16, nf_s16, nf_d17, nf_t17, nf_s17, nf_d18, nf_t18, nf_s18, nf_d19, nf_t19, nf_s19, nf_d20, nf_t20, nf_s20]
        refine v_aload_n K dX7_moveRule_46 rfl ?_
        refine v_get K 0 rfl hasF_c rfl iX7 11 (by decide) rfl (by decide +kernel) rfl dX7_moveRule_47 ?_
        refine v_aload_n K dX7_moveRule_50 rfl ?_
        refine v_get K 0 rfl hasF_c rfl iX7 5 (by decide) rfl (by decide +kernel) rfl dX7_moveRule_51 ?_
        refine v_callVv K [12, 7] (c_X6_renew (XI X) (XB X) _ _ _ _ _ _ ) rfl gX7_moveRule_X6_renew rfl rfl hd_X6_renew ⟨rfl, rfl⟩ ⟨by decide, by decide⟩ 12 rfl svF rfl (by decide) (Nat.le_of_ble_eq_true rfl) ⟨Nat.zero_le _, Nat.zero_le _⟩ rfl dX7_moveRule_54 ?_
        try dsimp only [Nat.reduceAdd, nf_rep1, nf_rep0, nf_d0, nf_t0, nf_s0, nf_ac, nf_an, nf_d1, nf_t1, nf_s1, nf_d2, nf_t2, nf_s2, nf_d3, nf_t3, nf_s3, nf_d4, nf_t4, nf_s4, nf_d5, nf_t5, nf_s5, nf_d6, nf_t6, nf_s6, nf_d7, nf_t7, nf_s7, nf_d8, nf_t8, nf_s8, nf_d9, nf_t9, nf_s9, nf_d10, nf_t10, nf_s10, nf_d11, nf_t11, nf_s11, nf_d12, nf_t12, nf_s12, nf_d13, nf_t13, nf_s13, nf_d14, nf_t14, nf_s14, nf_d15, nf_t15, nf_s15, nf_d16, nf_t16, nf_s16, nf_d17, nf_t17, nf_s17, nf_d18, nf_t18, nf_s18, nf_d19, nf_t19, nf_s19, nf_d20, nf_t20, nf_s20]
        refine v_aload_n K dX7_moveRule_57 rfl ?_
        refine v_get K 0 rfl hasF_c rfl iX7 5 (by decide) rfl (by decide +kernel) rfl dX7_moveRule_58 ?_
        refine v_iload_n K dX7_moveRule_61 rfl ?_
        refine v_iload_n K dX7_moveRule_62 rfl ?_
        refine v_callVv K [7] (c_X0_shiftRule (XI X) (XB X) _ _ _ _ _ _ ?hc63_0_5 ?hc63_1_5 ?hc63_2_5 ?hc63_3_5) rfl gX7_moveRule_X0_shiftRule rfl rfl hd_X0_shiftRule ⟨rfl, rfl⟩ ⟨by decide, by decide⟩ 7 rfl bookF rfl (by decide) (Nat.le_of_ble_eq_true rfl) ⟨Nat.zero_le _, Nat.zero_le _⟩ rfl dX7_moveRule_63 ?_
        case hc63_0_5 => exact hI
        case hc63_1_5 => exact hJ
        case hc63_2_5 => omega
        case hc63_3_5 => omega
        try dsimp only [Nat.reduceAdd, nf_rep1, nf_rep0, nf_d0, nf_t0, nf_s0, nf_ac, nf_an, nf_d1, nf_t1, nf_s1, nf_d2, nf_t2, nf_s2, nf_d3, nf_t3, nf_s3, nf_d4, nf_t4, nf_s4, nf_d5, nf_t5, nf_s5, nf_d6, nf_t6, nf_s6, nf_d7, nf_t7, nf_s7, nf_d8, nf_t8, nf_s8, nf_d9, nf_t9, nf_s9, nf_d10, nf_t10, nf_s10, nf_d11, nf_t11, nf_s11, nf_d12, nf_t12, nf_s12, nf_d13, nf_t13, nf_s13, nf_d14, nf_t14, nf_s14, nf_d15, nf_t15, nf_s15, nf_d16, nf_t16, nf_s16, nf_d17, nf_t17, nf_s17, nf_d18, nf_t18, nf_s18, nf_d19, nf_t19, nf_s19, nf_d20, nf_t20, nf_s20]
        refine v_aload_n K dX7_moveRule_66 rfl ?_
        refine v_get K 0 rfl hasF_c rfl iX7 10 (by decide) rfl (by decide +kernel) rfl dX7_moveRule_67 ?_
        refine v_aload_n K dX7_moveRule_70 rfl ?_
        refine v_get K 0 rfl hasF_c rfl iX7 5 (by decide) rfl (by decide +kernel) rfl dX7_moveRule_71 ?_
        refine v_callVv K [11, 7] (c_X6_renew (XI X) (XB X) _ _ _ _ _ _ ) rfl gX7_moveRule_X6_renew rfl rfl hd_X6_renew ⟨rfl, rfl⟩ ⟨by decide, by decide⟩ 11 rfl svF rfl (by decide) (Nat.le_of_ble_eq_true rfl) ⟨Nat.zero_le _, Nat.zero_le _⟩ rfl dX7_moveRule_74 ?_
        try dsimp only [Nat.reduceAdd, nf_rep1, nf_rep0, nf_d0, nf_t0, nf_s0, nf_ac, nf_an, nf_d1, nf_t1, nf_s1, nf_d2, nf_t2, nf_s2, nf_d3, nf_t3, nf_s3, nf_d4, nf_t4, nf_s4, nf_d5, nf_t5, nf_s5, nf_d6, nf_t6, nf_s6, nf_d7, nf_t7, nf_s7, nf_d8, nf_t8, nf_s8, nf_d9, nf_t9, nf_s9, nf_d10, nf_t10, nf_s10, nf_d11, nf_t11, nf_s11, nf_d12, nf_t12, nf_s12, nf_d13, nf_t13, nf_s13, nf_d14, nf_t14, nf_s14, nf_d15, nf_t15, nf_s15, nf_d16, nf_t16, nf_s16, nf_d17, nf_t17, nf_s17, nf_d18, nf_t18, nf_s18, nf_d19, nf_t19, nf_s19, nf_d20, nf_t20, nf_s20]
        refine v_aload_n K dX7_moveRule_77 rfl ?_
        refine v_get K 0 rfl hasF_c rfl iX7 10 (by decide) rfl (by decide +kernel) rfl dX7_moveRule_78 ?_
        refine v_aload_n K dX7_moveRule_81 rfl ?_
        refine v_get K 0 rfl hasF_c rfl iX7 11 (by decide) rfl (by decide +kernel) rfl dX7_moveRule_82 ?_
        refine v_callVi K [11, 12] (c_X6_differences (XI X) (XB X) _ _ _ _ ?hc85_0_7) rfl gX7_moveRule_X6_differences rfl rfl hd_X6_differences ⟨rfl, rfl⟩ ⟨by decide, by decide⟩ 11 rfl svF rfl (by decide) (Nat.le_of_ble_eq_true rfl) ⟨Nat.zero_le _, Nat.zero_le _⟩ rfl dX7_moveRule_85 ?_
        case hc85_0_7 => rw [svy_len hW.2, svy_len (show (shiftR S I J).2.2.2.2.1.length ≤ 20 from hW.2)]; rfl
        try dsimp only [Nat.reduceAdd, nf_rep1, nf_rep0, nf_d0, nf_t0, nf_s0, nf_ac, nf_an, nf_d1, nf_t1, nf_s1, nf_d2, nf_t2, nf_s2, nf_d3, nf_t3, nf_s3, nf_d4, nf_t4, nf_s4, nf_d5, nf_t5, nf_s5, nf_d6, nf_t6, nf_s6, nf_d7, nf_t7, nf_s7, nf_d8, nf_t8, nf_s8, nf_d9, nf_t9, nf_s9, nf_d10, nf_t10, nf_s10, nf_d11, nf_t11, nf_s11, nf_d12, nf_t12, nf_s12, nf_d13, nf_t13, nf_s13, nf_d14, nf_t14, nf_s14, nf_d15, nf_t15, nf_s15, nf_d16, nf_t16, nf_s16, nf_d17, nf_t17, nf_s17, nf_d18, nf_t18, nf_s18, nf_d19, nf_t19, nf_s19, nf_d20, nf_t20, nf_s20]
        refine v_iret K E dX7_moveRule_88 ?_ (by (simp only [nf_rep1, nf_rep0, nf_d0, nf_t0, nf_s0, nf_ac, nf_an, List.map_cons, List.map_nil, cM_1, rowM_1, rowsM_1, rdM_1, spM_1, bookM_1, svM_1, hiM_1]))
        rw [show sMvR (ts, cs, S, SS, hn, hs) (nI I) (nI J) = _ by unfold sMvR; rw [if_pos hL, if_pos hL2, if_neg c29, nI_clamp (by omega), nI_clamp (by omega)]]
        exact ⟨rfl, (_, _, (_, _, _, _, _), _, _, _), rfl⟩
      · refine v_bipush K (-5) dX7_moveRule_32 (by decide) ?_
        refine v_iret K E dX7_moveRule_34 ?_ (by (simp only [nf_rep1, nf_rep0, nf_d0, nf_t0, nf_s0, nf_ac, nf_an, List.map_cons, List.map_nil, cM_1, rowM_1, rowsM_1, rdM_1, spM_1, bookM_1, svM_1, hiM_1]))
        rw [show sMvR (ts, cs, S, SS, hn, hs) (nI I) (nI J) = _ by unfold sMvR; rw [if_pos hL, if_pos hL2, if_pos c29]]
        exact ⟨rfl, (_, _, (_, _, _, _, _), _, _, _), rfl⟩
    · refine v_bipush K (-2) dX7_moveRule_24 (by decide) ?_
      refine v_iret K E dX7_moveRule_26 ?_ (by (simp only [nf_rep1, nf_rep0, nf_d0, nf_t0, nf_s0, nf_ac, nf_an, List.map_cons, List.map_nil, cM_1, rowM_1, rowsM_1, rdM_1, spM_1, bookM_1, svM_1, hiM_1]))
      rw [show sMvR (ts, cs, S, SS, hn, hs) (nI I) j = _ by unfold sMvR; rw [if_pos hL, if_neg (by rw [bI_0 c21]; exact Bool.false_ne_true)]]
      exact ⟨rfl, (_, _, (_, _, _, _, _), _, _, _), rfl⟩
  · refine v_iconst K (-1) dX7_moveRule_11 (by decide) ?_
    refine v_iret K E dX7_moveRule_12 ?_ (by (simp only [nf_rep1, nf_rep0, nf_d0, nf_t0, nf_s0, nf_ac, nf_an, List.map_cons, List.map_nil, cM_1, rowM_1, rowsM_1, rdM_1, spM_1, bookM_1, svM_1, hiM_1]))
    rw [show sMvR (ts, cs, S, SS, hn, hs) i j = _ by unfold sMvR; rw [if_neg (by rw [bI_0 c8]; exact Bool.false_ne_true)]]
    exact ⟨rfl, (_, _, (_, _, _, _, _), _, _, _), rfl⟩

theorem hd_X7_removeWord : yX7_removeWord.cls = RX7 ∧ yX7_removeWord.cls ≠ "java/lang/invoke/MethodHandle" ∧ yX7_removeWord.cls ≠ "java/lang/invoke/VarHandle" ∧ (parseMethodDescriptor yX7_removeWord.desc).map (fun d => d.parameters.length) = some 1 := by decide +kernel
set_option maxHeartbeats 4000000 in
set_option maxRecDepth 100000 in
theorem c_X7_removeWord (cI cB : ClassId) (a : Nat → Nat) (g HB : Nat → Nat → Nat) (ts cs : List Int32) (S SS : Bk) (hn : Bool) (hs : List Bk) (ns xs : List Int32) (P e s d k : Int32) (T : T4) (D : Bk) (w : Sv) (i : Int32)  : Ct cI cB yX7_removeWord wsX7_removeWord { frames := 6, cells := 0, slots := 0, locals := 142 } [.ref (a 0), .int i] [cM (a 0) (.inr (7, [.ref (a 1), .ref (a 3), .ref (a 5), .ref (a 7), .ref (g 0 0), .ref (g 1 0), .ref (g 2 0), .ref (g 3 0), .int (bI hn), .ref (a 10), .ref (g 4 0), .ref (g 5 0)])), rowM cI (a 1) (a 2) 60 ts, rowM cI (a 3) (a 4) 400 cs, rowM cI (a 5) (a 6) 400 ns, rdM (a 7) (a 8) (a 1) P e s d k, rowM cI (a 8) (a 9) 25 xs, spM cI (g 0) T, bookM cI (g 1) 30 20 S, bookM cI (g 2) 60 50 D, bookM cI (g 3) 30 20 SS, hiM cI cB (a 10) (a 11) HB hs, svM cI (g 4) (svy S), svM cI (g 5) w] (po cI cB a g HB (sRmW (ts, cs, S, SS, hn, hs) i).1 (sRmW (ts, cs, S, SS, hn, hs) i).2) := by
  refine ct_of (cc := cX7_removeWord) (maxL := 2) (ret := (some .int)) (by decide) rfl (Nat.le_of_ble_eq_true rfl) [(0, .ref (a 0)), (1, .int i)] rfl ?_
  intro X hI hB K E
  subst hI
  subst hB
  have iX7 : ∀ w ∈ u_ws RX7 TX7 12, w ∈ wsX7_removeWord := by decide +kernel
  refine v_bfit 7 rfl (fun hb => ?_)
  have hR := bfit_r hb
  have hW := bfit_w hb
  refine v_aload_n K dX7_removeWord_0 rfl ?_
  refine v_get K 0 rfl hasF_c rfl iX7 5 (by decide) rfl (by decide +kernel) rfl dX7_removeWord_1 ?_
  refine v_iload_n K dX7_removeWord_4 rfl ?_
  refine v_callVi K [7] (c_X0_hasWord (XI X) (XB X) _ _ _ _ _ ) rfl gX7_removeWord_X0_hasWord rfl rfl hd_X0_hasWord ⟨rfl, rfl⟩ ⟨by decide, by decide⟩ 7 rfl bookF rfl (by decide) (Nat.le_of_ble_eq_true rfl) ⟨Nat.zero_le _, Nat.zero_le _⟩ rfl dX7_removeWord_5 ?_
  try dsimp only [Nat.reduceAdd, nf_rep1, nf_rep0, nf_d0, nf_t0, nf_s0, nf_ac, nf_an, nf_d1, nf_t1, nf_s1, nf_d2, nf_t2, nf_s2, nf_d3, nf_t3, nf_s3, nf_d4, nf_t4, nf_s4, nf_d5, nf_t5, nf_s5, nf_d6, nf_t6, nf_s6, nf_d7, nf_t7, nf_s7, nf_d8, nf_t8, nf_s8, nf_d9, nf_t9, nf_s9, nf_d10, nf_t10, nf_s10, nf_d11, nf_t11, nf_s11, nf_d12, nf_t12, nf_s12, nf_d13, nf_t13, nf_s13, nf_d14, nf_t14, nf_s14, nf_d15, nf_t15, nf_s15, nf_d16, nf_t16, nf_s16, nf_d17, nf_t17, nf_s17, nf_d18, nf_t18, nf_s18, nf_d19, nf_t19, nf_s19, nf_d20, nf_t20, nf_s20]
  refine v_if_ne K 13 dX7_removeWord_8 (by decide) (fun c8 => ?_) (fun c8 => ?_)
  · have hL := bI_1 c8
    obtain ⟨I, hI, rfl⟩ := hasL_of hW.1 hL
    refine v_aload_n K dX7_removeWord_13 rfl ?_
    refine v_get K 0 rfl hasF_c rfl iX7 9 (by decide) rfl (by decide +kernel) rfl dX7_removeWord_14 ?_
    refine v_aload_n K dX7_removeWord_17 rfl ?_
    refine v_get K 0 rfl hasF_c rfl iX7 5 (by decide) rfl (by decide +kernel) rfl dX7_removeWord_18 ?_
    refine v_callVv K [10, 7] (c_X1_record (XI X) (XB X) _ _ _ _ _ _ _ _ ) rfl gX7_removeWord_X1_record rfl rfl hd_X1_record ⟨rfl, rfl⟩ ⟨by decide, by decide⟩ 10 rfl hiF rfl (by decide) (Nat.le_of_ble_eq_true rfl) ⟨Nat.zero_le _, Nat.zero_le _⟩ rfl dX7_removeWord_21 ?_
    try dsimp only [Nat.reduceAdd, nf_rep1, nf_rep0, nf_d0, nf_t0, nf_s0, nf_ac, nf_an, nf_d1, nf_t1, nf_s1, nf_d2, nf_t2, nf_s2, nf_d3, nf_t3, nf_s3, nf_d4, nf_t4, nf_s4, nf_d5, nf_t5, nf_s5, nf_d6, nf_t6, nf_s6, nf_d7, nf_t7, nf_s7, nf_d8, nf_t8, nf_s8, nf_d9, nf_t9, nf_s9, nf_d10, nf_t10, nf_s10, nf_d11, nf_t11, nf_s11, nf_d12, nf_t12, nf_s12, nf_d13, nf_t13, nf_s13, nf_d14, nf_t14, nf_s14, nf_d15, nf_t15, nf_s15, nf_d16, nf_t16, nf_s16, nf_d17, nf_t17, nf_s17, nf_d18, nf_t18, nf_s18, nf_d19, nf_t19, nf_s19, nf_d20, nf_t20, nf_s20]
    refine v_aload_n K dX7_removeWord_24 rfl ?_
    refine v_get K 0 rfl hasF_c rfl iX7 5 (by decide) rfl (by decide +kernel) rfl dX7_removeWord_25 ?_
    refine v_iload_n K dX7_removeWord_28 rfl ?_
    refine v_callVv K [7] (c_X0_dropWord (XI X) (XB X) _ _ _ _ _ ?hc29_0_3 ?hc29_1_3) rfl gX7_removeWord_X0_dropWord rfl rfl hd_X0_dropWord ⟨rfl, rfl⟩ ⟨by decide, by decide⟩ 7 rfl bookF rfl (by decide) (Nat.le_of_ble_eq_true rfl) ⟨Nat.zero_le _, Nat.zero_le _⟩ rfl dX7_removeWord_29 ?_
    case hc29_0_3 => exact hI
    case hc29_1_3 => omega
    try dsimp only [Nat.reduceAdd, nf_rep1, nf_rep0, nf_d0, nf_t0, nf_s0, nf_ac, nf_an, nf_d1, nf_t1, nf_s1, nf_d2, nf_t2, nf_s2, nf_d3, nf_t3, nf_s3, nf_d4, nf_t4, nf_s4, nf_d5, nf_t5, nf_s5, nf_d6, nf_t6, nf_s6, nf_d7, nf_t7, nf_s7, nf_d8, nf_t8, nf_s8, nf_d9, nf_t9, nf_s9, nf_d10, nf_t10, nf_s10, nf_d11, nf_t11, nf_s11, nf_d12, nf_t12, nf_s12, nf_d13, nf_t13, nf_s13, nf_d14, nf_t14, nf_s14, nf_d15, nf_t15, nf_s15, nf_d16, nf_t16, nf_s16, nf_d17, nf_t17, nf_s17, nf_d18, nf_t18, nf_s18, nf_d19, nf_t19, nf_s19, nf_d20, nf_t20, nf_s20]
    refine v_aload_n K dX7_removeWord_32 rfl ?_
    refine v_get K 0 rfl hasF_c rfl iX7 10 (by decide) rfl (by decide +kernel) rfl dX7_removeWord_33 ?_
    refine v_aload_n K dX7_removeWord_36 rfl ?_
    refine v_get K 0 rfl hasF_c rfl iX7 5 (by decide) rfl (by decide +kernel) rfl dX7_removeWord_37 ?_
    refine v_callVv K [11, 7] (c_X6_renew (XI X) (XB X) _ _ _ _ _ _ ) rfl gX7_removeWord_X6_renew rfl rfl hd_X6_renew ⟨rfl, rfl⟩ ⟨by decide, by decide⟩ 11 rfl svF rfl (by decide) (Nat.le_of_ble_eq_true rfl) ⟨Nat.zero_le _, Nat.zero_le _⟩ rfl dX7_removeWord_40 ?_
    try dsimp only [Nat.reduceAdd, nf_rep1, nf_rep0, nf_d0, nf_t0, nf_s0, nf_ac, nf_an, nf_d1, nf_t1, nf_s1, nf_d2, nf_t2, nf_s2, nf_d3, nf_t3, nf_s3, nf_d4, nf_t4, nf_s4, nf_d5, nf_t5, nf_s5, nf_d6, nf_t6, nf_s6, nf_d7, nf_t7, nf_s7, nf_d8, nf_t8, nf_s8, nf_d9, nf_t9, nf_s9, nf_d10, nf_t10, nf_s10, nf_d11, nf_t11, nf_s11, nf_d12, nf_t12, nf_s12, nf_d13, nf_t13, nf_s13, nf_d14, nf_t14, nf_s14, nf_d15, nf_t15, nf_s15, nf_d16, nf_t16, nf_s16, nf_d17, nf_t17, nf_s17, nf_d18, nf_t18, nf_s18, nf_d19, nf_t19, nf_s19, nf_d20, nf_t20, nf_s20]
    refine v_aload_n K dX7_removeWord_43 rfl ?_
    refine v_get K 0 rfl hasF_c rfl iX7 5 (by decide) rfl (by decide +kernel) rfl dX7_removeWord_44 ?_
    refine v_callVi K [7] (c_X0_words (XI X) (XB X) _ _ _ _ ) rfl gX7_removeWord_X0_words rfl rfl hd_X0_words ⟨rfl, rfl⟩ ⟨by decide, by decide⟩ 7 rfl bookF rfl (by decide) (Nat.le_of_ble_eq_true rfl) ⟨Nat.zero_le _, Nat.zero_le _⟩ rfl dX7_removeWord_47 ?_
    try dsimp only [Nat.reduceAdd, nf_rep1, nf_rep0, nf_d0, nf_t0, nf_s0, nf_ac, nf_an, nf_d1, nf_t1, nf_s1, nf_d2, nf_t2, nf_s2, nf_d3, nf_t3, nf_s3, nf_d4, nf_t4, nf_s4, nf_d5, nf_t5, nf_s5, nf_d6, nf_t6, nf_s6, nf_d7, nf_t7, nf_s7, nf_d8, nf_t8, nf_s8, nf_d9, nf_t9, nf_s9, nf_d10, nf_t10, nf_s10, nf_d11, nf_t11, nf_s11, nf_d12, nf_t12, nf_s12, nf_d13, nf_t13, nf_s13, nf_d14, nf_t14, nf_s14, nf_d15, nf_t15, nf_s15, nf_d16, nf_t16, nf_s16, nf_d17, nf_t17, nf_s17, nf_d18, nf_t18, nf_s18, nf_d19, nf_t19, nf_s19, nf_d20, nf_t20, nf_s20]
    refine v_iret K E dX7_removeWord_50 ?_ (by (simp only [nf_rep1, nf_rep0, nf_d0, nf_t0, nf_s0, nf_ac, nf_an, List.map_cons, List.map_nil, cM_1, rowM_1, rowsM_1, rdM_1, spM_1, bookM_1, svM_1, hiM_1]))
    rw [show sRmW (ts, cs, S, SS, hn, hs) (nI I) = _ by unfold sRmW; rw [if_pos hL, nI_clamp (by omega)]]
    exact ⟨rfl, (_, _, (_, _, _, _, _), _, _, _), rfl⟩
  · refine v_iconst K (-1) dX7_removeWord_11 (by decide) ?_
    refine v_iret K E dX7_removeWord_12 ?_ (by (simp only [nf_rep1, nf_rep0, nf_d0, nf_t0, nf_s0, nf_ac, nf_an, List.map_cons, List.map_nil, cM_1, rowM_1, rowsM_1, rdM_1, spM_1, bookM_1, svM_1, hiM_1]))
    rw [show sRmW (ts, cs, S, SS, hn, hs) i = _ by unfold sRmW; rw [if_neg (by rw [bI_0 c8]; exact Bool.false_ne_true)]]
    exact ⟨rfl, (_, _, (_, _, _, _, _), _, _, _), rfl⟩

theorem hd_X7_setKind : yX7_setKind.cls = RX7 ∧ yX7_setKind.cls ≠ "java/lang/invoke/MethodHandle" ∧ yX7_setKind.cls ≠ "java/lang/invoke/VarHandle" ∧ (parseMethodDescriptor yX7_setKind.desc).map (fun d => d.parameters.length) = some 2 := by decide +kernel
set_option maxHeartbeats 4000000 in
set_option maxRecDepth 100000 in
theorem c_X7_setKind (cI cB : ClassId) (a : Nat → Nat) (g HB : Nat → Nat → Nat) (ts cs : List Int32) (S SS : Bk) (hn : Bool) (hs : List Bk) (ns xs : List Int32) (P e s d k : Int32) (T : T4) (D : Bk) (w : Sv) (i kd : Int32)  : Ct cI cB yX7_setKind wsX7_setKind { frames := 6, cells := 0, slots := 0, locals := 142 } [.ref (a 0), .int i, .int kd] [cM (a 0) (.inr (7, [.ref (a 1), .ref (a 3), .ref (a 5), .ref (a 7), .ref (g 0 0), .ref (g 1 0), .ref (g 2 0), .ref (g 3 0), .int (bI hn), .ref (a 10), .ref (g 4 0), .ref (g 5 0)])), rowM cI (a 1) (a 2) 60 ts, rowM cI (a 3) (a 4) 400 cs, rowM cI (a 5) (a 6) 400 ns, rdM (a 7) (a 8) (a 1) P e s d k, rowM cI (a 8) (a 9) 25 xs, spM cI (g 0) T, bookM cI (g 1) 30 20 S, bookM cI (g 2) 60 50 D, bookM cI (g 3) 30 20 SS, hiM cI cB (a 10) (a 11) HB hs, svM cI (g 4) (svy S), svM cI (g 5) w] (po cI cB a g HB (sKind (ts, cs, S, SS, hn, hs) i kd).1 (sKind (ts, cs, S, SS, hn, hs) i kd).2) := by
  refine ct_of (cc := cX7_setKind) (maxL := 4) (ret := (some .int)) (by decide) rfl (Nat.le_of_ble_eq_true rfl) [(0, .ref (a 0)), (1, .int i), (2, .int kd)] rfl ?_
  intro X hI hB K E
  subst hI
  subst hB
  have iX0 : ∀ w ∈ u_ws RX0 TX0 6, w ∈ wsX7_setKind := by decide +kernel
  have iX7 : ∀ w ∈ u_ws RX7 TX7 12, w ∈ wsX7_setKind := by decide +kernel
  refine v_aload_n K dX7_setKind_0 rfl ?_
  refine v_get K 0 rfl hasF_c rfl iX7 5 (by decide) rfl (by decide +kernel) rfl dX7_setKind_1 ?_
  refine v_iload_n K dX7_setKind_4 rfl ?_
  refine v_callVi K [7] (c_X0_hasWord (XI X) (XB X) _ _ _ _ _ ) rfl gX7_setKind_X0_hasWord rfl rfl hd_X0_hasWord ⟨rfl, rfl⟩ ⟨by decide, by decide⟩ 7 rfl bookF rfl (by decide) (Nat.le_of_ble_eq_true rfl) ⟨Nat.zero_le _, Nat.zero_le _⟩ rfl dX7_setKind_5 ?_
  try dsimp only [Nat.reduceAdd, nf_rep1, nf_rep0, nf_d0, nf_t0, nf_s0, nf_ac, nf_an, nf_d1, nf_t1, nf_s1, nf_d2, nf_t2, nf_s2, nf_d3, nf_t3, nf_s3, nf_d4, nf_t4, nf_s4, nf_d5, nf_t5, nf_s5, nf_d6, nf_t6, nf_s6, nf_d7, nf_t7, nf_s7, nf_d8, nf_t8, nf_s8, nf_d9, nf_t9, nf_s9, nf_d10, nf_t10, nf_s10, nf_d11, nf_t11, nf_s11, nf_d12, nf_t12, nf_s12, nf_d13, nf_t13, nf_s13, nf_d14, nf_t14, nf_s14, nf_d15, nf_t15, nf_s15, nf_d16, nf_t16, nf_s16, nf_d17, nf_t17, nf_s17, nf_d18, nf_t18, nf_s18, nf_d19, nf_t19, nf_s19, nf_d20, nf_t20, nf_s20]
  refine v_if_ne K 13 dX7_setKind_8 (by decide) (fun c8 => ?_) (fun c8 => ?_)
  · have hL := bI_1 c8
    refine v_iload_n K dX7_setKind_13 rfl ?_
    refine v_if_lt K 22 dX7_setKind_14 (by decide) (fun c14 => ?_) (fun c14 => ?_)
    · refine v_bipush K (-2) dX7_setKind_22 (by decide) ?_
      refine v_iret K E dX7_setKind_24 ?_ (by (simp only [nf_rep1, nf_rep0, nf_d0, nf_t0, nf_s0, nf_ac, nf_an, List.map_cons, List.map_nil, cM_1, rowM_1, rowsM_1, rdM_1, spM_1, bookM_1, svM_1, hiM_1]))
      rw [show sKind (ts, cs, S, SS, hn, hs) i kd = _ by unfold sKind; rw [if_pos hL, if_pos c14]]
      exact ⟨rfl, (_, _, (_, _, _, _, _), _, _, _), rfl⟩
    · refine v_iload_n K dX7_setKind_17 rfl ?_
      refine v_iconst K (2) dX7_setKind_18 (by decide) ?_
      refine v_ic_le K 25 dX7_setKind_19 (by decide) (fun c19 => ?_) (fun c19 => ?_)
      · refine v_aload_n K dX7_setKind_25 rfl ?_
        refine v_get K 0 rfl hasF_c rfl iX7 5 (by decide) rfl (by decide +kernel) rfl dX7_setKind_26 ?_
        refine v_obook 7 rfl ?_
        try dsimp only [Nat.reduceAdd, nf_rep1, nf_rep0, nf_d0, nf_t0, nf_s0, nf_ac, nf_an, nf_d1, nf_t1, nf_s1, nf_d2, nf_t2, nf_s2, nf_d3, nf_t3, nf_s3, nf_d4, nf_t4, nf_s4, nf_d5, nf_t5, nf_s5, nf_d6, nf_t6, nf_s6, nf_d7, nf_t7, nf_s7, nf_d8, nf_t8, nf_s8, nf_d9, nf_t9, nf_s9, nf_d10, nf_t10, nf_s10, nf_d11, nf_t11, nf_s11, nf_d12, nf_t12, nf_s12, nf_d13, nf_t13, nf_s13, nf_d14, nf_t14, nf_s14, nf_d15, nf_t15, nf_s15, nf_d16, nf_t16, nf_s16, nf_d17, nf_t17, nf_s17, nf_d18, nf_t18, nf_s18, nf_d19, nf_t19, nf_s19, nf_d20, nf_t20, nf_s20]
        refine v_get K 7 rfl hasF_c rfl iX0 5 (by decide) rfl (by decide +kernel) rfl dX7_setKind_29 ?_
        refine v_iload_n K dX7_setKind_32 rfl ?_
        refine v_callVi K [13] (c_X3_get (XI X) (XB X) _ _ _ _ _ ) rfl gX7_setKind_X3_get rfl rfl hd_X3_get ⟨rfl, rfl⟩ ⟨by decide, by decide⟩ 13 rfl rowF rfl (by decide) (Nat.le_of_ble_eq_true rfl) ⟨Nat.zero_le _, Nat.zero_le _⟩ rfl dX7_setKind_33 ?_
        try dsimp only [Nat.reduceAdd, nf_rep1, nf_rep0, nf_d0, nf_t0, nf_s0, nf_ac, nf_an, nf_d1, nf_t1, nf_s1, nf_d2, nf_t2, nf_s2, nf_d3, nf_t3, nf_s3, nf_d4, nf_t4, nf_s4, nf_d5, nf_t5, nf_s5, nf_d6, nf_t6, nf_s6, nf_d7, nf_t7, nf_s7, nf_d8, nf_t8, nf_s8, nf_d9, nf_t9, nf_s9, nf_d10, nf_t10, nf_s10, nf_d11, nf_t11, nf_s11, nf_d12, nf_t12, nf_s12, nf_d13, nf_t13, nf_s13, nf_d14, nf_t14, nf_s14, nf_d15, nf_t15, nf_s15, nf_d16, nf_t16, nf_s16, nf_d17, nf_t17, nf_s17, nf_d18, nf_t18, nf_s18, nf_d19, nf_t19, nf_s19, nf_d20, nf_t20, nf_s20]
        refine v_cbook  7 rfl ?_
        try dsimp only [Nat.reduceAdd, nf_rep1, nf_rep0, nf_d0, nf_t0, nf_s0, nf_ac, nf_an, nf_d1, nf_t1, nf_s1, nf_d2, nf_t2, nf_s2, nf_d3, nf_t3, nf_s3, nf_d4, nf_t4, nf_s4, nf_d5, nf_t5, nf_s5, nf_d6, nf_t6, nf_s6, nf_d7, nf_t7, nf_s7, nf_d8, nf_t8, nf_s8, nf_d9, nf_t9, nf_s9, nf_d10, nf_t10, nf_s10, nf_d11, nf_t11, nf_s11, nf_d12, nf_t12, nf_s12, nf_d13, nf_t13, nf_s13, nf_d14, nf_t14, nf_s14, nf_d15, nf_t15, nf_s15, nf_d16, nf_t16, nf_s16, nf_d17, nf_t17, nf_s17, nf_d18, nf_t18, nf_s18, nf_d19, nf_t19, nf_s19, nf_d20, nf_t20, nf_s20]
        refine v_istore_n K dX7_setKind_36 (by decide) ?_
        refine v_iload_n K dX7_setKind_37 rfl ?_
        refine v_iload_n K dX7_setKind_38 rfl ?_
        refine v_ic_ne K 45 dX7_setKind_39 (by decide) (fun c39 => ?_) (fun c39 => ?_)
        · refine v_aload_n K dX7_setKind_45 rfl ?_
          refine v_get K 0 rfl hasF_c rfl iX7 9 (by decide) rfl (by decide +kernel) rfl dX7_setKind_46 ?_
          refine v_aload_n K dX7_setKind_49 rfl ?_
          refine v_get K 0 rfl hasF_c rfl iX7 5 (by decide) rfl (by decide +kernel) rfl dX7_setKind_50 ?_
          refine v_callVv K [10, 7] (c_X1_record (XI X) (XB X) _ _ _ _ _ _ _ _ ) rfl gX7_setKind_X1_record rfl rfl hd_X1_record ⟨rfl, rfl⟩ ⟨by decide, by decide⟩ 10 rfl hiF rfl (by decide) (Nat.le_of_ble_eq_true rfl) ⟨Nat.zero_le _, Nat.zero_le _⟩ rfl dX7_setKind_53 ?_
          try dsimp only [Nat.reduceAdd, nf_rep1, nf_rep0, nf_d0, nf_t0, nf_s0, nf_ac, nf_an, nf_d1, nf_t1, nf_s1, nf_d2, nf_t2, nf_s2, nf_d3, nf_t3, nf_s3, nf_d4, nf_t4, nf_s4, nf_d5, nf_t5, nf_s5, nf_d6, nf_t6, nf_s6, nf_d7, nf_t7, nf_s7, nf_d8, nf_t8, nf_s8, nf_d9, nf_t9, nf_s9, nf_d10, nf_t10, nf_s10, nf_d11, nf_t11, nf_s11, nf_d12, nf_t12, nf_s12, nf_d13, nf_t13, nf_s13, nf_d14, nf_t14, nf_s14, nf_d15, nf_t15, nf_s15, nf_d16, nf_t16, nf_s16, nf_d17, nf_t17, nf_s17, nf_d18, nf_t18, nf_s18, nf_d19, nf_t19, nf_s19, nf_d20, nf_t20, nf_s20]
          refine v_aload_n K dX7_setKind_56 rfl ?_
          refine v_get K 0 rfl hasF_c rfl iX7 5 (by decide) rfl (by decide +kernel) rfl dX7_setKind_57 ?_
          refine v_obook 7 rfl ?_
          try dsimp only [Nat.reduceAdd, nf_rep1, nf_rep0, nf_d0, nf_t0, nf_s0, nf_ac, nf_an, nf_d1, nf_t1, nf_s1, nf_d2, nf_t2, nf_s2, nf_d3, nf_t3, nf_s3, nf_d4, nf_t4, nf_s4, nf_d5, nf_t5, nf_s5, nf_d6, nf_t6, nf_s6, nf_d7, nf_t7, nf_s7, nf_d8, nf_t8, nf_s8, nf_d9, nf_t9, nf_s9, nf_d10, nf_t10, nf_s10, nf_d11, nf_t11, nf_s11, nf_d12, nf_t12, nf_s12, nf_d13, nf_t13, nf_s13, nf_d14, nf_t14, nf_s14, nf_d15, nf_t15, nf_s15, nf_d16, nf_t16, nf_s16, nf_d17, nf_t17, nf_s17, nf_d18, nf_t18, nf_s18, nf_d19, nf_t19, nf_s19, nf_d20, nf_t20, nf_s20]
          refine v_get K 7 rfl hasF_c rfl iX0 5 (by decide) rfl (by decide +kernel) rfl dX7_setKind_60 ?_
          refine v_iload_n K dX7_setKind_63 rfl ?_
          refine v_iload_n K dX7_setKind_64 rfl ?_
          refine v_callVv K [13] (c_X3_set (XI X) (XB X) _ _ _ _ _ _ ) rfl gX7_setKind_X3_set rfl rfl hd_X3_set ⟨rfl, rfl⟩ ⟨by decide, by decide⟩ 13 rfl rowF rfl (by decide) (Nat.le_of_ble_eq_true rfl) ⟨Nat.zero_le _, Nat.zero_le _⟩ rfl dX7_setKind_65 ?_
          try dsimp only [Nat.reduceAdd, nf_rep1, nf_rep0, nf_d0, nf_t0, nf_s0, nf_ac, nf_an, nf_d1, nf_t1, nf_s1, nf_d2, nf_t2, nf_s2, nf_d3, nf_t3, nf_s3, nf_d4, nf_t4, nf_s4, nf_d5, nf_t5, nf_s5, nf_d6, nf_t6, nf_s6, nf_d7, nf_t7, nf_s7, nf_d8, nf_t8, nf_s8, nf_d9, nf_t9, nf_s9, nf_d10, nf_t10, nf_s10, nf_d11, nf_t11, nf_s11, nf_d12, nf_t12, nf_s12, nf_d13, nf_t13, nf_s13, nf_d14, nf_t14, nf_s14, nf_d15, nf_t15, nf_s15, nf_d16, nf_t16, nf_s16, nf_d17, nf_t17, nf_s17, nf_d18, nf_t18, nf_s18, nf_d19, nf_t19, nf_s19, nf_d20, nf_t20, nf_s20]
          refine v_cbook  7 rfl ?_
          try dsimp only [Nat.reduceAdd, nf_rep1, nf_rep0, nf_d0, nf_t0, nf_s0, nf_ac, nf_an, nf_d1, nf_t1, nf_s1, nf_d2, nf_t2, nf_s2, nf_d3, nf_t3, nf_s3, nf_d4, nf_t4, nf_s4, nf_d5, nf_t5, nf_s5, nf_d6, nf_t6, nf_s6, nf_d7, nf_t7, nf_s7, nf_d8, nf_t8, nf_s8, nf_d9, nf_t9, nf_s9, nf_d10, nf_t10, nf_s10, nf_d11, nf_t11, nf_s11, nf_d12, nf_t12, nf_s12, nf_d13, nf_t13, nf_s13, nf_d14, nf_t14, nf_s14, nf_d15, nf_t15, nf_s15, nf_d16, nf_t16, nf_s16, nf_d17, nf_t17, nf_s17, nf_d18, nf_t18, nf_s18, nf_d19, nf_t19, nf_s19, nf_d20, nf_t20, nf_s20]
          refine v_aload_n K dX7_setKind_68 rfl ?_
          refine v_get K 0 rfl hasF_c rfl iX7 10 (by decide) rfl (by decide +kernel) rfl dX7_setKind_69 ?_
          refine v_aload_n K dX7_setKind_72 rfl ?_
          refine v_get K 0 rfl hasF_c rfl iX7 5 (by decide) rfl (by decide +kernel) rfl dX7_setKind_73 ?_
          refine v_callVv K [11, 7] (c_X6_renew (XI X) (XB X) _ _ _ _ _ _ ) rfl gX7_setKind_X6_renew rfl rfl hd_X6_renew ⟨rfl, rfl⟩ ⟨by decide, by decide⟩ 11 rfl svF rfl (by decide) (Nat.le_of_ble_eq_true rfl) ⟨Nat.zero_le _, Nat.zero_le _⟩ rfl dX7_setKind_76 ?_
          try dsimp only [Nat.reduceAdd, nf_rep1, nf_rep0, nf_d0, nf_t0, nf_s0, nf_ac, nf_an, nf_d1, nf_t1, nf_s1, nf_d2, nf_t2, nf_s2, nf_d3, nf_t3, nf_s3, nf_d4, nf_t4, nf_s4, nf_d5, nf_t5, nf_s5, nf_d6, nf_t6, nf_s6, nf_d7, nf_t7, nf_s7, nf_d8, nf_t8, nf_s8, nf_d9, nf_t9, nf_s9, nf_d10, nf_t10, nf_s10, nf_d11, nf_t11, nf_s11, nf_d12, nf_t12, nf_s12, nf_d13, nf_t13, nf_s13, nf_d14, nf_t14, nf_s14, nf_d15, nf_t15, nf_s15, nf_d16, nf_t16, nf_s16, nf_d17, nf_t17, nf_s17, nf_d18, nf_t18, nf_s18, nf_d19, nf_t19, nf_s19, nf_d20, nf_t20, nf_s20]
          refine v_iload_n K dX7_setKind_79 rfl ?_
          refine v_iret K E dX7_setKind_80 ?_ (by (simp only [nf_rep1, nf_rep0, nf_d0, nf_t0, nf_s0, nf_ac, nf_an, List.map_cons, List.map_nil, cM_1, rowM_1, rowsM_1, rdM_1, spM_1, bookM_1, svM_1, hiM_1]))
          rw [show sKind (ts, cs, S, SS, hn, hs) i kd = _ by unfold sKind; rw [if_pos hL, if_neg c14, if_pos c19, if_neg c39]]
          exact ⟨rfl, (_, _, (_, _, _, _, _), _, _, _), rfl⟩
        · refine v_bipush K (-5) dX7_setKind_42 (by decide) ?_
          refine v_iret K E dX7_setKind_44 ?_ (by (simp only [nf_rep1, nf_rep0, nf_d0, nf_t0, nf_s0, nf_ac, nf_an, List.map_cons, List.map_nil, cM_1, rowM_1, rowsM_1, rdM_1, spM_1, bookM_1, svM_1, hiM_1]))
          rw [show sKind (ts, cs, S, SS, hn, hs) i kd = _ by unfold sKind; rw [if_pos hL, if_neg c14, if_pos c19, if_pos c39]]
          exact ⟨rfl, (_, _, (_, _, _, _, _), _, _, _), rfl⟩
      · refine v_bipush K (-2) dX7_setKind_22 (by decide) ?_
        refine v_iret K E dX7_setKind_24 ?_ (by (simp only [nf_rep1, nf_rep0, nf_d0, nf_t0, nf_s0, nf_ac, nf_an, List.map_cons, List.map_nil, cM_1, rowM_1, rowsM_1, rdM_1, spM_1, bookM_1, svM_1, hiM_1]))
        rw [show sKind (ts, cs, S, SS, hn, hs) i kd = _ by unfold sKind; rw [if_pos hL, if_neg c14, if_neg c19]]
        exact ⟨rfl, (_, _, (_, _, _, _, _), _, _, _), rfl⟩
  · refine v_iconst K (-1) dX7_setKind_11 (by decide) ?_
    refine v_iret K E dX7_setKind_12 ?_ (by (simp only [nf_rep1, nf_rep0, nf_d0, nf_t0, nf_s0, nf_ac, nf_an, List.map_cons, List.map_nil, cM_1, rowM_1, rowsM_1, rdM_1, spM_1, bookM_1, svM_1, hiM_1]))
    rw [show sKind (ts, cs, S, SS, hn, hs) i kd = _ by unfold sKind; rw [if_neg (by rw [bI_0 c8]; exact Bool.false_ne_true)]]
    exact ⟨rfl, (_, _, (_, _, _, _, _), _, _, _), rfl⟩

theorem hd_X7_type : yX7_type.cls = RX7 ∧ yX7_type.cls ≠ "java/lang/invoke/MethodHandle" ∧ yX7_type.cls ≠ "java/lang/invoke/VarHandle" ∧ (parseMethodDescriptor yX7_type.desc).map (fun d => d.parameters.length) = some 1 := by decide +kernel
set_option maxHeartbeats 4000000 in
set_option maxRecDepth 100000 in
theorem c_X7_type (cI cB : ClassId) (a : Nat → Nat) (g HB : Nat → Nat → Nat) (ts cs : List Int32) (S SS : Bk) (hn : Bool) (hs : List Bk) (ns xs : List Int32) (P e s d k : Int32) (T : T4) (D : Bk) (w : Sv) (c : Int32)  : Ct cI cB yX7_type wsX7_type { frames := 1, cells := 0, slots := 0, locals := 21 } [.ref (a 0), .int c] [cM (a 0) (.inr (7, [.ref (a 1), .ref (a 3), .ref (a 5), .ref (a 7), .ref (g 0 0), .ref (g 1 0), .ref (g 2 0), .ref (g 3 0), .int (bI hn), .ref (a 10), .ref (g 4 0), .ref (g 5 0)])), rowM cI (a 1) (a 2) 60 ts, rowM cI (a 3) (a 4) 400 cs, rowM cI (a 5) (a 6) 400 ns, rdM (a 7) (a 8) (a 1) P e s d k, rowM cI (a 8) (a 9) 25 xs, spM cI (g 0) T, bookM cI (g 1) 30 20 S, bookM cI (g 2) 60 50 D, bookM cI (g 3) 30 20 SS, hiM cI cB (a 10) (a 11) HB hs, svM cI (g 4) (svy S), svM cI (g 5) w] (po cI cB a g HB (sType (ts, cs, S, SS, hn, hs) c).1 (sType (ts, cs, S, SS, hn, hs) c).2) := by
  refine ct_of (cc := cX7_type) (maxL := 2) (ret := (some .int)) (by decide) rfl (Nat.le_of_ble_eq_true rfl) [(0, .ref (a 0)), (1, .int c)] rfl ?_
  intro X hI hB K E
  subst hI
  subst hB
  have iX7 : ∀ w ∈ u_ws RX7 TX7 12, w ∈ wsX7_type := by decide +kernel
  refine v_aload_n K dX7_type_0 rfl ?_
  refine v_get K 0 rfl hasF_c rfl iX7 0 (by decide) rfl (by decide +kernel) rfl dX7_type_1 ?_
  refine v_callVi K [1] (c_X3_isFull (XI X) (XB X) _ _ _ _ ) rfl gX7_type_X3_isFull rfl rfl hd_X3_isFull ⟨rfl, rfl⟩ ⟨by decide, by decide⟩ 1 rfl rowF rfl (by decide) (Nat.le_of_ble_eq_true rfl) ⟨Nat.zero_le _, Nat.zero_le _⟩ rfl dX7_type_4 ?_
  try dsimp only [Nat.reduceAdd, nf_rep1, nf_rep0, nf_d0, nf_t0, nf_s0, nf_ac, nf_an, nf_d1, nf_t1, nf_s1, nf_d2, nf_t2, nf_s2, nf_d3, nf_t3, nf_s3, nf_d4, nf_t4, nf_s4, nf_d5, nf_t5, nf_s5, nf_d6, nf_t6, nf_s6, nf_d7, nf_t7, nf_s7, nf_d8, nf_t8, nf_s8, nf_d9, nf_t9, nf_s9, nf_d10, nf_t10, nf_s10, nf_d11, nf_t11, nf_s11, nf_d12, nf_t12, nf_s12, nf_d13, nf_t13, nf_s13, nf_d14, nf_t14, nf_s14, nf_d15, nf_t15, nf_s15, nf_d16, nf_t16, nf_s16, nf_d17, nf_t17, nf_s17, nf_d18, nf_t18, nf_s18, nf_d19, nf_t19, nf_s19, nf_d20, nf_t20, nf_s20]
  refine v_if_eq K 13 dX7_type_7 (by decide) (fun c7 => ?_) (fun c7 => ?_)
  · refine v_aload_n K dX7_type_13 rfl ?_
    refine v_get K 0 rfl hasF_c rfl iX7 0 (by decide) rfl (by decide +kernel) rfl dX7_type_14 ?_
    refine v_iload_n K dX7_type_17 rfl ?_
    refine v_callVv K [1] (c_X3_add (XI X) (XB X) _ _ _ _ _ ) rfl gX7_type_X3_add rfl rfl hd_X3_add ⟨rfl, rfl⟩ ⟨by decide, by decide⟩ 1 rfl rowF rfl (by decide) (Nat.le_of_ble_eq_true rfl) ⟨Nat.zero_le _, Nat.zero_le _⟩ rfl dX7_type_18 ?_
    try dsimp only [Nat.reduceAdd, nf_rep1, nf_rep0, nf_d0, nf_t0, nf_s0, nf_ac, nf_an, nf_d1, nf_t1, nf_s1, nf_d2, nf_t2, nf_s2, nf_d3, nf_t3, nf_s3, nf_d4, nf_t4, nf_s4, nf_d5, nf_t5, nf_s5, nf_d6, nf_t6, nf_s6, nf_d7, nf_t7, nf_s7, nf_d8, nf_t8, nf_s8, nf_d9, nf_t9, nf_s9, nf_d10, nf_t10, nf_s10, nf_d11, nf_t11, nf_s11, nf_d12, nf_t12, nf_s12, nf_d13, nf_t13, nf_s13, nf_d14, nf_t14, nf_s14, nf_d15, nf_t15, nf_s15, nf_d16, nf_t16, nf_s16, nf_d17, nf_t17, nf_s17, nf_d18, nf_t18, nf_s18, nf_d19, nf_t19, nf_s19, nf_d20, nf_t20, nf_s20]
    refine v_aload_n K dX7_type_21 rfl ?_
    refine v_get K 0 rfl hasF_c rfl iX7 0 (by decide) rfl (by decide +kernel) rfl dX7_type_22 ?_
    refine v_callVi K [1] (c_X3_size (XI X) (XB X) _ _ _ _ ) rfl gX7_type_X3_size rfl rfl hd_X3_size ⟨rfl, rfl⟩ ⟨by decide, by decide⟩ 1 rfl rowF rfl (by decide) (Nat.le_of_ble_eq_true rfl) ⟨Nat.zero_le _, Nat.zero_le _⟩ rfl dX7_type_25 ?_
    try dsimp only [Nat.reduceAdd, nf_rep1, nf_rep0, nf_d0, nf_t0, nf_s0, nf_ac, nf_an, nf_d1, nf_t1, nf_s1, nf_d2, nf_t2, nf_s2, nf_d3, nf_t3, nf_s3, nf_d4, nf_t4, nf_s4, nf_d5, nf_t5, nf_s5, nf_d6, nf_t6, nf_s6, nf_d7, nf_t7, nf_s7, nf_d8, nf_t8, nf_s8, nf_d9, nf_t9, nf_s9, nf_d10, nf_t10, nf_s10, nf_d11, nf_t11, nf_s11, nf_d12, nf_t12, nf_s12, nf_d13, nf_t13, nf_s13, nf_d14, nf_t14, nf_s14, nf_d15, nf_t15, nf_s15, nf_d16, nf_t16, nf_s16, nf_d17, nf_t17, nf_s17, nf_d18, nf_t18, nf_s18, nf_d19, nf_t19, nf_s19, nf_d20, nf_t20, nf_s20]
    refine v_iret K E dX7_type_28 ?_ (by (simp only [nf_rep1, nf_rep0, nf_d0, nf_t0, nf_s0, nf_ac, nf_an, List.map_cons, List.map_nil, cM_1, rowM_1, rowsM_1, rdM_1, spM_1, bookM_1, svM_1, hiM_1]))
    rw [show sType (ts, cs, S, SS, hn, hs) c = _ by unfold sType; rw [if_neg (of_decide_eq_false (bI_0 c7))]]
    exact ⟨rfl, (_, _, (_, _, _, _, _), _, _, _), rfl⟩
  · refine v_bipush K (-3) dX7_type_10 (by decide) ?_
    refine v_iret K E dX7_type_12 ?_ (by (simp only [nf_rep1, nf_rep0, nf_d0, nf_t0, nf_s0, nf_ac, nf_an, List.map_cons, List.map_nil, cM_1, rowM_1, rowsM_1, rdM_1, spM_1, bookM_1, svM_1, hiM_1]))
    rw [show sType (ts, cs, S, SS, hn, hs) c = _ by unfold sType; rw [if_pos (of_decide_eq_true (bI_1 c7))]]
    exact ⟨rfl, (_, _, (_, _, _, _, _), _, _, _), rfl⟩

theorem hd_X7_clearText : yX7_clearText.cls = RX7 ∧ yX7_clearText.cls ≠ "java/lang/invoke/MethodHandle" ∧ yX7_clearText.cls ≠ "java/lang/invoke/VarHandle" ∧ (parseMethodDescriptor yX7_clearText.desc).map (fun d => d.parameters.length) = some 0 := by decide +kernel
set_option maxHeartbeats 4000000 in
set_option maxRecDepth 100000 in
theorem c_X7_clearText (cI cB : ClassId) (a : Nat → Nat) (g HB : Nat → Nat → Nat) (ts cs : List Int32) (S SS : Bk) (hn : Bool) (hs : List Bk) (ns xs : List Int32) (P e s d k : Int32) (T : T4) (D : Bk) (w : Sv)  : Ct cI cB yX7_clearText wsX7_clearText { frames := 1, cells := 0, slots := 0, locals := 20 } [.ref (a 0)] [cM (a 0) (.inr (7, [.ref (a 1), .ref (a 3), .ref (a 5), .ref (a 7), .ref (g 0 0), .ref (g 1 0), .ref (g 2 0), .ref (g 3 0), .int (bI hn), .ref (a 10), .ref (g 4 0), .ref (g 5 0)])), rowM cI (a 1) (a 2) 60 ts, rowM cI (a 3) (a 4) 400 cs, rowM cI (a 5) (a 6) 400 ns, rdM (a 7) (a 8) (a 1) P e s d k, rowM cI (a 8) (a 9) 25 xs, spM cI (g 0) T, bookM cI (g 1) 30 20 S, bookM cI (g 2) 60 50 D, bookM cI (g 3) 30 20 SS, hiM cI cB (a 10) (a 11) HB hs, svM cI (g 4) (svy S), svM cI (g 5) w] (po cI cB a g HB (sClear (ts, cs, S, SS, hn, hs)).1 (sClear (ts, cs, S, SS, hn, hs)).2) := by
  refine ct_of (cc := cX7_clearText) (maxL := 2) (ret := (some .int)) (by decide) rfl (Nat.le_of_ble_eq_true rfl) [(0, .ref (a 0))] rfl ?_
  intro X hI hB K E
  subst hI
  subst hB
  have iX7 : ∀ w ∈ u_ws RX7 TX7 12, w ∈ wsX7_clearText := by decide +kernel
  refine v_aload_n K dX7_clearText_0 rfl ?_
  refine v_get K 0 rfl hasF_c rfl iX7 0 (by decide) rfl (by decide +kernel) rfl dX7_clearText_1 ?_
  refine v_callVi K [1] (c_X3_size (XI X) (XB X) _ _ _ _ ) rfl gX7_clearText_X3_size rfl rfl hd_X3_size ⟨rfl, rfl⟩ ⟨by decide, by decide⟩ 1 rfl rowF rfl (by decide) (Nat.le_of_ble_eq_true rfl) ⟨Nat.zero_le _, Nat.zero_le _⟩ rfl dX7_clearText_4 ?_
  try dsimp only [Nat.reduceAdd, nf_rep1, nf_rep0, nf_d0, nf_t0, nf_s0, nf_ac, nf_an, nf_d1, nf_t1, nf_s1, nf_d2, nf_t2, nf_s2, nf_d3, nf_t3, nf_s3, nf_d4, nf_t4, nf_s4, nf_d5, nf_t5, nf_s5, nf_d6, nf_t6, nf_s6, nf_d7, nf_t7, nf_s7, nf_d8, nf_t8, nf_s8, nf_d9, nf_t9, nf_s9, nf_d10, nf_t10, nf_s10, nf_d11, nf_t11, nf_s11, nf_d12, nf_t12, nf_s12, nf_d13, nf_t13, nf_s13, nf_d14, nf_t14, nf_s14, nf_d15, nf_t15, nf_s15, nf_d16, nf_t16, nf_s16, nf_d17, nf_t17, nf_s17, nf_d18, nf_t18, nf_s18, nf_d19, nf_t19, nf_s19, nf_d20, nf_t20, nf_s20]
  refine v_istore_n K dX7_clearText_7 (by decide) ?_
  refine v_aload_n K dX7_clearText_8 rfl ?_
  refine v_get K 0 rfl hasF_c rfl iX7 0 (by decide) rfl (by decide +kernel) rfl dX7_clearText_9 ?_
  refine v_callVv K [1] (c_X3_clear (XI X) (XB X) _ _ _ _ ) rfl gX7_clearText_X3_clear rfl rfl hd_X3_clear ⟨rfl, rfl⟩ ⟨by decide, by decide⟩ 1 rfl rowF rfl (by decide) (Nat.le_of_ble_eq_true rfl) ⟨Nat.zero_le _, Nat.zero_le _⟩ rfl dX7_clearText_12 ?_
  try dsimp only [Nat.reduceAdd, nf_rep1, nf_rep0, nf_d0, nf_t0, nf_s0, nf_ac, nf_an, nf_d1, nf_t1, nf_s1, nf_d2, nf_t2, nf_s2, nf_d3, nf_t3, nf_s3, nf_d4, nf_t4, nf_s4, nf_d5, nf_t5, nf_s5, nf_d6, nf_t6, nf_s6, nf_d7, nf_t7, nf_s7, nf_d8, nf_t8, nf_s8, nf_d9, nf_t9, nf_s9, nf_d10, nf_t10, nf_s10, nf_d11, nf_t11, nf_s11, nf_d12, nf_t12, nf_s12, nf_d13, nf_t13, nf_s13, nf_d14, nf_t14, nf_s14, nf_d15, nf_t15, nf_s15, nf_d16, nf_t16, nf_s16, nf_d17, nf_t17, nf_s17, nf_d18, nf_t18, nf_s18, nf_d19, nf_t19, nf_s19, nf_d20, nf_t20, nf_s20]
  refine v_iload_n K dX7_clearText_15 rfl ?_
  refine v_iret K E dX7_clearText_16 ?_ (by (simp only [nf_rep1, nf_rep0, nf_d0, nf_t0, nf_s0, nf_ac, nf_an, List.map_cons, List.map_nil, cM_1, rowM_1, rowsM_1, rdM_1, spM_1, bookM_1, svM_1, hiM_1]))
  exact ⟨rfl, (_, _, (_, _, _, _, _), _, _, _), rfl⟩

theorem hd_X7_takeResult : yX7_takeResult.cls = RX7 ∧ yX7_takeResult.cls ≠ "java/lang/invoke/MethodHandle" ∧ yX7_takeResult.cls ≠ "java/lang/invoke/VarHandle" ∧ (parseMethodDescriptor yX7_takeResult.desc).map (fun d => d.parameters.length) = some 0 := by decide +kernel
set_option maxHeartbeats 4000000 in
set_option maxRecDepth 100000 in
theorem c_X7_takeResult (cI cB : ClassId) (a : Nat → Nat) (g HB : Nat → Nat → Nat) (ts cs : List Int32) (S SS : Bk) (hn : Bool) (hs : List Bk) (ns xs : List Int32) (P e s d k : Int32) (T : T4) (D : Bk) (w : Sv)  : Ct cI cB yX7_takeResult wsX7_takeResult { frames := 3, cells := 0, slots := 0, locals := 64 } [.ref (a 0)] [cM (a 0) (.inr (7, [.ref (a 1), .ref (a 3), .ref (a 5), .ref (a 7), .ref (g 0 0), .ref (g 1 0), .ref (g 2 0), .ref (g 3 0), .int (bI hn), .ref (a 10), .ref (g 4 0), .ref (g 5 0)])), rowM cI (a 1) (a 2) 60 ts, rowM cI (a 3) (a 4) 400 cs, rowM cI (a 5) (a 6) 400 ns, rdM (a 7) (a 8) (a 1) P e s d k, rowM cI (a 8) (a 9) 25 xs, spM cI (g 0) T, bookM cI (g 1) 30 20 S, bookM cI (g 2) 60 50 D, bookM cI (g 3) 30 20 SS, hiM cI cB (a 10) (a 11) HB hs, svM cI (g 4) (svy S), svM cI (g 5) w] (po cI cB a g HB (sTake (ts, cs, S, SS, hn, hs)).1 (sTake (ts, cs, S, SS, hn, hs)).2) := by
  refine ct_of (cc := cX7_takeResult) (maxL := 1) (ret := (some .int)) (by decide) rfl (Nat.le_of_ble_eq_true rfl) [(0, .ref (a 0))] rfl ?_
  intro X hI hB K E
  subst hI
  subst hB
  have iX7 : ∀ w ∈ u_ws RX7 TX7 12, w ∈ wsX7_takeResult := by decide +kernel
  refine v_aload_n K dX7_takeResult_0 rfl ?_
  refine v_get K 0 rfl hasF_c rfl iX7 1 (by decide) rfl (by decide +kernel) rfl dX7_takeResult_1 ?_
  refine v_callVi K [2] (c_X3_size (XI X) (XB X) _ _ _ _ ) rfl gX7_takeResult_X3_size rfl rfl hd_X3_size ⟨rfl, rfl⟩ ⟨by decide, by decide⟩ 2 rfl rowF rfl (by decide) (Nat.le_of_ble_eq_true rfl) ⟨Nat.zero_le _, Nat.zero_le _⟩ rfl dX7_takeResult_4 ?_
  try dsimp only [Nat.reduceAdd, nf_rep1, nf_rep0, nf_d0, nf_t0, nf_s0, nf_ac, nf_an, nf_d1, nf_t1, nf_s1, nf_d2, nf_t2, nf_s2, nf_d3, nf_t3, nf_s3, nf_d4, nf_t4, nf_s4, nf_d5, nf_t5, nf_s5, nf_d6, nf_t6, nf_s6, nf_d7, nf_t7, nf_s7, nf_d8, nf_t8, nf_s8, nf_d9, nf_t9, nf_s9, nf_d10, nf_t10, nf_s10, nf_d11, nf_t11, nf_s11, nf_d12, nf_t12, nf_s12, nf_d13, nf_t13, nf_s13, nf_d14, nf_t14, nf_s14, nf_d15, nf_t15, nf_s15, nf_d16, nf_t16, nf_s16, nf_d17, nf_t17, nf_s17, nf_d18, nf_t18, nf_s18, nf_d19, nf_t19, nf_s19, nf_d20, nf_t20, nf_s20]
  refine v_bipush K (60) dX7_takeResult_7 (by decide) ?_
  refine v_ic_le K 15 dX7_takeResult_9 (by decide) (fun c9 => ?_) (fun c9 => ?_)
  · refine v_aload_n K dX7_takeResult_15 rfl ?_
    refine v_get K 0 rfl hasF_c rfl iX7 0 (by decide) rfl (by decide +kernel) rfl dX7_takeResult_16 ?_
    refine v_aload_n K dX7_takeResult_19 rfl ?_
    refine v_get K 0 rfl hasF_c rfl iX7 1 (by decide) rfl (by decide +kernel) rfl dX7_takeResult_20 ?_
    refine v_callVv K [1, 2] (c_X3_copyFrom (XI X) (XB X) _ _ _ _ _ _ _ _ ) rfl gX7_takeResult_X3_copyFrom rfl rfl hd_X3_copyFrom ⟨rfl, rfl⟩ ⟨by decide, by decide⟩ 1 rfl rowF rfl (by decide) (Nat.le_of_ble_eq_true rfl) ⟨Nat.zero_le _, Nat.zero_le _⟩ rfl dX7_takeResult_23 ?_
    try dsimp only [Nat.reduceAdd, nf_rep1, nf_rep0, nf_d0, nf_t0, nf_s0, nf_ac, nf_an, nf_d1, nf_t1, nf_s1, nf_d2, nf_t2, nf_s2, nf_d3, nf_t3, nf_s3, nf_d4, nf_t4, nf_s4, nf_d5, nf_t5, nf_s5, nf_d6, nf_t6, nf_s6, nf_d7, nf_t7, nf_s7, nf_d8, nf_t8, nf_s8, nf_d9, nf_t9, nf_s9, nf_d10, nf_t10, nf_s10, nf_d11, nf_t11, nf_s11, nf_d12, nf_t12, nf_s12, nf_d13, nf_t13, nf_s13, nf_d14, nf_t14, nf_s14, nf_d15, nf_t15, nf_s15, nf_d16, nf_t16, nf_s16, nf_d17, nf_t17, nf_s17, nf_d18, nf_t18, nf_s18, nf_d19, nf_t19, nf_s19, nf_d20, nf_t20, nf_s20]
    refine v_aload_n K dX7_takeResult_26 rfl ?_
    refine v_get K 0 rfl hasF_c rfl iX7 0 (by decide) rfl (by decide +kernel) rfl dX7_takeResult_27 ?_
    refine v_callVi K [1] (c_X3_size (XI X) (XB X) _ _ _ _ ) rfl gX7_takeResult_X3_size rfl rfl hd_X3_size ⟨rfl, rfl⟩ ⟨by decide, by decide⟩ 1 rfl rowF rfl (by decide) (Nat.le_of_ble_eq_true rfl) ⟨Nat.zero_le _, Nat.zero_le _⟩ rfl dX7_takeResult_30 ?_
    try dsimp only [Nat.reduceAdd, nf_rep1, nf_rep0, nf_d0, nf_t0, nf_s0, nf_ac, nf_an, nf_d1, nf_t1, nf_s1, nf_d2, nf_t2, nf_s2, nf_d3, nf_t3, nf_s3, nf_d4, nf_t4, nf_s4, nf_d5, nf_t5, nf_s5, nf_d6, nf_t6, nf_s6, nf_d7, nf_t7, nf_s7, nf_d8, nf_t8, nf_s8, nf_d9, nf_t9, nf_s9, nf_d10, nf_t10, nf_s10, nf_d11, nf_t11, nf_s11, nf_d12, nf_t12, nf_s12, nf_d13, nf_t13, nf_s13, nf_d14, nf_t14, nf_s14, nf_d15, nf_t15, nf_s15, nf_d16, nf_t16, nf_s16, nf_d17, nf_t17, nf_s17, nf_d18, nf_t18, nf_s18, nf_d19, nf_t19, nf_s19, nf_d20, nf_t20, nf_s20]
    refine v_iret K E dX7_takeResult_33 ?_ (by (simp only [nf_rep1, nf_rep0, nf_d0, nf_t0, nf_s0, nf_ac, nf_an, List.map_cons, List.map_nil, cM_1, rowM_1, rowsM_1, rdM_1, spM_1, bookM_1, svM_1, hiM_1]))
    rw [show sTake (ts, cs, S, SS, hn, hs) = _ by unfold sTake; rw [if_pos c9]]
    exact ⟨rfl, (_, _, (_, _, _, _, _), _, _, _), rfl⟩
  · refine v_bipush K (-3) dX7_takeResult_12 (by decide) ?_
    refine v_iret K E dX7_takeResult_14 ?_ (by (simp only [nf_rep1, nf_rep0, nf_d0, nf_t0, nf_s0, nf_ac, nf_an, List.map_cons, List.map_nil, cM_1, rowM_1, rowsM_1, rdM_1, spM_1, bookM_1, svM_1, hiM_1]))
    rw [show sTake (ts, cs, S, SS, hn, hs) = _ by unfold sTake; rw [if_neg c9]]
    exact ⟨rfl, (_, _, (_, _, _, _, _), _, _, _), rfl⟩

theorem hd_X7_undo : yX7_undo.cls = RX7 ∧ yX7_undo.cls ≠ "java/lang/invoke/MethodHandle" ∧ yX7_undo.cls ≠ "java/lang/invoke/VarHandle" ∧ (parseMethodDescriptor yX7_undo.desc).map (fun d => d.parameters.length) = some 0 := by decide +kernel
set_option maxHeartbeats 4000000 in
set_option maxRecDepth 100000 in
theorem c_X7_undo (cI cB : ClassId) (a : Nat → Nat) (g HB : Nat → Nat → Nat) (ts cs : List Int32) (S SS : Bk) (hn : Bool) (hs : List Bk) (ns xs : List Int32) (P e s d k : Int32) (T : T4) (D : Bk) (w : Sv)  : Ct cI cB yX7_undo wsX7_undo { frames := 6, cells := 0, slots := 0, locals := 142 } [.ref (a 0)] [cM (a 0) (.inr (7, [.ref (a 1), .ref (a 3), .ref (a 5), .ref (a 7), .ref (g 0 0), .ref (g 1 0), .ref (g 2 0), .ref (g 3 0), .int (bI hn), .ref (a 10), .ref (g 4 0), .ref (g 5 0)])), rowM cI (a 1) (a 2) 60 ts, rowM cI (a 3) (a 4) 400 cs, rowM cI (a 5) (a 6) 400 ns, rdM (a 7) (a 8) (a 1) P e s d k, rowM cI (a 8) (a 9) 25 xs, spM cI (g 0) T, bookM cI (g 1) 30 20 S, bookM cI (g 2) 60 50 D, bookM cI (g 3) 30 20 SS, hiM cI cB (a 10) (a 11) HB hs, svM cI (g 4) (svy S), svM cI (g 5) w] (po cI cB a g HB (sUndo (ts, cs, S, SS, hn, hs)).1 (sUndo (ts, cs, S, SS, hn, hs)).2) := by
  refine ct_of (cc := cX7_undo) (maxL := 1) (ret := (some .int)) (by decide) rfl (Nat.le_of_ble_eq_true rfl) [(0, .ref (a 0))] rfl ?_
  intro X hI hB K E
  subst hI
  subst hB
  have iX7 : ∀ w ∈ u_ws RX7 TX7 12, w ∈ wsX7_undo := by decide +kernel
  refine v_aload_n K dX7_undo_0 rfl ?_
  refine v_get K 0 rfl hasF_c rfl iX7 9 (by decide) rfl (by decide +kernel) rfl dX7_undo_1 ?_
  refine v_callVi K [10] (c_X1_states (XI X) (XB X) _ _ _ _ ) rfl gX7_undo_X1_states rfl rfl hd_X1_states ⟨rfl, rfl⟩ ⟨by decide, by decide⟩ 10 rfl hiF rfl (by decide) (Nat.le_of_ble_eq_true rfl) ⟨Nat.zero_le _, Nat.zero_le _⟩ rfl dX7_undo_4 ?_
  try dsimp only [Nat.reduceAdd, nf_rep1, nf_rep0, nf_d0, nf_t0, nf_s0, nf_ac, nf_an, nf_d1, nf_t1, nf_s1, nf_d2, nf_t2, nf_s2, nf_d3, nf_t3, nf_s3, nf_d4, nf_t4, nf_s4, nf_d5, nf_t5, nf_s5, nf_d6, nf_t6, nf_s6, nf_d7, nf_t7, nf_s7, nf_d8, nf_t8, nf_s8, nf_d9, nf_t9, nf_s9, nf_d10, nf_t10, nf_s10, nf_d11, nf_t11, nf_s11, nf_d12, nf_t12, nf_s12, nf_d13, nf_t13, nf_s13, nf_d14, nf_t14, nf_s14, nf_d15, nf_t15, nf_s15, nf_d16, nf_t16, nf_s16, nf_d17, nf_t17, nf_s17, nf_d18, nf_t18, nf_s18, nf_d19, nf_t19, nf_s19, nf_d20, nf_t20, nf_s20]
  refine v_if_ne K 13 dX7_undo_7 (by decide) (fun c7 => ?_) (fun c7 => ?_)
  · have hl0 : ¬ hs.length = 0 := fun z => c7 (congrArg nI z)
    refine v_aload_n K dX7_undo_13 rfl ?_
    refine v_get K 0 rfl hasF_c rfl iX7 9 (by decide) rfl (by decide +kernel) rfl dX7_undo_14 ?_
    refine v_aload_n K dX7_undo_17 rfl ?_
    refine v_get K 0 rfl hasF_c rfl iX7 5 (by decide) rfl (by decide +kernel) rfl dX7_undo_18 ?_
    refine v_callVv K [10, 7] (c_X1_bringBack (XI X) (XB X) _ _ _ _ _ _ _ _ ?hc21_0_2) rfl gX7_undo_X1_bringBack rfl rfl hd_X1_bringBack ⟨rfl, rfl⟩ ⟨by decide, by decide⟩ 10 rfl hiF rfl (by decide) (Nat.le_of_ble_eq_true rfl) ⟨Nat.zero_le _, Nat.zero_le _⟩ rfl dX7_undo_21 ?_
    case hc21_0_2 => omega
    try dsimp only [Nat.reduceAdd, nf_rep1, nf_rep0, nf_d0, nf_t0, nf_s0, nf_ac, nf_an, nf_d1, nf_t1, nf_s1, nf_d2, nf_t2, nf_s2, nf_d3, nf_t3, nf_s3, nf_d4, nf_t4, nf_s4, nf_d5, nf_t5, nf_s5, nf_d6, nf_t6, nf_s6, nf_d7, nf_t7, nf_s7, nf_d8, nf_t8, nf_s8, nf_d9, nf_t9, nf_s9, nf_d10, nf_t10, nf_s10, nf_d11, nf_t11, nf_s11, nf_d12, nf_t12, nf_s12, nf_d13, nf_t13, nf_s13, nf_d14, nf_t14, nf_s14, nf_d15, nf_t15, nf_s15, nf_d16, nf_t16, nf_s16, nf_d17, nf_t17, nf_s17, nf_d18, nf_t18, nf_s18, nf_d19, nf_t19, nf_s19, nf_d20, nf_t20, nf_s20]
    refine v_aload_n K dX7_undo_24 rfl ?_
    refine v_get K 0 rfl hasF_c rfl iX7 10 (by decide) rfl (by decide +kernel) rfl dX7_undo_25 ?_
    refine v_aload_n K dX7_undo_28 rfl ?_
    refine v_get K 0 rfl hasF_c rfl iX7 5 (by decide) rfl (by decide +kernel) rfl dX7_undo_29 ?_
    refine v_callVv K [11, 7] (c_X6_renew (XI X) (XB X) _ _ _ _ _ _ ) rfl gX7_undo_X6_renew rfl rfl hd_X6_renew ⟨rfl, rfl⟩ ⟨by decide, by decide⟩ 11 rfl svF rfl (by decide) (Nat.le_of_ble_eq_true rfl) ⟨Nat.zero_le _, Nat.zero_le _⟩ rfl dX7_undo_32 ?_
    try dsimp only [Nat.reduceAdd, nf_rep1, nf_rep0, nf_d0, nf_t0, nf_s0, nf_ac, nf_an, nf_d1, nf_t1, nf_s1, nf_d2, nf_t2, nf_s2, nf_d3, nf_t3, nf_s3, nf_d4, nf_t4, nf_s4, nf_d5, nf_t5, nf_s5, nf_d6, nf_t6, nf_s6, nf_d7, nf_t7, nf_s7, nf_d8, nf_t8, nf_s8, nf_d9, nf_t9, nf_s9, nf_d10, nf_t10, nf_s10, nf_d11, nf_t11, nf_s11, nf_d12, nf_t12, nf_s12, nf_d13, nf_t13, nf_s13, nf_d14, nf_t14, nf_s14, nf_d15, nf_t15, nf_s15, nf_d16, nf_t16, nf_s16, nf_d17, nf_t17, nf_s17, nf_d18, nf_t18, nf_s18, nf_d19, nf_t19, nf_s19, nf_d20, nf_t20, nf_s20]
    refine v_aload_n K dX7_undo_35 rfl ?_
    refine v_get K 0 rfl hasF_c rfl iX7 9 (by decide) rfl (by decide +kernel) rfl dX7_undo_36 ?_
    refine v_callVi K [10] (c_X1_states (XI X) (XB X) _ _ _ _ ) rfl gX7_undo_X1_states rfl rfl hd_X1_states ⟨rfl, rfl⟩ ⟨by decide, by decide⟩ 10 rfl hiF rfl (by decide) (Nat.le_of_ble_eq_true rfl) ⟨Nat.zero_le _, Nat.zero_le _⟩ rfl dX7_undo_39 ?_
    try dsimp only [Nat.reduceAdd, nf_rep1, nf_rep0, nf_d0, nf_t0, nf_s0, nf_ac, nf_an, nf_d1, nf_t1, nf_s1, nf_d2, nf_t2, nf_s2, nf_d3, nf_t3, nf_s3, nf_d4, nf_t4, nf_s4, nf_d5, nf_t5, nf_s5, nf_d6, nf_t6, nf_s6, nf_d7, nf_t7, nf_s7, nf_d8, nf_t8, nf_s8, nf_d9, nf_t9, nf_s9, nf_d10, nf_t10, nf_s10, nf_d11, nf_t11, nf_s11, nf_d12, nf_t12, nf_s12, nf_d13, nf_t13, nf_s13, nf_d14, nf_t14, nf_s14, nf_d15, nf_t15, nf_s15, nf_d16, nf_t16, nf_s16, nf_d17, nf_t17, nf_s17, nf_d18, nf_t18, nf_s18, nf_d19, nf_t19, nf_s19, nf_d20, nf_t20, nf_s20]
    refine v_iret K E dX7_undo_42 ?_ (by (simp only [nf_rep1, nf_rep0, nf_d0, nf_t0, nf_s0, nf_ac, nf_an, List.map_cons, List.map_nil, cM_1, rowM_1, rowsM_1, rdM_1, spM_1, bookM_1, svM_1, hiM_1]))
    rw [show sUndo (ts, cs, S, SS, hn, hs) = _ by unfold sUndo; rw [if_neg hl0]]
    exact ⟨rfl, (_, _, (_, _, _, _, _), _, _, _), rfl⟩
  · refine v_hile 10 rfl (fun hl => ?_)
    have hl0 : hs.length = 0 := (nI_eq (b := 0) (by omega) (by decide)).mp c7
    refine v_bipush K (-5) dX7_undo_10 (by decide) ?_
    refine v_iret K E dX7_undo_12 ?_ (by (simp only [nf_rep1, nf_rep0, nf_d0, nf_t0, nf_s0, nf_ac, nf_an, List.map_cons, List.map_nil, cM_1, rowM_1, rowsM_1, rdM_1, spM_1, bookM_1, svM_1, hiM_1]))
    rw [show sUndo (ts, cs, S, SS, hn, hs) = _ by unfold sUndo; rw [if_pos hl0]]
    exact ⟨rfl, (_, _, (_, _, _, _, _), _, _, _), rfl⟩

theorem hd_X7_keep : yX7_keep.cls = RX7 ∧ yX7_keep.cls ≠ "java/lang/invoke/MethodHandle" ∧ yX7_keep.cls ≠ "java/lang/invoke/VarHandle" ∧ (parseMethodDescriptor yX7_keep.desc).map (fun d => d.parameters.length) = some 0 := by decide +kernel
set_option maxHeartbeats 4000000 in
set_option maxRecDepth 100000 in
theorem c_X7_keep (cI cB : ClassId) (a : Nat → Nat) (g HB : Nat → Nat → Nat) (ts cs : List Int32) (S SS : Bk) (hn : Bool) (hs : List Bk) (ns xs : List Int32) (P e s d k : Int32) (T : T4) (D : Bk) (w : Sv)  : Ct cI cB yX7_keep wsX7_keep { frames := 5, cells := 0, slots := 0, locals := 107 } [.ref (a 0)] [cM (a 0) (.inr (7, [.ref (a 1), .ref (a 3), .ref (a 5), .ref (a 7), .ref (g 0 0), .ref (g 1 0), .ref (g 2 0), .ref (g 3 0), .int (bI hn), .ref (a 10), .ref (g 4 0), .ref (g 5 0)])), rowM cI (a 1) (a 2) 60 ts, rowM cI (a 3) (a 4) 400 cs, rowM cI (a 5) (a 6) 400 ns, rdM (a 7) (a 8) (a 1) P e s d k, rowM cI (a 8) (a 9) 25 xs, spM cI (g 0) T, bookM cI (g 1) 30 20 S, bookM cI (g 2) 60 50 D, bookM cI (g 3) 30 20 SS, hiM cI cB (a 10) (a 11) HB hs, svM cI (g 4) (svy S), svM cI (g 5) w] (po cI cB a g HB (sKeep (ts, cs, S, SS, hn, hs)).1 (sKeep (ts, cs, S, SS, hn, hs)).2) := by
  refine ct_of (cc := cX7_keep) (maxL := 1) (ret := (some .int)) (by decide) rfl (Nat.le_of_ble_eq_true rfl) [(0, .ref (a 0))] rfl ?_
  intro X hI hB K E
  subst hI
  subst hB
  have iX7 : ∀ w ∈ u_ws RX7 TX7 12, w ∈ wsX7_keep := by decide +kernel
  refine v_aload_n K dX7_keep_0 rfl ?_
  refine v_get K 0 rfl hasF_c rfl iX7 7 (by decide) rfl (by decide +kernel) rfl dX7_keep_1 ?_
  refine v_aload_n K dX7_keep_4 rfl ?_
  refine v_get K 0 rfl hasF_c rfl iX7 5 (by decide) rfl (by decide +kernel) rfl dX7_keep_5 ?_
  refine v_callVv K [9, 7] (c_X0_copyFrom (XI X) (XB X) _ _ _ _ _ _ _ _ ) rfl gX7_keep_X0_copyFrom rfl rfl hd_X0_copyFrom ⟨rfl, rfl⟩ ⟨by decide, by decide⟩ 9 rfl bookF rfl (by decide) (Nat.le_of_ble_eq_true rfl) ⟨Nat.zero_le _, Nat.zero_le _⟩ rfl dX7_keep_8 ?_
  try dsimp only [Nat.reduceAdd, nf_rep1, nf_rep0, nf_d0, nf_t0, nf_s0, nf_ac, nf_an, nf_d1, nf_t1, nf_s1, nf_d2, nf_t2, nf_s2, nf_d3, nf_t3, nf_s3, nf_d4, nf_t4, nf_s4, nf_d5, nf_t5, nf_s5, nf_d6, nf_t6, nf_s6, nf_d7, nf_t7, nf_s7, nf_d8, nf_t8, nf_s8, nf_d9, nf_t9, nf_s9, nf_d10, nf_t10, nf_s10, nf_d11, nf_t11, nf_s11, nf_d12, nf_t12, nf_s12, nf_d13, nf_t13, nf_s13, nf_d14, nf_t14, nf_s14, nf_d15, nf_t15, nf_s15, nf_d16, nf_t16, nf_s16, nf_d17, nf_t17, nf_s17, nf_d18, nf_t18, nf_s18, nf_d19, nf_t19, nf_s19, nf_d20, nf_t20, nf_s20]
  refine v_aload_n K dX7_keep_11 rfl ?_
  refine v_iconst K (1) dX7_keep_12 (by decide) ?_
  refine v_put K 0 rfl rfl iX7 tyX7 tyX7_ok nmX7 8 (by decide) rfl (by decide +kernel) rfl rfl (Nat.le_of_ble_eq_true rfl) dX7_keep_13 ?_
  try dsimp only [Nat.reduceAdd, nf_rep1, nf_rep0, nf_d0, nf_t0, nf_s0, nf_ac, nf_an, nf_d1, nf_t1, nf_s1, nf_d2, nf_t2, nf_s2, nf_d3, nf_t3, nf_s3, nf_d4, nf_t4, nf_s4, nf_d5, nf_t5, nf_s5, nf_d6, nf_t6, nf_s6, nf_d7, nf_t7, nf_s7, nf_d8, nf_t8, nf_s8, nf_d9, nf_t9, nf_s9, nf_d10, nf_t10, nf_s10, nf_d11, nf_t11, nf_s11, nf_d12, nf_t12, nf_s12, nf_d13, nf_t13, nf_s13, nf_d14, nf_t14, nf_s14, nf_d15, nf_t15, nf_s15, nf_d16, nf_t16, nf_s16, nf_d17, nf_t17, nf_s17, nf_d18, nf_t18, nf_s18, nf_d19, nf_t19, nf_s19, nf_d20, nf_t20, nf_s20]
  refine v_aload_n K dX7_keep_16 rfl ?_
  refine v_get K 0 rfl hasF_c rfl iX7 5 (by decide) rfl (by decide +kernel) rfl dX7_keep_17 ?_
  refine v_callVi K [7] (c_X0_words (XI X) (XB X) _ _ _ _ ) rfl gX7_keep_X0_words rfl rfl hd_X0_words ⟨rfl, rfl⟩ ⟨by decide, by decide⟩ 7 rfl bookF rfl (by decide) (Nat.le_of_ble_eq_true rfl) ⟨Nat.zero_le _, Nat.zero_le _⟩ rfl dX7_keep_20 ?_
  try dsimp only [Nat.reduceAdd, nf_rep1, nf_rep0, nf_d0, nf_t0, nf_s0, nf_ac, nf_an, nf_d1, nf_t1, nf_s1, nf_d2, nf_t2, nf_s2, nf_d3, nf_t3, nf_s3, nf_d4, nf_t4, nf_s4, nf_d5, nf_t5, nf_s5, nf_d6, nf_t6, nf_s6, nf_d7, nf_t7, nf_s7, nf_d8, nf_t8, nf_s8, nf_d9, nf_t9, nf_s9, nf_d10, nf_t10, nf_s10, nf_d11, nf_t11, nf_s11, nf_d12, nf_t12, nf_s12, nf_d13, nf_t13, nf_s13, nf_d14, nf_t14, nf_s14, nf_d15, nf_t15, nf_s15, nf_d16, nf_t16, nf_s16, nf_d17, nf_t17, nf_s17, nf_d18, nf_t18, nf_s18, nf_d19, nf_t19, nf_s19, nf_d20, nf_t20, nf_s20]
  refine v_iret K E dX7_keep_23 ?_ (by (simp only [nf_rep1, nf_rep0, nf_d0, nf_t0, nf_s0, nf_ac, nf_an, List.map_cons, List.map_nil, cM_1, rowM_1, rowsM_1, rdM_1, spM_1, bookM_1, svM_1, hiM_1]))
  exact ⟨rfl, (_, _, (_, _, _, _, _), _, _, _), rfl⟩

theorem hd_X7_restore : yX7_restore.cls = RX7 ∧ yX7_restore.cls ≠ "java/lang/invoke/MethodHandle" ∧ yX7_restore.cls ≠ "java/lang/invoke/VarHandle" ∧ (parseMethodDescriptor yX7_restore.desc).map (fun d => d.parameters.length) = some 0 := by decide +kernel
set_option maxHeartbeats 4000000 in
set_option maxRecDepth 100000 in
theorem c_X7_restore (cI cB : ClassId) (a : Nat → Nat) (g HB : Nat → Nat → Nat) (ts cs : List Int32) (S SS : Bk) (hn : Bool) (hs : List Bk) (ns xs : List Int32) (P e s d k : Int32) (T : T4) (D : Bk) (w : Sv)  : Ct cI cB yX7_restore wsX7_restore { frames := 6, cells := 0, slots := 0, locals := 142 } [.ref (a 0)] [cM (a 0) (.inr (7, [.ref (a 1), .ref (a 3), .ref (a 5), .ref (a 7), .ref (g 0 0), .ref (g 1 0), .ref (g 2 0), .ref (g 3 0), .int (bI hn), .ref (a 10), .ref (g 4 0), .ref (g 5 0)])), rowM cI (a 1) (a 2) 60 ts, rowM cI (a 3) (a 4) 400 cs, rowM cI (a 5) (a 6) 400 ns, rdM (a 7) (a 8) (a 1) P e s d k, rowM cI (a 8) (a 9) 25 xs, spM cI (g 0) T, bookM cI (g 1) 30 20 S, bookM cI (g 2) 60 50 D, bookM cI (g 3) 30 20 SS, hiM cI cB (a 10) (a 11) HB hs, svM cI (g 4) (svy S), svM cI (g 5) w] (po cI cB a g HB (sRest (ts, cs, S, SS, hn, hs)).1 (sRest (ts, cs, S, SS, hn, hs)).2) := by
  refine ct_of (cc := cX7_restore) (maxL := 1) (ret := (some .int)) (by decide) rfl (Nat.le_of_ble_eq_true rfl) [(0, .ref (a 0))] rfl ?_
  intro X hI hB K E
  subst hI
  subst hB
  have iX7 : ∀ w ∈ u_ws RX7 TX7 12, w ∈ wsX7_restore := by decide +kernel
  refine v_aload_n K dX7_restore_0 rfl ?_
  refine v_get K 0 rfl hasF_c rfl iX7 8 (by decide) rfl (by decide +kernel) rfl dX7_restore_1 ?_
  refine v_if_ne K 10 dX7_restore_4 (by decide) (fun c4 => ?_) (fun c4 => ?_)
  · refine v_aload_n K dX7_restore_10 rfl ?_
    refine v_get K 0 rfl hasF_c rfl iX7 9 (by decide) rfl (by decide +kernel) rfl dX7_restore_11 ?_
    refine v_aload_n K dX7_restore_14 rfl ?_
    refine v_get K 0 rfl hasF_c rfl iX7 5 (by decide) rfl (by decide +kernel) rfl dX7_restore_15 ?_
    refine v_callVv K [10, 7] (c_X1_record (XI X) (XB X) _ _ _ _ _ _ _ _ ) rfl gX7_restore_X1_record rfl rfl hd_X1_record ⟨rfl, rfl⟩ ⟨by decide, by decide⟩ 10 rfl hiF rfl (by decide) (Nat.le_of_ble_eq_true rfl) ⟨Nat.zero_le _, Nat.zero_le _⟩ rfl dX7_restore_18 ?_
    try dsimp only [Nat.reduceAdd, nf_rep1, nf_rep0, nf_d0, nf_t0, nf_s0, nf_ac, nf_an, nf_d1, nf_t1, nf_s1, nf_d2, nf_t2, nf_s2, nf_d3, nf_t3, nf_s3, nf_d4, nf_t4, nf_s4, nf_d5, nf_t5, nf_s5, nf_d6, nf_t6, nf_s6, nf_d7, nf_t7, nf_s7, nf_d8, nf_t8, nf_s8, nf_d9, nf_t9, nf_s9, nf_d10, nf_t10, nf_s10, nf_d11, nf_t11, nf_s11, nf_d12, nf_t12, nf_s12, nf_d13, nf_t13, nf_s13, nf_d14, nf_t14, nf_s14, nf_d15, nf_t15, nf_s15, nf_d16, nf_t16, nf_s16, nf_d17, nf_t17, nf_s17, nf_d18, nf_t18, nf_s18, nf_d19, nf_t19, nf_s19, nf_d20, nf_t20, nf_s20]
    refine v_aload_n K dX7_restore_21 rfl ?_
    refine v_get K 0 rfl hasF_c rfl iX7 5 (by decide) rfl (by decide +kernel) rfl dX7_restore_22 ?_
    refine v_aload_n K dX7_restore_25 rfl ?_
    refine v_get K 0 rfl hasF_c rfl iX7 7 (by decide) rfl (by decide +kernel) rfl dX7_restore_26 ?_
    refine v_callVv K [7, 9] (c_X0_copyFrom (XI X) (XB X) _ _ _ _ _ _ _ _ ) rfl gX7_restore_X0_copyFrom rfl rfl hd_X0_copyFrom ⟨rfl, rfl⟩ ⟨by decide, by decide⟩ 7 rfl bookF rfl (by decide) (Nat.le_of_ble_eq_true rfl) ⟨Nat.zero_le _, Nat.zero_le _⟩ rfl dX7_restore_29 ?_
    try dsimp only [Nat.reduceAdd, nf_rep1, nf_rep0, nf_d0, nf_t0, nf_s0, nf_ac, nf_an, nf_d1, nf_t1, nf_s1, nf_d2, nf_t2, nf_s2, nf_d3, nf_t3, nf_s3, nf_d4, nf_t4, nf_s4, nf_d5, nf_t5, nf_s5, nf_d6, nf_t6, nf_s6, nf_d7, nf_t7, nf_s7, nf_d8, nf_t8, nf_s8, nf_d9, nf_t9, nf_s9, nf_d10, nf_t10, nf_s10, nf_d11, nf_t11, nf_s11, nf_d12, nf_t12, nf_s12, nf_d13, nf_t13, nf_s13, nf_d14, nf_t14, nf_s14, nf_d15, nf_t15, nf_s15, nf_d16, nf_t16, nf_s16, nf_d17, nf_t17, nf_s17, nf_d18, nf_t18, nf_s18, nf_d19, nf_t19, nf_s19, nf_d20, nf_t20, nf_s20]
    refine v_aload_n K dX7_restore_32 rfl ?_
    refine v_get K 0 rfl hasF_c rfl iX7 10 (by decide) rfl (by decide +kernel) rfl dX7_restore_33 ?_
    refine v_aload_n K dX7_restore_36 rfl ?_
    refine v_get K 0 rfl hasF_c rfl iX7 5 (by decide) rfl (by decide +kernel) rfl dX7_restore_37 ?_
    refine v_callVv K [11, 7] (c_X6_renew (XI X) (XB X) _ _ _ _ _ _ ) rfl gX7_restore_X6_renew rfl rfl hd_X6_renew ⟨rfl, rfl⟩ ⟨by decide, by decide⟩ 11 rfl svF rfl (by decide) (Nat.le_of_ble_eq_true rfl) ⟨Nat.zero_le _, Nat.zero_le _⟩ rfl dX7_restore_40 ?_
    try dsimp only [Nat.reduceAdd, nf_rep1, nf_rep0, nf_d0, nf_t0, nf_s0, nf_ac, nf_an, nf_d1, nf_t1, nf_s1, nf_d2, nf_t2, nf_s2, nf_d3, nf_t3, nf_s3, nf_d4, nf_t4, nf_s4, nf_d5, nf_t5, nf_s5, nf_d6, nf_t6, nf_s6, nf_d7, nf_t7, nf_s7, nf_d8, nf_t8, nf_s8, nf_d9, nf_t9, nf_s9, nf_d10, nf_t10, nf_s10, nf_d11, nf_t11, nf_s11, nf_d12, nf_t12, nf_s12, nf_d13, nf_t13, nf_s13, nf_d14, nf_t14, nf_s14, nf_d15, nf_t15, nf_s15, nf_d16, nf_t16, nf_s16, nf_d17, nf_t17, nf_s17, nf_d18, nf_t18, nf_s18, nf_d19, nf_t19, nf_s19, nf_d20, nf_t20, nf_s20]
    refine v_aload_n K dX7_restore_43 rfl ?_
    refine v_get K 0 rfl hasF_c rfl iX7 5 (by decide) rfl (by decide +kernel) rfl dX7_restore_44 ?_
    refine v_callVi K [7] (c_X0_words (XI X) (XB X) _ _ _ _ ) rfl gX7_restore_X0_words rfl rfl hd_X0_words ⟨rfl, rfl⟩ ⟨by decide, by decide⟩ 7 rfl bookF rfl (by decide) (Nat.le_of_ble_eq_true rfl) ⟨Nat.zero_le _, Nat.zero_le _⟩ rfl dX7_restore_47 ?_
    try dsimp only [Nat.reduceAdd, nf_rep1, nf_rep0, nf_d0, nf_t0, nf_s0, nf_ac, nf_an, nf_d1, nf_t1, nf_s1, nf_d2, nf_t2, nf_s2, nf_d3, nf_t3, nf_s3, nf_d4, nf_t4, nf_s4, nf_d5, nf_t5, nf_s5, nf_d6, nf_t6, nf_s6, nf_d7, nf_t7, nf_s7, nf_d8, nf_t8, nf_s8, nf_d9, nf_t9, nf_s9, nf_d10, nf_t10, nf_s10, nf_d11, nf_t11, nf_s11, nf_d12, nf_t12, nf_s12, nf_d13, nf_t13, nf_s13, nf_d14, nf_t14, nf_s14, nf_d15, nf_t15, nf_s15, nf_d16, nf_t16, nf_s16, nf_d17, nf_t17, nf_s17, nf_d18, nf_t18, nf_s18, nf_d19, nf_t19, nf_s19, nf_d20, nf_t20, nf_s20]
    refine v_iret K E dX7_restore_50 ?_ (by (simp only [nf_rep1, nf_rep0, nf_d0, nf_t0, nf_s0, nf_ac, nf_an, List.map_cons, List.map_nil, cM_1, rowM_1, rowsM_1, rdM_1, spM_1, bookM_1, svM_1, hiM_1]))
    rw [show sRest (ts, cs, S, SS, hn, hs) = _ by unfold sRest; rw [if_pos (bI_1 c4)]]
    exact ⟨rfl, (_, _, (_, _, _, _, _), _, _, _), rfl⟩
  · refine v_bipush K (-5) dX7_restore_7 (by decide) ?_
    refine v_iret K E dX7_restore_9 ?_ (by (simp only [nf_rep1, nf_rep0, nf_d0, nf_t0, nf_s0, nf_ac, nf_an, List.map_cons, List.map_nil, cM_1, rowM_1, rowsM_1, rdM_1, spM_1, bookM_1, svM_1, hiM_1]))
    rw [show sRest (ts, cs, S, SS, hn, hs) = _ by unfold sRest; rw [if_neg (by rw [bI_0 c4]; exact Bool.false_ne_true)]]
    exact ⟨rfl, (_, _, (_, _, _, _, _), _, _, _), rfl⟩

theorem hd_X7_rule : yX7_rule.cls = RX7 ∧ yX7_rule.cls ≠ "java/lang/invoke/MethodHandle" ∧ yX7_rule.cls ≠ "java/lang/invoke/VarHandle" ∧ (parseMethodDescriptor yX7_rule.desc).map (fun d => d.parameters.length) = some 2 := by decide +kernel
set_option maxHeartbeats 4000000 in
set_option maxRecDepth 100000 in
theorem c_X7_rule (cI cB : ClassId) (a : Nat → Nat) (g HB : Nat → Nat → Nat) (ts cs : List Int32) (S SS : Bk) (hn : Bool) (hs : List Bk) (ns xs : List Int32) (P e s d k : Int32) (T : T4) (D : Bk) (w : Sv) (i wh : Int32)  : Ct cI cB yX7_rule wsX7_rule { frames := 3, cells := 0, slots := 0, locals := 62 } [.ref (a 0), .int i, .int wh] [cM (a 0) (.inr (7, [.ref (a 1), .ref (a 3), .ref (a 5), .ref (a 7), .ref (g 0 0), .ref (g 1 0), .ref (g 2 0), .ref (g 3 0), .int (bI hn), .ref (a 10), .ref (g 4 0), .ref (g 5 0)])), rowM cI (a 1) (a 2) 60 ts, rowM cI (a 3) (a 4) 400 cs, rowM cI (a 5) (a 6) 400 ns, rdM (a 7) (a 8) (a 1) P e s d k, rowM cI (a 8) (a 9) 25 xs, spM cI (g 0) T, bookM cI (g 1) 30 20 S, bookM cI (g 2) 60 50 D, bookM cI (g 3) 30 20 SS, hiM cI cB (a 10) (a 11) HB hs, svM cI (g 4) (svy S), svM cI (g 5) w] (po cI cB a g HB (vRule S i wh) (ts, cs, S, SS, hn, hs)) := by
  refine ct_of (cc := cX7_rule) (maxL := 3) (ret := (some .int)) (by decide) rfl (Nat.le_of_ble_eq_true rfl) [(0, .ref (a 0)), (1, .int i), (2, .int wh)] rfl ?_
  intro X hI hB K E
  subst hI
  subst hB
  have iX0 : ∀ w ∈ u_ws RX0 TX0 6, w ∈ wsX7_rule := by decide +kernel
  have iX6 : ∀ w ∈ u_ws RX6 TX6 7, w ∈ wsX7_rule := by decide +kernel
  have iX7 : ∀ w ∈ u_ws RX7 TX7 12, w ∈ wsX7_rule := by decide +kernel
  refine v_aload_n K dX7_rule_0 rfl ?_
  refine v_get K 0 rfl hasF_c rfl iX7 5 (by decide) rfl (by decide +kernel) rfl dX7_rule_1 ?_
  refine v_iload_n K dX7_rule_4 rfl ?_
  refine v_callVi K [7] (c_X0_hasRule (XI X) (XB X) _ _ _ _ _ ) rfl gX7_rule_X0_hasRule rfl rfl hd_X0_hasRule ⟨rfl, rfl⟩ ⟨by decide, by decide⟩ 7 rfl bookF rfl (by decide) (Nat.le_of_ble_eq_true rfl) ⟨Nat.zero_le _, Nat.zero_le _⟩ rfl dX7_rule_5 ?_
  try dsimp only [Nat.reduceAdd, nf_rep1, nf_rep0, nf_d0, nf_t0, nf_s0, nf_ac, nf_an, nf_d1, nf_t1, nf_s1, nf_d2, nf_t2, nf_s2, nf_d3, nf_t3, nf_s3, nf_d4, nf_t4, nf_s4, nf_d5, nf_t5, nf_s5, nf_d6, nf_t6, nf_s6, nf_d7, nf_t7, nf_s7, nf_d8, nf_t8, nf_s8, nf_d9, nf_t9, nf_s9, nf_d10, nf_t10, nf_s10, nf_d11, nf_t11, nf_s11, nf_d12, nf_t12, nf_s12, nf_d13, nf_t13, nf_s13, nf_d14, nf_t14, nf_s14, nf_d15, nf_t15, nf_s15, nf_d16, nf_t16, nf_s16, nf_d17, nf_t17, nf_s17, nf_d18, nf_t18, nf_s18, nf_d19, nf_t19, nf_s19, nf_d20, nf_t20, nf_s20]
  refine v_if_ne K 13 dX7_rule_8 (by decide) (fun c8 => ?_) (fun c8 => ?_)
  · have hL := bI_1 c8
    refine v_iload_n K dX7_rule_13 rfl ?_
    refine v_case (0) (fun s14_0 => ?_) (fun s14_0 => ?_)
    · refine v_tabHit K 44 dX7_rule_14 s14_0 (by decide) (by decide) rfl (by decide) ?_
      refine v_aload_n K dX7_rule_44 rfl ?_
      refine v_get K 0 rfl hasF_c rfl iX7 5 (by decide) rfl (by decide +kernel) rfl dX7_rule_45 ?_
      refine v_obook 7 rfl ?_
      try dsimp only [Nat.reduceAdd, nf_rep1, nf_rep0, nf_d0, nf_t0, nf_s0, nf_ac, nf_an, nf_d1, nf_t1, nf_s1, nf_d2, nf_t2, nf_s2, nf_d3, nf_t3, nf_s3, nf_d4, nf_t4, nf_s4, nf_d5, nf_t5, nf_s5, nf_d6, nf_t6, nf_s6, nf_d7, nf_t7, nf_s7, nf_d8, nf_t8, nf_s8, nf_d9, nf_t9, nf_s9, nf_d10, nf_t10, nf_s10, nf_d11, nf_t11, nf_s11, nf_d12, nf_t12, nf_s12, nf_d13, nf_t13, nf_s13, nf_d14, nf_t14, nf_s14, nf_d15, nf_t15, nf_s15, nf_d16, nf_t16, nf_s16, nf_d17, nf_t17, nf_s17, nf_d18, nf_t18, nf_s18, nf_d19, nf_t19, nf_s19, nf_d20, nf_t20, nf_s20]
      refine v_get K 7 rfl hasF_c rfl iX0 0 (by decide) rfl (by decide +kernel) rfl dX7_rule_48 ?_
      refine v_iload_n K dX7_rule_51 rfl ?_
      refine v_callVi K [8] (c_X4_length (XI X) (XB X) _ _ _ _ _ _ _ _ _ ) rfl gX7_rule_X4_length rfl rfl hd_X4_length ⟨rfl, rfl⟩ ⟨by decide, by decide⟩ 8 rfl rowsF rfl (by decide) (Nat.le_of_ble_eq_true rfl) ⟨Nat.zero_le _, Nat.zero_le _⟩ rfl dX7_rule_52 ?_
      try dsimp only [Nat.reduceAdd, nf_rep1, nf_rep0, nf_d0, nf_t0, nf_s0, nf_ac, nf_an, nf_d1, nf_t1, nf_s1, nf_d2, nf_t2, nf_s2, nf_d3, nf_t3, nf_s3, nf_d4, nf_t4, nf_s4, nf_d5, nf_t5, nf_s5, nf_d6, nf_t6, nf_s6, nf_d7, nf_t7, nf_s7, nf_d8, nf_t8, nf_s8, nf_d9, nf_t9, nf_s9, nf_d10, nf_t10, nf_s10, nf_d11, nf_t11, nf_s11, nf_d12, nf_t12, nf_s12, nf_d13, nf_t13, nf_s13, nf_d14, nf_t14, nf_s14, nf_d15, nf_t15, nf_s15, nf_d16, nf_t16, nf_s16, nf_d17, nf_t17, nf_s17, nf_d18, nf_t18, nf_s18, nf_d19, nf_t19, nf_s19, nf_d20, nf_t20, nf_s20]
      refine v_cbook  7 rfl ?_
      try dsimp only [Nat.reduceAdd, nf_rep1, nf_rep0, nf_d0, nf_t0, nf_s0, nf_ac, nf_an, nf_d1, nf_t1, nf_s1, nf_d2, nf_t2, nf_s2, nf_d3, nf_t3, nf_s3, nf_d4, nf_t4, nf_s4, nf_d5, nf_t5, nf_s5, nf_d6, nf_t6, nf_s6, nf_d7, nf_t7, nf_s7, nf_d8, nf_t8, nf_s8, nf_d9, nf_t9, nf_s9, nf_d10, nf_t10, nf_s10, nf_d11, nf_t11, nf_s11, nf_d12, nf_t12, nf_s12, nf_d13, nf_t13, nf_s13, nf_d14, nf_t14, nf_s14, nf_d15, nf_t15, nf_s15, nf_d16, nf_t16, nf_s16, nf_d17, nf_t17, nf_s17, nf_d18, nf_t18, nf_s18, nf_d19, nf_t19, nf_s19, nf_d20, nf_t20, nf_s20]
      refine v_iret K E dX7_rule_55 ?_ (by (simp only [nf_rep1, nf_rep0, nf_d0, nf_t0, nf_s0, nf_ac, nf_an, List.map_cons, List.map_nil, cM_1, rowM_1, rowsM_1, rdM_1, spM_1, bookM_1, svM_1, hiM_1]))
      rw [show vRule S i wh = _ by unfold vRule; rw [if_pos hL, if_pos s14_0]]
      exact ⟨rfl, (_, _, (_, _, _, _, _), _, _, _), rfl⟩
    · refine v_case (1) (fun s14_1 => ?_) (fun s14_1 => ?_)
      · refine v_tabHit K 56 dX7_rule_14 s14_1 (by decide) (by decide) rfl (by decide) ?_
        refine v_aload_n K dX7_rule_56 rfl ?_
        refine v_get K 0 rfl hasF_c rfl iX7 5 (by decide) rfl (by decide +kernel) rfl dX7_rule_57 ?_
        refine v_obook 7 rfl ?_
        try dsimp only [Nat.reduceAdd, nf_rep1, nf_rep0, nf_d0, nf_t0, nf_s0, nf_ac, nf_an, nf_d1, nf_t1, nf_s1, nf_d2, nf_t2, nf_s2, nf_d3, nf_t3, nf_s3, nf_d4, nf_t4, nf_s4, nf_d5, nf_t5, nf_s5, nf_d6, nf_t6, nf_s6, nf_d7, nf_t7, nf_s7, nf_d8, nf_t8, nf_s8, nf_d9, nf_t9, nf_s9, nf_d10, nf_t10, nf_s10, nf_d11, nf_t11, nf_s11, nf_d12, nf_t12, nf_s12, nf_d13, nf_t13, nf_s13, nf_d14, nf_t14, nf_s14, nf_d15, nf_t15, nf_s15, nf_d16, nf_t16, nf_s16, nf_d17, nf_t17, nf_s17, nf_d18, nf_t18, nf_s18, nf_d19, nf_t19, nf_s19, nf_d20, nf_t20, nf_s20]
        refine v_get K 7 rfl hasF_c rfl iX0 1 (by decide) rfl (by decide +kernel) rfl dX7_rule_60 ?_
        refine v_iload_n K dX7_rule_63 rfl ?_
        refine v_callVi K [9] (c_X3_get (XI X) (XB X) _ _ _ _ _ ) rfl gX7_rule_X3_get rfl rfl hd_X3_get ⟨rfl, rfl⟩ ⟨by decide, by decide⟩ 9 rfl rowF rfl (by decide) (Nat.le_of_ble_eq_true rfl) ⟨Nat.zero_le _, Nat.zero_le _⟩ rfl dX7_rule_64 ?_
        try dsimp only [Nat.reduceAdd, nf_rep1, nf_rep0, nf_d0, nf_t0, nf_s0, nf_ac, nf_an, nf_d1, nf_t1, nf_s1, nf_d2, nf_t2, nf_s2, nf_d3, nf_t3, nf_s3, nf_d4, nf_t4, nf_s4, nf_d5, nf_t5, nf_s5, nf_d6, nf_t6, nf_s6, nf_d7, nf_t7, nf_s7, nf_d8, nf_t8, nf_s8, nf_d9, nf_t9, nf_s9, nf_d10, nf_t10, nf_s10, nf_d11, nf_t11, nf_s11, nf_d12, nf_t12, nf_s12, nf_d13, nf_t13, nf_s13, nf_d14, nf_t14, nf_s14, nf_d15, nf_t15, nf_s15, nf_d16, nf_t16, nf_s16, nf_d17, nf_t17, nf_s17, nf_d18, nf_t18, nf_s18, nf_d19, nf_t19, nf_s19, nf_d20, nf_t20, nf_s20]
        refine v_cbook  7 rfl ?_
        try dsimp only [Nat.reduceAdd, nf_rep1, nf_rep0, nf_d0, nf_t0, nf_s0, nf_ac, nf_an, nf_d1, nf_t1, nf_s1, nf_d2, nf_t2, nf_s2, nf_d3, nf_t3, nf_s3, nf_d4, nf_t4, nf_s4, nf_d5, nf_t5, nf_s5, nf_d6, nf_t6, nf_s6, nf_d7, nf_t7, nf_s7, nf_d8, nf_t8, nf_s8, nf_d9, nf_t9, nf_s9, nf_d10, nf_t10, nf_s10, nf_d11, nf_t11, nf_s11, nf_d12, nf_t12, nf_s12, nf_d13, nf_t13, nf_s13, nf_d14, nf_t14, nf_s14, nf_d15, nf_t15, nf_s15, nf_d16, nf_t16, nf_s16, nf_d17, nf_t17, nf_s17, nf_d18, nf_t18, nf_s18, nf_d19, nf_t19, nf_s19, nf_d20, nf_t20, nf_s20]
        refine v_iret K E dX7_rule_67 ?_ (by (simp only [nf_rep1, nf_rep0, nf_d0, nf_t0, nf_s0, nf_ac, nf_an, List.map_cons, List.map_nil, cM_1, rowM_1, rowsM_1, rdM_1, spM_1, bookM_1, svM_1, hiM_1]))
        rw [show vRule S i wh = _ by unfold vRule; rw [if_pos hL, if_neg s14_0, if_pos s14_1]]
        exact ⟨rfl, (_, _, (_, _, _, _, _), _, _, _), rfl⟩
      · refine v_case (2) (fun s14_2 => ?_) (fun s14_2 => ?_)
        · refine v_tabHit K 68 dX7_rule_14 s14_2 (by decide) (by decide) rfl (by decide) ?_
          refine v_aload_n K dX7_rule_68 rfl ?_
          refine v_get K 0 rfl hasF_c rfl iX7 5 (by decide) rfl (by decide +kernel) rfl dX7_rule_69 ?_
          refine v_obook 7 rfl ?_
          try dsimp only [Nat.reduceAdd, nf_rep1, nf_rep0, nf_d0, nf_t0, nf_s0, nf_ac, nf_an, nf_d1, nf_t1, nf_s1, nf_d2, nf_t2, nf_s2, nf_d3, nf_t3, nf_s3, nf_d4, nf_t4, nf_s4, nf_d5, nf_t5, nf_s5, nf_d6, nf_t6, nf_s6, nf_d7, nf_t7, nf_s7, nf_d8, nf_t8, nf_s8, nf_d9, nf_t9, nf_s9, nf_d10, nf_t10, nf_s10, nf_d11, nf_t11, nf_s11, nf_d12, nf_t12, nf_s12, nf_d13, nf_t13, nf_s13, nf_d14, nf_t14, nf_s14, nf_d15, nf_t15, nf_s15, nf_d16, nf_t16, nf_s16, nf_d17, nf_t17, nf_s17, nf_d18, nf_t18, nf_s18, nf_d19, nf_t19, nf_s19, nf_d20, nf_t20, nf_s20]
          refine v_get K 7 rfl hasF_c rfl iX0 2 (by decide) rfl (by decide +kernel) rfl dX7_rule_72 ?_
          refine v_iload_n K dX7_rule_75 rfl ?_
          refine v_callVi K [10] (c_X3_get (XI X) (XB X) _ _ _ _ _ ) rfl gX7_rule_X3_get rfl rfl hd_X3_get ⟨rfl, rfl⟩ ⟨by decide, by decide⟩ 10 rfl rowF rfl (by decide) (Nat.le_of_ble_eq_true rfl) ⟨Nat.zero_le _, Nat.zero_le _⟩ rfl dX7_rule_76 ?_
          try dsimp only [Nat.reduceAdd, nf_rep1, nf_rep0, nf_d0, nf_t0, nf_s0, nf_ac, nf_an, nf_d1, nf_t1, nf_s1, nf_d2, nf_t2, nf_s2, nf_d3, nf_t3, nf_s3, nf_d4, nf_t4, nf_s4, nf_d5, nf_t5, nf_s5, nf_d6, nf_t6, nf_s6, nf_d7, nf_t7, nf_s7, nf_d8, nf_t8, nf_s8, nf_d9, nf_t9, nf_s9, nf_d10, nf_t10, nf_s10, nf_d11, nf_t11, nf_s11, nf_d12, nf_t12, nf_s12, nf_d13, nf_t13, nf_s13, nf_d14, nf_t14, nf_s14, nf_d15, nf_t15, nf_s15, nf_d16, nf_t16, nf_s16, nf_d17, nf_t17, nf_s17, nf_d18, nf_t18, nf_s18, nf_d19, nf_t19, nf_s19, nf_d20, nf_t20, nf_s20]
          refine v_cbook  7 rfl ?_
          try dsimp only [Nat.reduceAdd, nf_rep1, nf_rep0, nf_d0, nf_t0, nf_s0, nf_ac, nf_an, nf_d1, nf_t1, nf_s1, nf_d2, nf_t2, nf_s2, nf_d3, nf_t3, nf_s3, nf_d4, nf_t4, nf_s4, nf_d5, nf_t5, nf_s5, nf_d6, nf_t6, nf_s6, nf_d7, nf_t7, nf_s7, nf_d8, nf_t8, nf_s8, nf_d9, nf_t9, nf_s9, nf_d10, nf_t10, nf_s10, nf_d11, nf_t11, nf_s11, nf_d12, nf_t12, nf_s12, nf_d13, nf_t13, nf_s13, nf_d14, nf_t14, nf_s14, nf_d15, nf_t15, nf_s15, nf_d16, nf_t16, nf_s16, nf_d17, nf_t17, nf_s17, nf_d18, nf_t18, nf_s18, nf_d19, nf_t19, nf_s19, nf_d20, nf_t20, nf_s20]
          refine v_iret K E dX7_rule_79 ?_ (by (simp only [nf_rep1, nf_rep0, nf_d0, nf_t0, nf_s0, nf_ac, nf_an, List.map_cons, List.map_nil, cM_1, rowM_1, rowsM_1, rdM_1, spM_1, bookM_1, svM_1, hiM_1]))
          rw [show vRule S i wh = _ by unfold vRule; rw [if_pos hL, if_neg s14_0, if_neg s14_1, if_pos s14_2]]
          exact ⟨rfl, (_, _, (_, _, _, _, _), _, _, _), rfl⟩
        · refine v_case (3) (fun s14_3 => ?_) (fun s14_3 => ?_)
          · refine v_tabHit K 80 dX7_rule_14 s14_3 (by decide) (by decide) rfl (by decide) ?_
            refine v_aload_n K dX7_rule_80 rfl ?_
            refine v_get K 0 rfl hasF_c rfl iX7 10 (by decide) rfl (by decide +kernel) rfl dX7_rule_81 ?_
            refine v_osv 11 rfl (fun T w => ?_)
            try dsimp only [Nat.reduceAdd, nf_rep1, nf_rep0, nf_d0, nf_t0, nf_s0, nf_ac, nf_an, nf_d1, nf_t1, nf_s1, nf_d2, nf_t2, nf_s2, nf_d3, nf_t3, nf_s3, nf_d4, nf_t4, nf_s4, nf_d5, nf_t5, nf_s5, nf_d6, nf_t6, nf_s6, nf_d7, nf_t7, nf_s7, nf_d8, nf_t8, nf_s8, nf_d9, nf_t9, nf_s9, nf_d10, nf_t10, nf_s10, nf_d11, nf_t11, nf_s11, nf_d12, nf_t12, nf_s12, nf_d13, nf_t13, nf_s13, nf_d14, nf_t14, nf_s14, nf_d15, nf_t15, nf_s15, nf_d16, nf_t16, nf_s16, nf_d17, nf_t17, nf_s17, nf_d18, nf_t18, nf_s18, nf_d19, nf_t19, nf_s19, nf_d20, nf_t20, nf_s20]
            refine v_get K 11 rfl hasF_c rfl iX6 4 (by decide) rfl (by decide +kernel) rfl dX7_rule_84 ?_
            refine v_iload_n K dX7_rule_87 rfl ?_
            refine v_callVi K [16] (c_X3_get (XI X) (XB X) _ _ _ _ _ ) rfl gX7_rule_X3_get rfl rfl hd_X3_get ⟨rfl, rfl⟩ ⟨by decide, by decide⟩ 16 rfl rowF rfl (by decide) (Nat.le_of_ble_eq_true rfl) ⟨Nat.zero_le _, Nat.zero_le _⟩ rfl dX7_rule_88 ?_
            try dsimp only [Nat.reduceAdd, nf_rep1, nf_rep0, nf_d0, nf_t0, nf_s0, nf_ac, nf_an, nf_d1, nf_t1, nf_s1, nf_d2, nf_t2, nf_s2, nf_d3, nf_t3, nf_s3, nf_d4, nf_t4, nf_s4, nf_d5, nf_t5, nf_s5, nf_d6, nf_t6, nf_s6, nf_d7, nf_t7, nf_s7, nf_d8, nf_t8, nf_s8, nf_d9, nf_t9, nf_s9, nf_d10, nf_t10, nf_s10, nf_d11, nf_t11, nf_s11, nf_d12, nf_t12, nf_s12, nf_d13, nf_t13, nf_s13, nf_d14, nf_t14, nf_s14, nf_d15, nf_t15, nf_s15, nf_d16, nf_t16, nf_s16, nf_d17, nf_t17, nf_s17, nf_d18, nf_t18, nf_s18, nf_d19, nf_t19, nf_s19, nf_d20, nf_t20, nf_s20]
            refine v_csv  11 rfl ?_
            try dsimp only [Nat.reduceAdd, nf_rep1, nf_rep0, nf_d0, nf_t0, nf_s0, nf_ac, nf_an, nf_d1, nf_t1, nf_s1, nf_d2, nf_t2, nf_s2, nf_d3, nf_t3, nf_s3, nf_d4, nf_t4, nf_s4, nf_d5, nf_t5, nf_s5, nf_d6, nf_t6, nf_s6, nf_d7, nf_t7, nf_s7, nf_d8, nf_t8, nf_s8, nf_d9, nf_t9, nf_s9, nf_d10, nf_t10, nf_s10, nf_d11, nf_t11, nf_s11, nf_d12, nf_t12, nf_s12, nf_d13, nf_t13, nf_s13, nf_d14, nf_t14, nf_s14, nf_d15, nf_t15, nf_s15, nf_d16, nf_t16, nf_s16, nf_d17, nf_t17, nf_s17, nf_d18, nf_t18, nf_s18, nf_d19, nf_t19, nf_s19, nf_d20, nf_t20, nf_s20]
            refine v_iret K E dX7_rule_91 ?_ (by (simp only [nf_rep1, nf_rep0, nf_d0, nf_t0, nf_s0, nf_ac, nf_an, List.map_cons, List.map_nil, cM_1, rowM_1, rowsM_1, rdM_1, spM_1, bookM_1, svM_1, hiM_1]))
            rw [show vRule S i wh = _ by unfold vRule; rw [if_pos hL, if_neg s14_0, if_neg s14_1, if_neg s14_2, if_pos s14_3]]
            exact ⟨rfl, (_, _, (_, _, _, _, _), _, _, _), rfl⟩
          · refine v_tabOut K 92 dX7_rule_14 (by have h0 := lv_neT (k := 0) (a := 0) s14_0 rfl; have h1 := lv_neT (k := 1) (a := 1) s14_1 rfl; have h2 := lv_neT (k := 2) (a := 2) s14_2 rfl; have h3 := lv_neT (k := 3) (a := 3) s14_3 rfl; omega) (by decide) ?_
            refine v_bipush K (-2) dX7_rule_92 (by decide) ?_
            refine v_iret K E dX7_rule_94 ?_ (by (simp only [nf_rep1, nf_rep0, nf_d0, nf_t0, nf_s0, nf_ac, nf_an, List.map_cons, List.map_nil, cM_1, rowM_1, rowsM_1, rdM_1, spM_1, bookM_1, svM_1, hiM_1]))
            rw [show vRule S i wh = _ by unfold vRule; rw [if_pos hL, if_neg s14_0, if_neg s14_1, if_neg s14_2, if_neg s14_3]]
            exact ⟨rfl, (_, _, (_, _, _, _, _), _, _, _), rfl⟩
  · refine v_iconst K (-1) dX7_rule_11 (by decide) ?_
    refine v_iret K E dX7_rule_12 ?_ (by (simp only [nf_rep1, nf_rep0, nf_d0, nf_t0, nf_s0, nf_ac, nf_an, List.map_cons, List.map_nil, cM_1, rowM_1, rowsM_1, rdM_1, spM_1, bookM_1, svM_1, hiM_1]))
    rw [show vRule S i wh = _ by unfold vRule; rw [if_neg (by rw [bI_0 c8]; exact Bool.false_ne_true)]]
    exact ⟨rfl, (_, _, (_, _, _, _, _), _, _, _), rfl⟩

theorem hd_X7_letterOf : yX7_letterOf.cls = RX7 ∧ yX7_letterOf.cls ≠ "java/lang/invoke/MethodHandle" ∧ yX7_letterOf.cls ≠ "java/lang/invoke/VarHandle" ∧ (parseMethodDescriptor yX7_letterOf.desc).map (fun d => d.parameters.length) = some 2 := by decide +kernel
set_option maxHeartbeats 4000000 in
set_option maxRecDepth 100000 in
theorem c_X7_letterOf (cI cB : ClassId) (a : Nat → Nat) (g HB : Nat → Nat → Nat) (ts cs : List Int32) (S SS : Bk) (hn : Bool) (hs : List Bk) (ns xs : List Int32) (P e s d k : Int32) (T : T4) (D : Bk) (w : Sv) (i j : Int32)  : Ct cI cB yX7_letterOf wsX7_letterOf { frames := 3, cells := 0, slots := 0, locals := 62 } [.ref (a 0), .int i, .int j] [cM (a 0) (.inr (7, [.ref (a 1), .ref (a 3), .ref (a 5), .ref (a 7), .ref (g 0 0), .ref (g 1 0), .ref (g 2 0), .ref (g 3 0), .int (bI hn), .ref (a 10), .ref (g 4 0), .ref (g 5 0)])), rowM cI (a 1) (a 2) 60 ts, rowM cI (a 3) (a 4) 400 cs, rowM cI (a 5) (a 6) 400 ns, rdM (a 7) (a 8) (a 1) P e s d k, rowM cI (a 8) (a 9) 25 xs, spM cI (g 0) T, bookM cI (g 1) 30 20 S, bookM cI (g 2) 60 50 D, bookM cI (g 3) 30 20 SS, hiM cI cB (a 10) (a 11) HB hs, svM cI (g 4) (svy S), svM cI (g 5) w] (po cI cB a g HB (vLetter S i j) (ts, cs, S, SS, hn, hs)) := by
  refine ct_of (cc := cX7_letterOf) (maxL := 3) (ret := (some .int)) (by decide) rfl (Nat.le_of_ble_eq_true rfl) [(0, .ref (a 0)), (1, .int i), (2, .int j)] rfl ?_
  intro X hI hB K E
  subst hI
  subst hB
  have iX0 : ∀ w ∈ u_ws RX0 TX0 6, w ∈ wsX7_letterOf := by decide +kernel
  have iX7 : ∀ w ∈ u_ws RX7 TX7 12, w ∈ wsX7_letterOf := by decide +kernel
  refine v_aload_n K dX7_letterOf_0 rfl ?_
  refine v_get K 0 rfl hasF_c rfl iX7 5 (by decide) rfl (by decide +kernel) rfl dX7_letterOf_1 ?_
  refine v_iload_n K dX7_letterOf_4 rfl ?_
  refine v_callVi K [7] (c_X0_hasRule (XI X) (XB X) _ _ _ _ _ ) rfl gX7_letterOf_X0_hasRule rfl rfl hd_X0_hasRule ⟨rfl, rfl⟩ ⟨by decide, by decide⟩ 7 rfl bookF rfl (by decide) (Nat.le_of_ble_eq_true rfl) ⟨Nat.zero_le _, Nat.zero_le _⟩ rfl dX7_letterOf_5 ?_
  try dsimp only [Nat.reduceAdd, nf_rep1, nf_rep0, nf_d0, nf_t0, nf_s0, nf_ac, nf_an, nf_d1, nf_t1, nf_s1, nf_d2, nf_t2, nf_s2, nf_d3, nf_t3, nf_s3, nf_d4, nf_t4, nf_s4, nf_d5, nf_t5, nf_s5, nf_d6, nf_t6, nf_s6, nf_d7, nf_t7, nf_s7, nf_d8, nf_t8, nf_s8, nf_d9, nf_t9, nf_s9, nf_d10, nf_t10, nf_s10, nf_d11, nf_t11, nf_s11, nf_d12, nf_t12, nf_s12, nf_d13, nf_t13, nf_s13, nf_d14, nf_t14, nf_s14, nf_d15, nf_t15, nf_s15, nf_d16, nf_t16, nf_s16, nf_d17, nf_t17, nf_s17, nf_d18, nf_t18, nf_s18, nf_d19, nf_t19, nf_s19, nf_d20, nf_t20, nf_s20]
  refine v_if_ne K 13 dX7_letterOf_8 (by decide) (fun c8 => ?_) (fun c8 => ?_)
  · have hL := bI_1 c8
    refine v_iload_n K dX7_letterOf_13 rfl ?_
    refine v_if_ge K 22 dX7_letterOf_14 (by decide) (fun c14 => ?_) (fun c14 => ?_)
    · refine v_aload_n K dX7_letterOf_22 rfl ?_
      refine v_get K 0 rfl hasF_c rfl iX7 5 (by decide) rfl (by decide +kernel) rfl dX7_letterOf_23 ?_
      refine v_obook 7 rfl ?_
      try dsimp only [Nat.reduceAdd, nf_rep1, nf_rep0, nf_d0, nf_t0, nf_s0, nf_ac, nf_an, nf_d1, nf_t1, nf_s1, nf_d2, nf_t2, nf_s2, nf_d3, nf_t3, nf_s3, nf_d4, nf_t4, nf_s4, nf_d5, nf_t5, nf_s5, nf_d6, nf_t6, nf_s6, nf_d7, nf_t7, nf_s7, nf_d8, nf_t8, nf_s8, nf_d9, nf_t9, nf_s9, nf_d10, nf_t10, nf_s10, nf_d11, nf_t11, nf_s11, nf_d12, nf_t12, nf_s12, nf_d13, nf_t13, nf_s13, nf_d14, nf_t14, nf_s14, nf_d15, nf_t15, nf_s15, nf_d16, nf_t16, nf_s16, nf_d17, nf_t17, nf_s17, nf_d18, nf_t18, nf_s18, nf_d19, nf_t19, nf_s19, nf_d20, nf_t20, nf_s20]
      refine v_get K 7 rfl hasF_c rfl iX0 0 (by decide) rfl (by decide +kernel) rfl dX7_letterOf_26 ?_
      refine v_iload_n K dX7_letterOf_29 rfl ?_
      refine v_iload_n K dX7_letterOf_30 rfl ?_
      refine v_callVi K [8] (c_X4_get (XI X) (XB X) _ _ _ _ _ _ _ _ _ _ ) rfl gX7_letterOf_X4_get rfl rfl hd_X4_get ⟨rfl, rfl⟩ ⟨by decide, by decide⟩ 8 rfl rowsF rfl (by decide) (Nat.le_of_ble_eq_true rfl) ⟨Nat.zero_le _, Nat.zero_le _⟩ rfl dX7_letterOf_31 ?_
      try dsimp only [Nat.reduceAdd, nf_rep1, nf_rep0, nf_d0, nf_t0, nf_s0, nf_ac, nf_an, nf_d1, nf_t1, nf_s1, nf_d2, nf_t2, nf_s2, nf_d3, nf_t3, nf_s3, nf_d4, nf_t4, nf_s4, nf_d5, nf_t5, nf_s5, nf_d6, nf_t6, nf_s6, nf_d7, nf_t7, nf_s7, nf_d8, nf_t8, nf_s8, nf_d9, nf_t9, nf_s9, nf_d10, nf_t10, nf_s10, nf_d11, nf_t11, nf_s11, nf_d12, nf_t12, nf_s12, nf_d13, nf_t13, nf_s13, nf_d14, nf_t14, nf_s14, nf_d15, nf_t15, nf_s15, nf_d16, nf_t16, nf_s16, nf_d17, nf_t17, nf_s17, nf_d18, nf_t18, nf_s18, nf_d19, nf_t19, nf_s19, nf_d20, nf_t20, nf_s20]
      refine v_cbook  7 rfl ?_
      try dsimp only [Nat.reduceAdd, nf_rep1, nf_rep0, nf_d0, nf_t0, nf_s0, nf_ac, nf_an, nf_d1, nf_t1, nf_s1, nf_d2, nf_t2, nf_s2, nf_d3, nf_t3, nf_s3, nf_d4, nf_t4, nf_s4, nf_d5, nf_t5, nf_s5, nf_d6, nf_t6, nf_s6, nf_d7, nf_t7, nf_s7, nf_d8, nf_t8, nf_s8, nf_d9, nf_t9, nf_s9, nf_d10, nf_t10, nf_s10, nf_d11, nf_t11, nf_s11, nf_d12, nf_t12, nf_s12, nf_d13, nf_t13, nf_s13, nf_d14, nf_t14, nf_s14, nf_d15, nf_t15, nf_s15, nf_d16, nf_t16, nf_s16, nf_d17, nf_t17, nf_s17, nf_d18, nf_t18, nf_s18, nf_d19, nf_t19, nf_s19, nf_d20, nf_t20, nf_s20]
      refine v_iret K E dX7_letterOf_34 ?_ (by (simp only [nf_rep1, nf_rep0, nf_d0, nf_t0, nf_s0, nf_ac, nf_an, List.map_cons, List.map_nil, cM_1, rowM_1, rowsM_1, rdM_1, spM_1, bookM_1, svM_1, hiM_1]))
      rw [show vLetter S i j = _ by unfold vLetter; rw [if_pos hL, if_pos c14]]
      exact ⟨rfl, (_, _, (_, _, _, _, _), _, _, _), rfl⟩
    · refine v_bipush K (-2) dX7_letterOf_17 (by decide) ?_
      refine v_goto K 34 dX7_letterOf_19 (by decide) ?_
      refine v_iret K E dX7_letterOf_34 ?_ (by (simp only [nf_rep1, nf_rep0, nf_d0, nf_t0, nf_s0, nf_ac, nf_an, List.map_cons, List.map_nil, cM_1, rowM_1, rowsM_1, rdM_1, spM_1, bookM_1, svM_1, hiM_1]))
      rw [show vLetter S i j = _ by unfold vLetter; rw [if_pos hL, if_neg c14]]
      exact ⟨rfl, (_, _, (_, _, _, _, _), _, _, _), rfl⟩
  · refine v_iconst K (-1) dX7_letterOf_11 (by decide) ?_
    refine v_iret K E dX7_letterOf_12 ?_ (by (simp only [nf_rep1, nf_rep0, nf_d0, nf_t0, nf_s0, nf_ac, nf_an, List.map_cons, List.map_nil, cM_1, rowM_1, rowsM_1, rdM_1, spM_1, bookM_1, svM_1, hiM_1]))
    rw [show vLetter S i j = _ by unfold vLetter; rw [if_neg (by rw [bI_0 c8]; exact Bool.false_ne_true)]]
    exact ⟨rfl, (_, _, (_, _, _, _, _), _, _, _), rfl⟩

theorem hd_X7_sign : yX7_sign.cls = RX7 ∧ yX7_sign.cls ≠ "java/lang/invoke/MethodHandle" ∧ yX7_sign.cls ≠ "java/lang/invoke/VarHandle" ∧ (parseMethodDescriptor yX7_sign.desc).map (fun d => d.parameters.length) = some 2 := by decide +kernel
set_option maxHeartbeats 4000000 in
set_option maxRecDepth 100000 in
theorem c_X7_sign (cI cB : ClassId) (a : Nat → Nat) (g HB : Nat → Nat → Nat) (ts cs : List Int32) (S SS : Bk) (hn : Bool) (hs : List Bk) (ns xs : List Int32) (P e s d k : Int32) (T : T4) (D : Bk) (w : Sv) (c j : Int32)  : Ct cI cB yX7_sign wsX7_sign { frames := 2, cells := 0, slots := 0, locals := 44 } [.ref (a 0), .int c, .int j] [cM (a 0) (.inr (7, [.ref (a 1), .ref (a 3), .ref (a 5), .ref (a 7), .ref (g 0 0), .ref (g 1 0), .ref (g 2 0), .ref (g 3 0), .int (bI hn), .ref (a 10), .ref (g 4 0), .ref (g 5 0)])), rowM cI (a 1) (a 2) 60 ts, rowM cI (a 3) (a 4) 400 cs, rowM cI (a 5) (a 6) 400 ns, rdM (a 7) (a 8) (a 1) P e s d k, rowM cI (a 8) (a 9) 25 xs, spM cI (g 0) T, bookM cI (g 1) 30 20 S, bookM cI (g 2) 60 50 D, bookM cI (g 3) 30 20 SS, hiM cI cB (a 10) (a 11) HB hs, svM cI (g 4) (svy S), svM cI (g 5) w] (po cI cB a g HB (vSign S c j) (ts, cs, S, SS, hn, hs)) := by
  refine ct_of (cc := cX7_sign) (maxL := 3) (ret := (some .int)) (by decide) rfl (Nat.le_of_ble_eq_true rfl) [(0, .ref (a 0)), (1, .int c), (2, .int j)] rfl ?_
  intro X hI hB K E
  subst hI
  subst hB
  have iX0 : ∀ w ∈ u_ws RX0 TX0 6, w ∈ wsX7_sign := by decide +kernel
  have iX7 : ∀ w ∈ u_ws RX7 TX7 12, w ∈ wsX7_sign := by decide +kernel
  refine v_iload_n K dX7_sign_0 rfl ?_
  refine v_callSi K [] (c_X7_isCapital (XI X) (XB X) _ ) rfl gX7_sign_X7_isCapital rfl rfl hd_X7_isCapital ⟨rfl, rfl⟩ ⟨by decide, by decide⟩ (by decide) (Nat.le_of_ble_eq_true rfl) ⟨Nat.zero_le _, Nat.zero_le _⟩ rfl dX7_sign_1 ?_
  try dsimp only [Nat.reduceAdd, nf_rep1, nf_rep0, nf_d0, nf_t0, nf_s0, nf_ac, nf_an, nf_d1, nf_t1, nf_s1, nf_d2, nf_t2, nf_s2, nf_d3, nf_t3, nf_s3, nf_d4, nf_t4, nf_s4, nf_d5, nf_t5, nf_s5, nf_d6, nf_t6, nf_s6, nf_d7, nf_t7, nf_s7, nf_d8, nf_t8, nf_s8, nf_d9, nf_t9, nf_s9, nf_d10, nf_t10, nf_s10, nf_d11, nf_t11, nf_s11, nf_d12, nf_t12, nf_s12, nf_d13, nf_t13, nf_s13, nf_d14, nf_t14, nf_s14, nf_d15, nf_t15, nf_s15, nf_d16, nf_t16, nf_s16, nf_d17, nf_t17, nf_s17, nf_d18, nf_t18, nf_s18, nf_d19, nf_t19, nf_s19, nf_d20, nf_t20, nf_s20]
  refine v_if_ne K 9 dX7_sign_4 (by decide) (fun c4 => ?_) (fun c4 => ?_)
  · have hL := bI_1 c4
    refine v_iload_n K dX7_sign_9 rfl ?_
    refine v_if_lt K 18 dX7_sign_10 (by decide) (fun c10 => ?_) (fun c10 => ?_)
    · refine v_bipush K (-2) dX7_sign_18 (by decide) ?_
      refine v_iret K E dX7_sign_20 ?_ (by (simp only [nf_rep1, nf_rep0, nf_d0, nf_t0, nf_s0, nf_ac, nf_an, List.map_cons, List.map_nil, cM_1, rowM_1, rowsM_1, rdM_1, spM_1, bookM_1, svM_1, hiM_1]))
      rw [show vSign S c j = _ by unfold vSign; rw [if_pos hL, if_pos c10]]
      exact ⟨rfl, (_, _, (_, _, _, _, _), _, _, _), rfl⟩
    · refine v_iload_n K dX7_sign_13 rfl ?_
      refine v_iconst K (2) dX7_sign_14 (by decide) ?_
      refine v_ic_lt K 21 dX7_sign_15 (by decide) (fun c15 => ?_) (fun c15 => ?_)
      · refine v_aload_n K dX7_sign_21 rfl ?_
        refine v_get K 0 rfl hasF_c rfl iX7 5 (by decide) rfl (by decide +kernel) rfl dX7_sign_22 ?_
        refine v_obook 7 rfl ?_
        try dsimp only [Nat.reduceAdd, nf_rep1, nf_rep0, nf_d0, nf_t0, nf_s0, nf_ac, nf_an, nf_d1, nf_t1, nf_s1, nf_d2, nf_t2, nf_s2, nf_d3, nf_t3, nf_s3, nf_d4, nf_t4, nf_s4, nf_d5, nf_t5, nf_s5, nf_d6, nf_t6, nf_s6, nf_d7, nf_t7, nf_s7, nf_d8, nf_t8, nf_s8, nf_d9, nf_t9, nf_s9, nf_d10, nf_t10, nf_s10, nf_d11, nf_t11, nf_s11, nf_d12, nf_t12, nf_s12, nf_d13, nf_t13, nf_s13, nf_d14, nf_t14, nf_s14, nf_d15, nf_t15, nf_s15, nf_d16, nf_t16, nf_s16, nf_d17, nf_t17, nf_s17, nf_d18, nf_t18, nf_s18, nf_d19, nf_t19, nf_s19, nf_d20, nf_t20, nf_s20]
        refine v_get K 7 rfl hasF_c rfl iX0 3 (by decide) rfl (by decide +kernel) rfl dX7_sign_25 ?_
        refine v_iload_n K dX7_sign_28 rfl ?_
        refine v_bipush K (65) dX7_sign_29 (by decide) ?_
        refine v_isub K dX7_sign_31 ?_
        refine v_iload_n K dX7_sign_32 rfl ?_
        refine v_callVi K [11] (c_X4_get (XI X) (XB X) _ _ _ _ _ _ _ _ _ _ ) rfl gX7_sign_X4_get rfl rfl hd_X4_get ⟨rfl, rfl⟩ ⟨by decide, by decide⟩ 11 rfl rowsF rfl (by decide) (Nat.le_of_ble_eq_true rfl) ⟨Nat.zero_le _, Nat.zero_le _⟩ rfl dX7_sign_33 ?_
        try dsimp only [Nat.reduceAdd, nf_rep1, nf_rep0, nf_d0, nf_t0, nf_s0, nf_ac, nf_an, nf_d1, nf_t1, nf_s1, nf_d2, nf_t2, nf_s2, nf_d3, nf_t3, nf_s3, nf_d4, nf_t4, nf_s4, nf_d5, nf_t5, nf_s5, nf_d6, nf_t6, nf_s6, nf_d7, nf_t7, nf_s7, nf_d8, nf_t8, nf_s8, nf_d9, nf_t9, nf_s9, nf_d10, nf_t10, nf_s10, nf_d11, nf_t11, nf_s11, nf_d12, nf_t12, nf_s12, nf_d13, nf_t13, nf_s13, nf_d14, nf_t14, nf_s14, nf_d15, nf_t15, nf_s15, nf_d16, nf_t16, nf_s16, nf_d17, nf_t17, nf_s17, nf_d18, nf_t18, nf_s18, nf_d19, nf_t19, nf_s19, nf_d20, nf_t20, nf_s20]
        refine v_cbook  7 rfl ?_
        try dsimp only [Nat.reduceAdd, nf_rep1, nf_rep0, nf_d0, nf_t0, nf_s0, nf_ac, nf_an, nf_d1, nf_t1, nf_s1, nf_d2, nf_t2, nf_s2, nf_d3, nf_t3, nf_s3, nf_d4, nf_t4, nf_s4, nf_d5, nf_t5, nf_s5, nf_d6, nf_t6, nf_s6, nf_d7, nf_t7, nf_s7, nf_d8, nf_t8, nf_s8, nf_d9, nf_t9, nf_s9, nf_d10, nf_t10, nf_s10, nf_d11, nf_t11, nf_s11, nf_d12, nf_t12, nf_s12, nf_d13, nf_t13, nf_s13, nf_d14, nf_t14, nf_s14, nf_d15, nf_t15, nf_s15, nf_d16, nf_t16, nf_s16, nf_d17, nf_t17, nf_s17, nf_d18, nf_t18, nf_s18, nf_d19, nf_t19, nf_s19, nf_d20, nf_t20, nf_s20]
        refine v_iret K E dX7_sign_36 ?_ (by (simp only [nf_rep1, nf_rep0, nf_d0, nf_t0, nf_s0, nf_ac, nf_an, List.map_cons, List.map_nil, cM_1, rowM_1, rowsM_1, rdM_1, spM_1, bookM_1, svM_1, hiM_1]))
        rw [show vSign S c j = _ by unfold vSign; rw [if_pos hL, if_neg c10, if_pos c15]]
        exact ⟨rfl, (_, _, (_, _, _, _, _), _, _, _), rfl⟩
      · refine v_bipush K (-2) dX7_sign_18 (by decide) ?_
        refine v_iret K E dX7_sign_20 ?_ (by (simp only [nf_rep1, nf_rep0, nf_d0, nf_t0, nf_s0, nf_ac, nf_an, List.map_cons, List.map_nil, cM_1, rowM_1, rowsM_1, rdM_1, spM_1, bookM_1, svM_1, hiM_1]))
        rw [show vSign S c j = _ by unfold vSign; rw [if_pos hL, if_neg c10, if_neg c15]]
        exact ⟨rfl, (_, _, (_, _, _, _, _), _, _, _), rfl⟩
  · refine v_iconst K (-1) dX7_sign_7 (by decide) ?_
    refine v_iret K E dX7_sign_8 ?_ (by (simp only [nf_rep1, nf_rep0, nf_d0, nf_t0, nf_s0, nf_ac, nf_an, List.map_cons, List.map_nil, cM_1, rowM_1, rowsM_1, rdM_1, spM_1, bookM_1, svM_1, hiM_1]))
    rw [show vSign S c j = _ by unfold vSign; rw [if_neg (by rw [bI_0 c4]; exact Bool.false_ne_true)]]
    exact ⟨rfl, (_, _, (_, _, _, _, _), _, _, _), rfl⟩

theorem hd_X7_word : yX7_word.cls = RX7 ∧ yX7_word.cls ≠ "java/lang/invoke/MethodHandle" ∧ yX7_word.cls ≠ "java/lang/invoke/VarHandle" ∧ (parseMethodDescriptor yX7_word.desc).map (fun d => d.parameters.length) = some 2 := by decide +kernel
set_option maxHeartbeats 4000000 in
set_option maxRecDepth 100000 in
theorem c_X7_word (cI cB : ClassId) (a : Nat → Nat) (g HB : Nat → Nat → Nat) (ts cs : List Int32) (S SS : Bk) (hn : Bool) (hs : List Bk) (ns xs : List Int32) (P e s d k : Int32) (T : T4) (D : Bk) (w : Sv) (i wh : Int32)  : Ct cI cB yX7_word wsX7_word { frames := 5, cells := 0, slots := 0, locals := 111 } [.ref (a 0), .int i, .int wh] [cM (a 0) (.inr (7, [.ref (a 1), .ref (a 3), .ref (a 5), .ref (a 7), .ref (g 0 0), .ref (g 1 0), .ref (g 2 0), .ref (g 3 0), .int (bI hn), .ref (a 10), .ref (g 4 0), .ref (g 5 0)])), rowM cI (a 1) (a 2) 60 ts, rowM cI (a 3) (a 4) 400 cs, rowM cI (a 5) (a 6) 400 ns, rdM (a 7) (a 8) (a 1) P e s d k, rowM cI (a 8) (a 9) 25 xs, spM cI (g 0) T, bookM cI (g 1) 30 20 S, bookM cI (g 2) 60 50 D, bookM cI (g 3) 30 20 SS, hiM cI cB (a 10) (a 11) HB hs, svM cI (g 4) (svy S), svM cI (g 5) w] (po cI cB a g HB (vWord S i wh) (ts, cs, S, SS, hn, hs)) := by
  refine ct_of (cc := cX7_word) (maxL := 3) (ret := (some .int)) (by decide) rfl (Nat.le_of_ble_eq_true rfl) [(0, .ref (a 0)), (1, .int i), (2, .int wh)] rfl ?_
  intro X hI hB K E
  subst hI
  subst hB
  have iX0 : ∀ w ∈ u_ws RX0 TX0 6, w ∈ wsX7_word := by decide +kernel
  have iX6 : ∀ w ∈ u_ws RX6 TX6 7, w ∈ wsX7_word := by decide +kernel
  have iX7 : ∀ w ∈ u_ws RX7 TX7 12, w ∈ wsX7_word := by decide +kernel
  refine v_bfit 7 rfl (fun hb => ?_)
  have hR := bfit_r hb
  have hW := bfit_w hb
  refine v_aload_n K dX7_word_0 rfl ?_
  refine v_get K 0 rfl hasF_c rfl iX7 5 (by decide) rfl (by decide +kernel) rfl dX7_word_1 ?_
  refine v_iload_n K dX7_word_4 rfl ?_
  refine v_callVi K [7] (c_X0_hasWord (XI X) (XB X) _ _ _ _ _ ) rfl gX7_word_X0_hasWord rfl rfl hd_X0_hasWord ⟨rfl, rfl⟩ ⟨by decide, by decide⟩ 7 rfl bookF rfl (by decide) (Nat.le_of_ble_eq_true rfl) ⟨Nat.zero_le _, Nat.zero_le _⟩ rfl dX7_word_5 ?_
  try dsimp only [Nat.reduceAdd, nf_rep1, nf_rep0, nf_d0, nf_t0, nf_s0, nf_ac, nf_an, nf_d1, nf_t1, nf_s1, nf_d2, nf_t2, nf_s2, nf_d3, nf_t3, nf_s3, nf_d4, nf_t4, nf_s4, nf_d5, nf_t5, nf_s5, nf_d6, nf_t6, nf_s6, nf_d7, nf_t7, nf_s7, nf_d8, nf_t8, nf_s8, nf_d9, nf_t9, nf_s9, nf_d10, nf_t10, nf_s10, nf_d11, nf_t11, nf_s11, nf_d12, nf_t12, nf_s12, nf_d13, nf_t13, nf_s13, nf_d14, nf_t14, nf_s14, nf_d15, nf_t15, nf_s15, nf_d16, nf_t16, nf_s16, nf_d17, nf_t17, nf_s17, nf_d18, nf_t18, nf_s18, nf_d19, nf_t19, nf_s19, nf_d20, nf_t20, nf_s20]
  refine v_if_ne K 13 dX7_word_8 (by decide) (fun c8 => ?_) (fun c8 => ?_)
  · have hL := bI_1 c8
    obtain ⟨I, hI, rfl⟩ := hasL_of hW.1 hL
    refine v_iload_n K dX7_word_13 rfl ?_
    refine v_case (0) (fun s14_0 => ?_) (fun s14_0 => ?_)
    · refine v_tabHit K 56 dX7_word_14 s14_0 (by decide) (by decide) rfl (by decide) ?_
      refine v_aload_n K dX7_word_56 rfl ?_
      refine v_get K 0 rfl hasF_c rfl iX7 5 (by decide) rfl (by decide +kernel) rfl dX7_word_57 ?_
      refine v_obook 7 rfl ?_
      try dsimp only [Nat.reduceAdd, nf_rep1, nf_rep0, nf_d0, nf_t0, nf_s0, nf_ac, nf_an, nf_d1, nf_t1, nf_s1, nf_d2, nf_t2, nf_s2, nf_d3, nf_t3, nf_s3, nf_d4, nf_t4, nf_s4, nf_d5, nf_t5, nf_s5, nf_d6, nf_t6, nf_s6, nf_d7, nf_t7, nf_s7, nf_d8, nf_t8, nf_s8, nf_d9, nf_t9, nf_s9, nf_d10, nf_t10, nf_s10, nf_d11, nf_t11, nf_s11, nf_d12, nf_t12, nf_s12, nf_d13, nf_t13, nf_s13, nf_d14, nf_t14, nf_s14, nf_d15, nf_t15, nf_s15, nf_d16, nf_t16, nf_s16, nf_d17, nf_t17, nf_s17, nf_d18, nf_t18, nf_s18, nf_d19, nf_t19, nf_s19, nf_d20, nf_t20, nf_s20]
      refine v_get K 7 rfl hasF_c rfl iX0 5 (by decide) rfl (by decide +kernel) rfl dX7_word_60 ?_
      refine v_iload_n K dX7_word_63 rfl ?_
      refine v_callVi K [13] (c_X3_get (XI X) (XB X) _ _ _ _ _ ) rfl gX7_word_X3_get rfl rfl hd_X3_get ⟨rfl, rfl⟩ ⟨by decide, by decide⟩ 13 rfl rowF rfl (by decide) (Nat.le_of_ble_eq_true rfl) ⟨Nat.zero_le _, Nat.zero_le _⟩ rfl dX7_word_64 ?_
      try dsimp only [Nat.reduceAdd, nf_rep1, nf_rep0, nf_d0, nf_t0, nf_s0, nf_ac, nf_an, nf_d1, nf_t1, nf_s1, nf_d2, nf_t2, nf_s2, nf_d3, nf_t3, nf_s3, nf_d4, nf_t4, nf_s4, nf_d5, nf_t5, nf_s5, nf_d6, nf_t6, nf_s6, nf_d7, nf_t7, nf_s7, nf_d8, nf_t8, nf_s8, nf_d9, nf_t9, nf_s9, nf_d10, nf_t10, nf_s10, nf_d11, nf_t11, nf_s11, nf_d12, nf_t12, nf_s12, nf_d13, nf_t13, nf_s13, nf_d14, nf_t14, nf_s14, nf_d15, nf_t15, nf_s15, nf_d16, nf_t16, nf_s16, nf_d17, nf_t17, nf_s17, nf_d18, nf_t18, nf_s18, nf_d19, nf_t19, nf_s19, nf_d20, nf_t20, nf_s20]
      refine v_cbook  7 rfl ?_
      try dsimp only [Nat.reduceAdd, nf_rep1, nf_rep0, nf_d0, nf_t0, nf_s0, nf_ac, nf_an, nf_d1, nf_t1, nf_s1, nf_d2, nf_t2, nf_s2, nf_d3, nf_t3, nf_s3, nf_d4, nf_t4, nf_s4, nf_d5, nf_t5, nf_s5, nf_d6, nf_t6, nf_s6, nf_d7, nf_t7, nf_s7, nf_d8, nf_t8, nf_s8, nf_d9, nf_t9, nf_s9, nf_d10, nf_t10, nf_s10, nf_d11, nf_t11, nf_s11, nf_d12, nf_t12, nf_s12, nf_d13, nf_t13, nf_s13, nf_d14, nf_t14, nf_s14, nf_d15, nf_t15, nf_s15, nf_d16, nf_t16, nf_s16, nf_d17, nf_t17, nf_s17, nf_d18, nf_t18, nf_s18, nf_d19, nf_t19, nf_s19, nf_d20, nf_t20, nf_s20]
      refine v_iret K E dX7_word_67 ?_ (by (simp only [nf_rep1, nf_rep0, nf_d0, nf_t0, nf_s0, nf_ac, nf_an, List.map_cons, List.map_nil, cM_1, rowM_1, rowsM_1, rdM_1, spM_1, bookM_1, svM_1, hiM_1]))
      rw [show vWord S (nI I) wh = _ by unfold vWord; rw [if_pos hL, if_pos s14_0]]
      exact ⟨rfl, (_, _, (_, _, _, _, _), _, _, _), rfl⟩
    · refine v_case (1) (fun s14_1 => ?_) (fun s14_1 => ?_)
      · refine v_tabHit K 68 dX7_word_14 s14_1 (by decide) (by decide) rfl (by decide) ?_
        refine v_aload_n K dX7_word_68 rfl ?_
        refine v_get K 0 rfl hasF_c rfl iX7 5 (by decide) rfl (by decide +kernel) rfl dX7_word_69 ?_
        refine v_obook 7 rfl ?_
        try dsimp only [Nat.reduceAdd, nf_rep1, nf_rep0, nf_d0, nf_t0, nf_s0, nf_ac, nf_an, nf_d1, nf_t1, nf_s1, nf_d2, nf_t2, nf_s2, nf_d3, nf_t3, nf_s3, nf_d4, nf_t4, nf_s4, nf_d5, nf_t5, nf_s5, nf_d6, nf_t6, nf_s6, nf_d7, nf_t7, nf_s7, nf_d8, nf_t8, nf_s8, nf_d9, nf_t9, nf_s9, nf_d10, nf_t10, nf_s10, nf_d11, nf_t11, nf_s11, nf_d12, nf_t12, nf_s12, nf_d13, nf_t13, nf_s13, nf_d14, nf_t14, nf_s14, nf_d15, nf_t15, nf_s15, nf_d16, nf_t16, nf_s16, nf_d17, nf_t17, nf_s17, nf_d18, nf_t18, nf_s18, nf_d19, nf_t19, nf_s19, nf_d20, nf_t20, nf_s20]
        refine v_get K 7 rfl hasF_c rfl iX0 4 (by decide) rfl (by decide +kernel) rfl dX7_word_72 ?_
        refine v_iload_n K dX7_word_75 rfl ?_
        refine v_callVi K [12] (c_X4_length (XI X) (XB X) _ _ _ _ _ _ _ _ _ ) rfl gX7_word_X4_length rfl rfl hd_X4_length ⟨rfl, rfl⟩ ⟨by decide, by decide⟩ 12 rfl rowsF rfl (by decide) (Nat.le_of_ble_eq_true rfl) ⟨Nat.zero_le _, Nat.zero_le _⟩ rfl dX7_word_76 ?_
        try dsimp only [Nat.reduceAdd, nf_rep1, nf_rep0, nf_d0, nf_t0, nf_s0, nf_ac, nf_an, nf_d1, nf_t1, nf_s1, nf_d2, nf_t2, nf_s2, nf_d3, nf_t3, nf_s3, nf_d4, nf_t4, nf_s4, nf_d5, nf_t5, nf_s5, nf_d6, nf_t6, nf_s6, nf_d7, nf_t7, nf_s7, nf_d8, nf_t8, nf_s8, nf_d9, nf_t9, nf_s9, nf_d10, nf_t10, nf_s10, nf_d11, nf_t11, nf_s11, nf_d12, nf_t12, nf_s12, nf_d13, nf_t13, nf_s13, nf_d14, nf_t14, nf_s14, nf_d15, nf_t15, nf_s15, nf_d16, nf_t16, nf_s16, nf_d17, nf_t17, nf_s17, nf_d18, nf_t18, nf_s18, nf_d19, nf_t19, nf_s19, nf_d20, nf_t20, nf_s20]
        refine v_cbook  7 rfl ?_
        try dsimp only [Nat.reduceAdd, nf_rep1, nf_rep0, nf_d0, nf_t0, nf_s0, nf_ac, nf_an, nf_d1, nf_t1, nf_s1, nf_d2, nf_t2, nf_s2, nf_d3, nf_t3, nf_s3, nf_d4, nf_t4, nf_s4, nf_d5, nf_t5, nf_s5, nf_d6, nf_t6, nf_s6, nf_d7, nf_t7, nf_s7, nf_d8, nf_t8, nf_s8, nf_d9, nf_t9, nf_s9, nf_d10, nf_t10, nf_s10, nf_d11, nf_t11, nf_s11, nf_d12, nf_t12, nf_s12, nf_d13, nf_t13, nf_s13, nf_d14, nf_t14, nf_s14, nf_d15, nf_t15, nf_s15, nf_d16, nf_t16, nf_s16, nf_d17, nf_t17, nf_s17, nf_d18, nf_t18, nf_s18, nf_d19, nf_t19, nf_s19, nf_d20, nf_t20, nf_s20]
        refine v_iret K E dX7_word_79 ?_ (by (simp only [nf_rep1, nf_rep0, nf_d0, nf_t0, nf_s0, nf_ac, nf_an, List.map_cons, List.map_nil, cM_1, rowM_1, rowsM_1, rdM_1, spM_1, bookM_1, svM_1, hiM_1]))
        rw [show vWord S (nI I) wh = _ by unfold vWord; rw [if_pos hL, if_neg s14_0, if_pos s14_1]]
        exact ⟨rfl, (_, _, (_, _, _, _, _), _, _, _), rfl⟩
      · refine v_case (2) (fun s14_2 => ?_) (fun s14_2 => ?_)
        · refine v_tabHit K 80 dX7_word_14 s14_2 (by decide) (by decide) rfl (by decide) ?_
          refine v_aload_n K dX7_word_80 rfl ?_
          refine v_get K 0 rfl hasF_c rfl iX7 10 (by decide) rfl (by decide +kernel) rfl dX7_word_81 ?_
          refine v_osv 11 rfl (fun T w => ?_)
          try dsimp only [Nat.reduceAdd, nf_rep1, nf_rep0, nf_d0, nf_t0, nf_s0, nf_ac, nf_an, nf_d1, nf_t1, nf_s1, nf_d2, nf_t2, nf_s2, nf_d3, nf_t3, nf_s3, nf_d4, nf_t4, nf_s4, nf_d5, nf_t5, nf_s5, nf_d6, nf_t6, nf_s6, nf_d7, nf_t7, nf_s7, nf_d8, nf_t8, nf_s8, nf_d9, nf_t9, nf_s9, nf_d10, nf_t10, nf_s10, nf_d11, nf_t11, nf_s11, nf_d12, nf_t12, nf_s12, nf_d13, nf_t13, nf_s13, nf_d14, nf_t14, nf_s14, nf_d15, nf_t15, nf_s15, nf_d16, nf_t16, nf_s16, nf_d17, nf_t17, nf_s17, nf_d18, nf_t18, nf_s18, nf_d19, nf_t19, nf_s19, nf_d20, nf_t20, nf_s20]
          refine v_get K 11 rfl hasF_c rfl iX6 0 (by decide) rfl (by decide +kernel) rfl dX7_word_84 ?_
          refine v_iload_n K dX7_word_87 rfl ?_
          refine v_callVi K [12] (c_X4_length (XI X) (XB X) _ _ _ _ _ _ _ _ _ ) rfl gX7_word_X4_length rfl rfl hd_X4_length ⟨rfl, rfl⟩ ⟨by decide, by decide⟩ 12 rfl rowsF rfl (by decide) (Nat.le_of_ble_eq_true rfl) ⟨Nat.zero_le _, Nat.zero_le _⟩ rfl dX7_word_88 ?_
          try dsimp only [Nat.reduceAdd, nf_rep1, nf_rep0, nf_d0, nf_t0, nf_s0, nf_ac, nf_an, nf_d1, nf_t1, nf_s1, nf_d2, nf_t2, nf_s2, nf_d3, nf_t3, nf_s3, nf_d4, nf_t4, nf_s4, nf_d5, nf_t5, nf_s5, nf_d6, nf_t6, nf_s6, nf_d7, nf_t7, nf_s7, nf_d8, nf_t8, nf_s8, nf_d9, nf_t9, nf_s9, nf_d10, nf_t10, nf_s10, nf_d11, nf_t11, nf_s11, nf_d12, nf_t12, nf_s12, nf_d13, nf_t13, nf_s13, nf_d14, nf_t14, nf_s14, nf_d15, nf_t15, nf_s15, nf_d16, nf_t16, nf_s16, nf_d17, nf_t17, nf_s17, nf_d18, nf_t18, nf_s18, nf_d19, nf_t19, nf_s19, nf_d20, nf_t20, nf_s20]
          refine v_csv  11 rfl ?_
          try dsimp only [Nat.reduceAdd, nf_rep1, nf_rep0, nf_d0, nf_t0, nf_s0, nf_ac, nf_an, nf_d1, nf_t1, nf_s1, nf_d2, nf_t2, nf_s2, nf_d3, nf_t3, nf_s3, nf_d4, nf_t4, nf_s4, nf_d5, nf_t5, nf_s5, nf_d6, nf_t6, nf_s6, nf_d7, nf_t7, nf_s7, nf_d8, nf_t8, nf_s8, nf_d9, nf_t9, nf_s9, nf_d10, nf_t10, nf_s10, nf_d11, nf_t11, nf_s11, nf_d12, nf_t12, nf_s12, nf_d13, nf_t13, nf_s13, nf_d14, nf_t14, nf_s14, nf_d15, nf_t15, nf_s15, nf_d16, nf_t16, nf_s16, nf_d17, nf_t17, nf_s17, nf_d18, nf_t18, nf_s18, nf_d19, nf_t19, nf_s19, nf_d20, nf_t20, nf_s20]
          refine v_iret K E dX7_word_91 ?_ (by (simp only [nf_rep1, nf_rep0, nf_d0, nf_t0, nf_s0, nf_ac, nf_an, List.map_cons, List.map_nil, cM_1, rowM_1, rowsM_1, rdM_1, spM_1, bookM_1, svM_1, hiM_1]))
          rw [show vWord S (nI I) wh = _ by unfold vWord; rw [if_pos hL, if_neg s14_0, if_neg s14_1, if_pos s14_2]]
          exact ⟨rfl, (_, _, (_, _, _, _, _), _, _, _), rfl⟩
        · refine v_case (3) (fun s14_3 => ?_) (fun s14_3 => ?_)
          · refine v_tabHit K 92 dX7_word_14 s14_3 (by decide) (by decide) rfl (by decide) ?_
            refine v_aload_n K dX7_word_92 rfl ?_
            refine v_get K 0 rfl hasF_c rfl iX7 10 (by decide) rfl (by decide +kernel) rfl dX7_word_93 ?_
            refine v_osv 11 rfl (fun T w => ?_)
            try dsimp only [Nat.reduceAdd, nf_rep1, nf_rep0, nf_d0, nf_t0, nf_s0, nf_ac, nf_an, nf_d1, nf_t1, nf_s1, nf_d2, nf_t2, nf_s2, nf_d3, nf_t3, nf_s3, nf_d4, nf_t4, nf_s4, nf_d5, nf_t5, nf_s5, nf_d6, nf_t6, nf_s6, nf_d7, nf_t7, nf_s7, nf_d8, nf_t8, nf_s8, nf_d9, nf_t9, nf_s9, nf_d10, nf_t10, nf_s10, nf_d11, nf_t11, nf_s11, nf_d12, nf_t12, nf_s12, nf_d13, nf_t13, nf_s13, nf_d14, nf_t14, nf_s14, nf_d15, nf_t15, nf_s15, nf_d16, nf_t16, nf_s16, nf_d17, nf_t17, nf_s17, nf_d18, nf_t18, nf_s18, nf_d19, nf_t19, nf_s19, nf_d20, nf_t20, nf_s20]
            refine v_get K 11 rfl hasF_c rfl iX6 2 (by decide) rfl (by decide +kernel) rfl dX7_word_96 ?_
            refine v_iload_n K dX7_word_99 rfl ?_
            refine v_callVi K [14] (c_X4_length (XI X) (XB X) _ _ _ _ _ _ _ _ _ ) rfl gX7_word_X4_length rfl rfl hd_X4_length ⟨rfl, rfl⟩ ⟨by decide, by decide⟩ 14 rfl rowsF rfl (by decide) (Nat.le_of_ble_eq_true rfl) ⟨Nat.zero_le _, Nat.zero_le _⟩ rfl dX7_word_100 ?_
            try dsimp only [Nat.reduceAdd, nf_rep1, nf_rep0, nf_d0, nf_t0, nf_s0, nf_ac, nf_an, nf_d1, nf_t1, nf_s1, nf_d2, nf_t2, nf_s2, nf_d3, nf_t3, nf_s3, nf_d4, nf_t4, nf_s4, nf_d5, nf_t5, nf_s5, nf_d6, nf_t6, nf_s6, nf_d7, nf_t7, nf_s7, nf_d8, nf_t8, nf_s8, nf_d9, nf_t9, nf_s9, nf_d10, nf_t10, nf_s10, nf_d11, nf_t11, nf_s11, nf_d12, nf_t12, nf_s12, nf_d13, nf_t13, nf_s13, nf_d14, nf_t14, nf_s14, nf_d15, nf_t15, nf_s15, nf_d16, nf_t16, nf_s16, nf_d17, nf_t17, nf_s17, nf_d18, nf_t18, nf_s18, nf_d19, nf_t19, nf_s19, nf_d20, nf_t20, nf_s20]
            refine v_csv  11 rfl ?_
            try dsimp only [Nat.reduceAdd, nf_rep1, nf_rep0, nf_d0, nf_t0, nf_s0, nf_ac, nf_an, nf_d1, nf_t1, nf_s1, nf_d2, nf_t2, nf_s2, nf_d3, nf_t3, nf_s3, nf_d4, nf_t4, nf_s4, nf_d5, nf_t5, nf_s5, nf_d6, nf_t6, nf_s6, nf_d7, nf_t7, nf_s7, nf_d8, nf_t8, nf_s8, nf_d9, nf_t9, nf_s9, nf_d10, nf_t10, nf_s10, nf_d11, nf_t11, nf_s11, nf_d12, nf_t12, nf_s12, nf_d13, nf_t13, nf_s13, nf_d14, nf_t14, nf_s14, nf_d15, nf_t15, nf_s15, nf_d16, nf_t16, nf_s16, nf_d17, nf_t17, nf_s17, nf_d18, nf_t18, nf_s18, nf_d19, nf_t19, nf_s19, nf_d20, nf_t20, nf_s20]
            refine v_iret K E dX7_word_103 ?_ (by (simp only [nf_rep1, nf_rep0, nf_d0, nf_t0, nf_s0, nf_ac, nf_an, List.map_cons, List.map_nil, cM_1, rowM_1, rowsM_1, rdM_1, spM_1, bookM_1, svM_1, hiM_1]))
            rw [show vWord S (nI I) wh = _ by unfold vWord; rw [if_pos hL, if_neg s14_0, if_neg s14_1, if_neg s14_2, if_pos s14_3]]
            exact ⟨rfl, (_, _, (_, _, _, _, _), _, _, _), rfl⟩
          · refine v_case (4) (fun s14_4 => ?_) (fun s14_4 => ?_)
            · refine v_tabHit K 104 dX7_word_14 s14_4 (by decide) (by decide) rfl (by decide) ?_
              refine v_aload_n K dX7_word_104 rfl ?_
              refine v_get K 0 rfl hasF_c rfl iX7 10 (by decide) rfl (by decide +kernel) rfl dX7_word_105 ?_
              refine v_osv 11 rfl (fun T w => ?_)
              try dsimp only [Nat.reduceAdd, nf_rep1, nf_rep0, nf_d0, nf_t0, nf_s0, nf_ac, nf_an, nf_d1, nf_t1, nf_s1, nf_d2, nf_t2, nf_s2, nf_d3, nf_t3, nf_s3, nf_d4, nf_t4, nf_s4, nf_d5, nf_t5, nf_s5, nf_d6, nf_t6, nf_s6, nf_d7, nf_t7, nf_s7, nf_d8, nf_t8, nf_s8, nf_d9, nf_t9, nf_s9, nf_d10, nf_t10, nf_s10, nf_d11, nf_t11, nf_s11, nf_d12, nf_t12, nf_s12, nf_d13, nf_t13, nf_s13, nf_d14, nf_t14, nf_s14, nf_d15, nf_t15, nf_s15, nf_d16, nf_t16, nf_s16, nf_d17, nf_t17, nf_s17, nf_d18, nf_t18, nf_s18, nf_d19, nf_t19, nf_s19, nf_d20, nf_t20, nf_s20]
              refine v_get K 11 rfl hasF_c rfl iX6 2 (by decide) rfl (by decide +kernel) rfl dX7_word_108 ?_
              refine v_iload_n K dX7_word_111 rfl ?_
              refine v_callVi K [14] (c_X4_countLike (XI X) (XB X) _ _ _ _ _ _ _ _ _ ?hc112_0_6) rfl gX7_word_X4_countLike rfl rfl hd_X4_countLike ⟨rfl, rfl⟩ ⟨by decide, by decide⟩ 14 rfl rowsF rfl (by decide) (Nat.le_of_ble_eq_true rfl) ⟨Nat.zero_le _, Nat.zero_le _⟩ rfl dX7_word_112 ?_
              case hc112_0_6 => rw [svy_len hW.2]; exact hI
              try dsimp only [Nat.reduceAdd, nf_rep1, nf_rep0, nf_d0, nf_t0, nf_s0, nf_ac, nf_an, nf_d1, nf_t1, nf_s1, nf_d2, nf_t2, nf_s2, nf_d3, nf_t3, nf_s3, nf_d4, nf_t4, nf_s4, nf_d5, nf_t5, nf_s5, nf_d6, nf_t6, nf_s6, nf_d7, nf_t7, nf_s7, nf_d8, nf_t8, nf_s8, nf_d9, nf_t9, nf_s9, nf_d10, nf_t10, nf_s10, nf_d11, nf_t11, nf_s11, nf_d12, nf_t12, nf_s12, nf_d13, nf_t13, nf_s13, nf_d14, nf_t14, nf_s14, nf_d15, nf_t15, nf_s15, nf_d16, nf_t16, nf_s16, nf_d17, nf_t17, nf_s17, nf_d18, nf_t18, nf_s18, nf_d19, nf_t19, nf_s19, nf_d20, nf_t20, nf_s20]
              refine v_csv  11 rfl ?_
              try dsimp only [Nat.reduceAdd, nf_rep1, nf_rep0, nf_d0, nf_t0, nf_s0, nf_ac, nf_an, nf_d1, nf_t1, nf_s1, nf_d2, nf_t2, nf_s2, nf_d3, nf_t3, nf_s3, nf_d4, nf_t4, nf_s4, nf_d5, nf_t5, nf_s5, nf_d6, nf_t6, nf_s6, nf_d7, nf_t7, nf_s7, nf_d8, nf_t8, nf_s8, nf_d9, nf_t9, nf_s9, nf_d10, nf_t10, nf_s10, nf_d11, nf_t11, nf_s11, nf_d12, nf_t12, nf_s12, nf_d13, nf_t13, nf_s13, nf_d14, nf_t14, nf_s14, nf_d15, nf_t15, nf_s15, nf_d16, nf_t16, nf_s16, nf_d17, nf_t17, nf_s17, nf_d18, nf_t18, nf_s18, nf_d19, nf_t19, nf_s19, nf_d20, nf_t20, nf_s20]
              refine v_iret K E dX7_word_115 ?_ (by (simp only [nf_rep1, nf_rep0, nf_d0, nf_t0, nf_s0, nf_ac, nf_an, List.map_cons, List.map_nil, cM_1, rowM_1, rowsM_1, rdM_1, spM_1, bookM_1, svM_1, hiM_1]))
              rw [show vWord S (nI I) wh = _ by unfold vWord; rw [if_pos hL, if_neg s14_0, if_neg s14_1, if_neg s14_2, if_neg s14_3, if_pos s14_4, ln_n (by omega)]]
              exact ⟨rfl, (_, _, (_, _, _, _, _), _, _, _), rfl⟩
            · refine v_case (5) (fun s14_5 => ?_) (fun s14_5 => ?_)
              · refine v_tabHit K 116 dX7_word_14 s14_5 (by decide) (by decide) rfl (by decide) ?_
                refine v_aload_n K dX7_word_116 rfl ?_
                refine v_get K 0 rfl hasF_c rfl iX7 10 (by decide) rfl (by decide +kernel) rfl dX7_word_117 ?_
                refine v_iload_n K dX7_word_120 rfl ?_
                refine v_callVi K [11] (c_X6_comesBack (XI X) (XB X) _ _ _ ?hc121_0_7) rfl gX7_word_X6_comesBack rfl rfl hd_X6_comesBack ⟨rfl, rfl⟩ ⟨by decide, by decide⟩ 11 rfl svF rfl (by decide) (Nat.le_of_ble_eq_true rfl) ⟨Nat.zero_le _, Nat.zero_le _⟩ rfl dX7_word_121 ?_
                case hc121_0_7 => rw [svy_len hW.2]; exact hI
                try dsimp only [Nat.reduceAdd, nf_rep1, nf_rep0, nf_d0, nf_t0, nf_s0, nf_ac, nf_an, nf_d1, nf_t1, nf_s1, nf_d2, nf_t2, nf_s2, nf_d3, nf_t3, nf_s3, nf_d4, nf_t4, nf_s4, nf_d5, nf_t5, nf_s5, nf_d6, nf_t6, nf_s6, nf_d7, nf_t7, nf_s7, nf_d8, nf_t8, nf_s8, nf_d9, nf_t9, nf_s9, nf_d10, nf_t10, nf_s10, nf_d11, nf_t11, nf_s11, nf_d12, nf_t12, nf_s12, nf_d13, nf_t13, nf_s13, nf_d14, nf_t14, nf_s14, nf_d15, nf_t15, nf_s15, nf_d16, nf_t16, nf_s16, nf_d17, nf_t17, nf_s17, nf_d18, nf_t18, nf_s18, nf_d19, nf_t19, nf_s19, nf_d20, nf_t20, nf_s20]
                refine v_if_eq K 131 dX7_word_124 (by decide) (fun c124 => ?_) (fun c124 => ?_)
                · refine v_iconst K (0) dX7_word_131 (by decide) ?_
                  refine v_iret K E dX7_word_132 ?_ (by (simp only [nf_rep1, nf_rep0, nf_d0, nf_t0, nf_s0, nf_ac, nf_an, List.map_cons, List.map_nil, cM_1, rowM_1, rowsM_1, rdM_1, spM_1, bookM_1, svM_1, hiM_1]))
                  rw [show vWord S (nI I) wh = _ by unfold vWord; rw [if_pos hL, if_neg s14_0, if_neg s14_1, if_neg s14_2, if_neg s14_3, if_neg s14_4, if_pos s14_5, nI_clamp (by omega), bI_0 c124]]
                  exact ⟨rfl, (_, _, (_, _, _, _, _), _, _, _), rfl⟩
                · refine v_iconst K (1) dX7_word_127 (by decide) ?_
                  refine v_goto K 132 dX7_word_128 (by decide) ?_
                  refine v_iret K E dX7_word_132 ?_ (by (simp only [nf_rep1, nf_rep0, nf_d0, nf_t0, nf_s0, nf_ac, nf_an, List.map_cons, List.map_nil, cM_1, rowM_1, rowsM_1, rdM_1, spM_1, bookM_1, svM_1, hiM_1]))
                  rw [show vWord S (nI I) wh = _ by unfold vWord; rw [if_pos hL, if_neg s14_0, if_neg s14_1, if_neg s14_2, if_neg s14_3, if_neg s14_4, if_pos s14_5, nI_clamp (by omega), bI_1 c124]]
                  exact ⟨rfl, (_, _, (_, _, _, _, _), _, _, _), rfl⟩
              · refine v_case (6) (fun s14_6 => ?_) (fun s14_6 => ?_)
                · refine v_tabHit K 133 dX7_word_14 s14_6 (by decide) (by decide) rfl (by decide) ?_
                  refine v_aload_n K dX7_word_133 rfl ?_
                  refine v_get K 0 rfl hasF_c rfl iX7 10 (by decide) rfl (by decide +kernel) rfl dX7_word_134 ?_
                  refine v_osv 11 rfl (fun T w => ?_)
                  try dsimp only [Nat.reduceAdd, nf_rep1, nf_rep0, nf_d0, nf_t0, nf_s0, nf_ac, nf_an, nf_d1, nf_t1, nf_s1, nf_d2, nf_t2, nf_s2, nf_d3, nf_t3, nf_s3, nf_d4, nf_t4, nf_s4, nf_d5, nf_t5, nf_s5, nf_d6, nf_t6, nf_s6, nf_d7, nf_t7, nf_s7, nf_d8, nf_t8, nf_s8, nf_d9, nf_t9, nf_s9, nf_d10, nf_t10, nf_s10, nf_d11, nf_t11, nf_s11, nf_d12, nf_t12, nf_s12, nf_d13, nf_t13, nf_s13, nf_d14, nf_t14, nf_s14, nf_d15, nf_t15, nf_s15, nf_d16, nf_t16, nf_s16, nf_d17, nf_t17, nf_s17, nf_d18, nf_t18, nf_s18, nf_d19, nf_t19, nf_s19, nf_d20, nf_t20, nf_s20]
                  refine v_get K 11 rfl hasF_c rfl iX6 3 (by decide) rfl (by decide +kernel) rfl dX7_word_137 ?_
                  refine v_iload_n K dX7_word_140 rfl ?_
                  refine v_callVi K [15] (c_X3_get (XI X) (XB X) _ _ _ _ _ ) rfl gX7_word_X3_get rfl rfl hd_X3_get ⟨rfl, rfl⟩ ⟨by decide, by decide⟩ 15 rfl rowF rfl (by decide) (Nat.le_of_ble_eq_true rfl) ⟨Nat.zero_le _, Nat.zero_le _⟩ rfl dX7_word_141 ?_
                  try dsimp only [Nat.reduceAdd, nf_rep1, nf_rep0, nf_d0, nf_t0, nf_s0, nf_ac, nf_an, nf_d1, nf_t1, nf_s1, nf_d2, nf_t2, nf_s2, nf_d3, nf_t3, nf_s3, nf_d4, nf_t4, nf_s4, nf_d5, nf_t5, nf_s5, nf_d6, nf_t6, nf_s6, nf_d7, nf_t7, nf_s7, nf_d8, nf_t8, nf_s8, nf_d9, nf_t9, nf_s9, nf_d10, nf_t10, nf_s10, nf_d11, nf_t11, nf_s11, nf_d12, nf_t12, nf_s12, nf_d13, nf_t13, nf_s13, nf_d14, nf_t14, nf_s14, nf_d15, nf_t15, nf_s15, nf_d16, nf_t16, nf_s16, nf_d17, nf_t17, nf_s17, nf_d18, nf_t18, nf_s18, nf_d19, nf_t19, nf_s19, nf_d20, nf_t20, nf_s20]
                  refine v_csv  11 rfl ?_
                  try dsimp only [Nat.reduceAdd, nf_rep1, nf_rep0, nf_d0, nf_t0, nf_s0, nf_ac, nf_an, nf_d1, nf_t1, nf_s1, nf_d2, nf_t2, nf_s2, nf_d3, nf_t3, nf_s3, nf_d4, nf_t4, nf_s4, nf_d5, nf_t5, nf_s5, nf_d6, nf_t6, nf_s6, nf_d7, nf_t7, nf_s7, nf_d8, nf_t8, nf_s8, nf_d9, nf_t9, nf_s9, nf_d10, nf_t10, nf_s10, nf_d11, nf_t11, nf_s11, nf_d12, nf_t12, nf_s12, nf_d13, nf_t13, nf_s13, nf_d14, nf_t14, nf_s14, nf_d15, nf_t15, nf_s15, nf_d16, nf_t16, nf_s16, nf_d17, nf_t17, nf_s17, nf_d18, nf_t18, nf_s18, nf_d19, nf_t19, nf_s19, nf_d20, nf_t20, nf_s20]
                  refine v_iret K E dX7_word_144 ?_ (by (simp only [nf_rep1, nf_rep0, nf_d0, nf_t0, nf_s0, nf_ac, nf_an, List.map_cons, List.map_nil, cM_1, rowM_1, rowsM_1, rdM_1, spM_1, bookM_1, svM_1, hiM_1]))
                  rw [show vWord S (nI I) wh = _ by unfold vWord; rw [if_pos hL, if_neg s14_0, if_neg s14_1, if_neg s14_2, if_neg s14_3, if_neg s14_4, if_neg s14_5, if_pos s14_6]]
                  exact ⟨rfl, (_, _, (_, _, _, _, _), _, _, _), rfl⟩
                · refine v_tabOut K 145 dX7_word_14 (by have h0 := lv_neT (k := 0) (a := 0) s14_0 rfl; have h1 := lv_neT (k := 1) (a := 1) s14_1 rfl; have h2 := lv_neT (k := 2) (a := 2) s14_2 rfl; have h3 := lv_neT (k := 3) (a := 3) s14_3 rfl; have h4 := lv_neT (k := 4) (a := 4) s14_4 rfl; have h5 := lv_neT (k := 5) (a := 5) s14_5 rfl; have h6 := lv_neT (k := 6) (a := 6) s14_6 rfl; omega) (by decide) ?_
                  refine v_bipush K (-2) dX7_word_145 (by decide) ?_
                  refine v_iret K E dX7_word_147 ?_ (by (simp only [nf_rep1, nf_rep0, nf_d0, nf_t0, nf_s0, nf_ac, nf_an, List.map_cons, List.map_nil, cM_1, rowM_1, rowsM_1, rdM_1, spM_1, bookM_1, svM_1, hiM_1]))
                  rw [show vWord S (nI I) wh = _ by unfold vWord; rw [if_pos hL, if_neg s14_0, if_neg s14_1, if_neg s14_2, if_neg s14_3, if_neg s14_4, if_neg s14_5, if_neg s14_6]]
                  exact ⟨rfl, (_, _, (_, _, _, _, _), _, _, _), rfl⟩
  · refine v_iconst K (-1) dX7_word_11 (by decide) ?_
    refine v_iret K E dX7_word_12 ?_ (by (simp only [nf_rep1, nf_rep0, nf_d0, nf_t0, nf_s0, nf_ac, nf_an, List.map_cons, List.map_nil, cM_1, rowM_1, rowsM_1, rdM_1, spM_1, bookM_1, svM_1, hiM_1]))
    rw [show vWord S i wh = _ by unfold vWord; rw [if_neg (by rw [bI_0 c8]; exact Bool.false_ne_true)]]
    exact ⟨rfl, (_, _, (_, _, _, _, _), _, _, _), rfl⟩

theorem hd_X7_at : yX7_at.cls = RX7 ∧ yX7_at.cls ≠ "java/lang/invoke/MethodHandle" ∧ yX7_at.cls ≠ "java/lang/invoke/VarHandle" ∧ (parseMethodDescriptor yX7_at.desc).map (fun d => d.parameters.length) = some 3 := by decide +kernel
set_option maxHeartbeats 4000000 in
set_option maxRecDepth 100000 in
theorem c_X7_at (cI cB : ClassId) (a : Nat → Nat) (g HB : Nat → Nat → Nat) (ts cs : List Int32) (S SS : Bk) (hn : Bool) (hs : List Bk) (ns xs : List Int32) (P e s d k : Int32) (T : T4) (D : Bk) (w : Sv) (i wh j : Int32)  : Ct cI cB yX7_at wsX7_at { frames := 3, cells := 0, slots := 0, locals := 62 } [.ref (a 0), .int i, .int wh, .int j] [cM (a 0) (.inr (7, [.ref (a 1), .ref (a 3), .ref (a 5), .ref (a 7), .ref (g 0 0), .ref (g 1 0), .ref (g 2 0), .ref (g 3 0), .int (bI hn), .ref (a 10), .ref (g 4 0), .ref (g 5 0)])), rowM cI (a 1) (a 2) 60 ts, rowM cI (a 3) (a 4) 400 cs, rowM cI (a 5) (a 6) 400 ns, rdM (a 7) (a 8) (a 1) P e s d k, rowM cI (a 8) (a 9) 25 xs, spM cI (g 0) T, bookM cI (g 1) 30 20 S, bookM cI (g 2) 60 50 D, bookM cI (g 3) 30 20 SS, hiM cI cB (a 10) (a 11) HB hs, svM cI (g 4) (svy S), svM cI (g 5) w] (po cI cB a g HB (vAt S i wh j) (ts, cs, S, SS, hn, hs)) := by
  refine ct_of (cc := cX7_at) (maxL := 4) (ret := (some .int)) (by decide) rfl (Nat.le_of_ble_eq_true rfl) [(0, .ref (a 0)), (1, .int i), (2, .int wh), (3, .int j)] rfl ?_
  intro X hI hB K E
  subst hI
  subst hB
  have iX0 : ∀ w ∈ u_ws RX0 TX0 6, w ∈ wsX7_at := by decide +kernel
  have iX6 : ∀ w ∈ u_ws RX6 TX6 7, w ∈ wsX7_at := by decide +kernel
  have iX7 : ∀ w ∈ u_ws RX7 TX7 12, w ∈ wsX7_at := by decide +kernel
  refine v_aload_n K dX7_at_0 rfl ?_
  refine v_get K 0 rfl hasF_c rfl iX7 5 (by decide) rfl (by decide +kernel) rfl dX7_at_1 ?_
  refine v_iload_n K dX7_at_4 rfl ?_
  refine v_callVi K [7] (c_X0_hasWord (XI X) (XB X) _ _ _ _ _ ) rfl gX7_at_X0_hasWord rfl rfl hd_X0_hasWord ⟨rfl, rfl⟩ ⟨by decide, by decide⟩ 7 rfl bookF rfl (by decide) (Nat.le_of_ble_eq_true rfl) ⟨Nat.zero_le _, Nat.zero_le _⟩ rfl dX7_at_5 ?_
  try dsimp only [Nat.reduceAdd, nf_rep1, nf_rep0, nf_d0, nf_t0, nf_s0, nf_ac, nf_an, nf_d1, nf_t1, nf_s1, nf_d2, nf_t2, nf_s2, nf_d3, nf_t3, nf_s3, nf_d4, nf_t4, nf_s4, nf_d5, nf_t5, nf_s5, nf_d6, nf_t6, nf_s6, nf_d7, nf_t7, nf_s7, nf_d8, nf_t8, nf_s8, nf_d9, nf_t9, nf_s9, nf_d10, nf_t10, nf_s10, nf_d11, nf_t11, nf_s11, nf_d12, nf_t12, nf_s12, nf_d13, nf_t13, nf_s13, nf_d14, nf_t14, nf_s14, nf_d15, nf_t15, nf_s15, nf_d16, nf_t16, nf_s16, nf_d17, nf_t17, nf_s17, nf_d18, nf_t18, nf_s18, nf_d19, nf_t19, nf_s19, nf_d20, nf_t20, nf_s20]
  refine v_if_ne K 13 dX7_at_8 (by decide) (fun c8 => ?_) (fun c8 => ?_)
  · have hL := bI_1 c8
    refine v_iload_n K dX7_at_13 rfl ?_
    refine v_if_ge K 20 dX7_at_14 (by decide) (fun c14 => ?_) (fun c14 => ?_)
    · refine v_iload_n K dX7_at_20 rfl ?_
      refine v_case (0) (fun s21_0 => ?_) (fun s21_0 => ?_)
      · refine v_tabHit K 52 dX7_at_21 s21_0 (by decide) (by decide) rfl (by decide) ?_
        refine v_aload_n K dX7_at_52 rfl ?_
        refine v_get K 0 rfl hasF_c rfl iX7 5 (by decide) rfl (by decide +kernel) rfl dX7_at_53 ?_
        refine v_obook 7 rfl ?_
        try dsimp only [Nat.reduceAdd, nf_rep1, nf_rep0, nf_d0, nf_t0, nf_s0, nf_ac, nf_an, nf_d1, nf_t1, nf_s1, nf_d2, nf_t2, nf_s2, nf_d3, nf_t3, nf_s3, nf_d4, nf_t4, nf_s4, nf_d5, nf_t5, nf_s5, nf_d6, nf_t6, nf_s6, nf_d7, nf_t7, nf_s7, nf_d8, nf_t8, nf_s8, nf_d9, nf_t9, nf_s9, nf_d10, nf_t10, nf_s10, nf_d11, nf_t11, nf_s11, nf_d12, nf_t12, nf_s12, nf_d13, nf_t13, nf_s13, nf_d14, nf_t14, nf_s14, nf_d15, nf_t15, nf_s15, nf_d16, nf_t16, nf_s16, nf_d17, nf_t17, nf_s17, nf_d18, nf_t18, nf_s18, nf_d19, nf_t19, nf_s19, nf_d20, nf_t20, nf_s20]
        refine v_get K 7 rfl hasF_c rfl iX0 4 (by decide) rfl (by decide +kernel) rfl dX7_at_56 ?_
        refine v_iload_n K dX7_at_59 rfl ?_
        refine v_iload_n K dX7_at_60 rfl ?_
        refine v_callVi K [12] (c_X4_get (XI X) (XB X) _ _ _ _ _ _ _ _ _ _ ) rfl gX7_at_X4_get rfl rfl hd_X4_get ⟨rfl, rfl⟩ ⟨by decide, by decide⟩ 12 rfl rowsF rfl (by decide) (Nat.le_of_ble_eq_true rfl) ⟨Nat.zero_le _, Nat.zero_le _⟩ rfl dX7_at_61 ?_
        try dsimp only [Nat.reduceAdd, nf_rep1, nf_rep0, nf_d0, nf_t0, nf_s0, nf_ac, nf_an, nf_d1, nf_t1, nf_s1, nf_d2, nf_t2, nf_s2, nf_d3, nf_t3, nf_s3, nf_d4, nf_t4, nf_s4, nf_d5, nf_t5, nf_s5, nf_d6, nf_t6, nf_s6, nf_d7, nf_t7, nf_s7, nf_d8, nf_t8, nf_s8, nf_d9, nf_t9, nf_s9, nf_d10, nf_t10, nf_s10, nf_d11, nf_t11, nf_s11, nf_d12, nf_t12, nf_s12, nf_d13, nf_t13, nf_s13, nf_d14, nf_t14, nf_s14, nf_d15, nf_t15, nf_s15, nf_d16, nf_t16, nf_s16, nf_d17, nf_t17, nf_s17, nf_d18, nf_t18, nf_s18, nf_d19, nf_t19, nf_s19, nf_d20, nf_t20, nf_s20]
        refine v_cbook  7 rfl ?_
        try dsimp only [Nat.reduceAdd, nf_rep1, nf_rep0, nf_d0, nf_t0, nf_s0, nf_ac, nf_an, nf_d1, nf_t1, nf_s1, nf_d2, nf_t2, nf_s2, nf_d3, nf_t3, nf_s3, nf_d4, nf_t4, nf_s4, nf_d5, nf_t5, nf_s5, nf_d6, nf_t6, nf_s6, nf_d7, nf_t7, nf_s7, nf_d8, nf_t8, nf_s8, nf_d9, nf_t9, nf_s9, nf_d10, nf_t10, nf_s10, nf_d11, nf_t11, nf_s11, nf_d12, nf_t12, nf_s12, nf_d13, nf_t13, nf_s13, nf_d14, nf_t14, nf_s14, nf_d15, nf_t15, nf_s15, nf_d16, nf_t16, nf_s16, nf_d17, nf_t17, nf_s17, nf_d18, nf_t18, nf_s18, nf_d19, nf_t19, nf_s19, nf_d20, nf_t20, nf_s20]
        refine v_iret K E dX7_at_64 ?_ (by (simp only [nf_rep1, nf_rep0, nf_d0, nf_t0, nf_s0, nf_ac, nf_an, List.map_cons, List.map_nil, cM_1, rowM_1, rowsM_1, rdM_1, spM_1, bookM_1, svM_1, hiM_1]))
        rw [show vAt S i wh j = _ by unfold vAt; rw [if_pos hL, if_pos c14, if_pos s21_0]]
        exact ⟨rfl, (_, _, (_, _, _, _, _), _, _, _), rfl⟩
      · refine v_case (1) (fun s21_1 => ?_) (fun s21_1 => ?_)
        · refine v_tabHit K 65 dX7_at_21 s21_1 (by decide) (by decide) rfl (by decide) ?_
          refine v_aload_n K dX7_at_65 rfl ?_
          refine v_get K 0 rfl hasF_c rfl iX7 10 (by decide) rfl (by decide +kernel) rfl dX7_at_66 ?_
          refine v_osv 11 rfl (fun T w => ?_)
          try dsimp only [Nat.reduceAdd, nf_rep1, nf_rep0, nf_d0, nf_t0, nf_s0, nf_ac, nf_an, nf_d1, nf_t1, nf_s1, nf_d2, nf_t2, nf_s2, nf_d3, nf_t3, nf_s3, nf_d4, nf_t4, nf_s4, nf_d5, nf_t5, nf_s5, nf_d6, nf_t6, nf_s6, nf_d7, nf_t7, nf_s7, nf_d8, nf_t8, nf_s8, nf_d9, nf_t9, nf_s9, nf_d10, nf_t10, nf_s10, nf_d11, nf_t11, nf_s11, nf_d12, nf_t12, nf_s12, nf_d13, nf_t13, nf_s13, nf_d14, nf_t14, nf_s14, nf_d15, nf_t15, nf_s15, nf_d16, nf_t16, nf_s16, nf_d17, nf_t17, nf_s17, nf_d18, nf_t18, nf_s18, nf_d19, nf_t19, nf_s19, nf_d20, nf_t20, nf_s20]
          refine v_get K 11 rfl hasF_c rfl iX6 0 (by decide) rfl (by decide +kernel) rfl dX7_at_69 ?_
          refine v_iload_n K dX7_at_72 rfl ?_
          refine v_iload_n K dX7_at_73 rfl ?_
          refine v_callVi K [12] (c_X4_get (XI X) (XB X) _ _ _ _ _ _ _ _ _ _ ) rfl gX7_at_X4_get rfl rfl hd_X4_get ⟨rfl, rfl⟩ ⟨by decide, by decide⟩ 12 rfl rowsF rfl (by decide) (Nat.le_of_ble_eq_true rfl) ⟨Nat.zero_le _, Nat.zero_le _⟩ rfl dX7_at_74 ?_
          try dsimp only [Nat.reduceAdd, nf_rep1, nf_rep0, nf_d0, nf_t0, nf_s0, nf_ac, nf_an, nf_d1, nf_t1, nf_s1, nf_d2, nf_t2, nf_s2, nf_d3, nf_t3, nf_s3, nf_d4, nf_t4, nf_s4, nf_d5, nf_t5, nf_s5, nf_d6, nf_t6, nf_s6, nf_d7, nf_t7, nf_s7, nf_d8, nf_t8, nf_s8, nf_d9, nf_t9, nf_s9, nf_d10, nf_t10, nf_s10, nf_d11, nf_t11, nf_s11, nf_d12, nf_t12, nf_s12, nf_d13, nf_t13, nf_s13, nf_d14, nf_t14, nf_s14, nf_d15, nf_t15, nf_s15, nf_d16, nf_t16, nf_s16, nf_d17, nf_t17, nf_s17, nf_d18, nf_t18, nf_s18, nf_d19, nf_t19, nf_s19, nf_d20, nf_t20, nf_s20]
          refine v_csv  11 rfl ?_
          try dsimp only [Nat.reduceAdd, nf_rep1, nf_rep0, nf_d0, nf_t0, nf_s0, nf_ac, nf_an, nf_d1, nf_t1, nf_s1, nf_d2, nf_t2, nf_s2, nf_d3, nf_t3, nf_s3, nf_d4, nf_t4, nf_s4, nf_d5, nf_t5, nf_s5, nf_d6, nf_t6, nf_s6, nf_d7, nf_t7, nf_s7, nf_d8, nf_t8, nf_s8, nf_d9, nf_t9, nf_s9, nf_d10, nf_t10, nf_s10, nf_d11, nf_t11, nf_s11, nf_d12, nf_t12, nf_s12, nf_d13, nf_t13, nf_s13, nf_d14, nf_t14, nf_s14, nf_d15, nf_t15, nf_s15, nf_d16, nf_t16, nf_s16, nf_d17, nf_t17, nf_s17, nf_d18, nf_t18, nf_s18, nf_d19, nf_t19, nf_s19, nf_d20, nf_t20, nf_s20]
          refine v_iret K E dX7_at_77 ?_ (by (simp only [nf_rep1, nf_rep0, nf_d0, nf_t0, nf_s0, nf_ac, nf_an, List.map_cons, List.map_nil, cM_1, rowM_1, rowsM_1, rdM_1, spM_1, bookM_1, svM_1, hiM_1]))
          rw [show vAt S i wh j = _ by unfold vAt; rw [if_pos hL, if_pos c14, if_neg s21_0, if_pos s21_1]]
          exact ⟨rfl, (_, _, (_, _, _, _, _), _, _, _), rfl⟩
        · refine v_case (2) (fun s21_2 => ?_) (fun s21_2 => ?_)
          · refine v_tabHit K 78 dX7_at_21 s21_2 (by decide) (by decide) rfl (by decide) ?_
            refine v_aload_n K dX7_at_78 rfl ?_
            refine v_get K 0 rfl hasF_c rfl iX7 10 (by decide) rfl (by decide +kernel) rfl dX7_at_79 ?_
            refine v_osv 11 rfl (fun T w => ?_)
            try dsimp only [Nat.reduceAdd, nf_rep1, nf_rep0, nf_d0, nf_t0, nf_s0, nf_ac, nf_an, nf_d1, nf_t1, nf_s1, nf_d2, nf_t2, nf_s2, nf_d3, nf_t3, nf_s3, nf_d4, nf_t4, nf_s4, nf_d5, nf_t5, nf_s5, nf_d6, nf_t6, nf_s6, nf_d7, nf_t7, nf_s7, nf_d8, nf_t8, nf_s8, nf_d9, nf_t9, nf_s9, nf_d10, nf_t10, nf_s10, nf_d11, nf_t11, nf_s11, nf_d12, nf_t12, nf_s12, nf_d13, nf_t13, nf_s13, nf_d14, nf_t14, nf_s14, nf_d15, nf_t15, nf_s15, nf_d16, nf_t16, nf_s16, nf_d17, nf_t17, nf_s17, nf_d18, nf_t18, nf_s18, nf_d19, nf_t19, nf_s19, nf_d20, nf_t20, nf_s20]
            refine v_get K 11 rfl hasF_c rfl iX6 2 (by decide) rfl (by decide +kernel) rfl dX7_at_82 ?_
            refine v_iload_n K dX7_at_85 rfl ?_
            refine v_iload_n K dX7_at_86 rfl ?_
            refine v_callVi K [14] (c_X4_get (XI X) (XB X) _ _ _ _ _ _ _ _ _ _ ) rfl gX7_at_X4_get rfl rfl hd_X4_get ⟨rfl, rfl⟩ ⟨by decide, by decide⟩ 14 rfl rowsF rfl (by decide) (Nat.le_of_ble_eq_true rfl) ⟨Nat.zero_le _, Nat.zero_le _⟩ rfl dX7_at_87 ?_
            try dsimp only [Nat.reduceAdd, nf_rep1, nf_rep0, nf_d0, nf_t0, nf_s0, nf_ac, nf_an, nf_d1, nf_t1, nf_s1, nf_d2, nf_t2, nf_s2, nf_d3, nf_t3, nf_s3, nf_d4, nf_t4, nf_s4, nf_d5, nf_t5, nf_s5, nf_d6, nf_t6, nf_s6, nf_d7, nf_t7, nf_s7, nf_d8, nf_t8, nf_s8, nf_d9, nf_t9, nf_s9, nf_d10, nf_t10, nf_s10, nf_d11, nf_t11, nf_s11, nf_d12, nf_t12, nf_s12, nf_d13, nf_t13, nf_s13, nf_d14, nf_t14, nf_s14, nf_d15, nf_t15, nf_s15, nf_d16, nf_t16, nf_s16, nf_d17, nf_t17, nf_s17, nf_d18, nf_t18, nf_s18, nf_d19, nf_t19, nf_s19, nf_d20, nf_t20, nf_s20]
            refine v_csv  11 rfl ?_
            try dsimp only [Nat.reduceAdd, nf_rep1, nf_rep0, nf_d0, nf_t0, nf_s0, nf_ac, nf_an, nf_d1, nf_t1, nf_s1, nf_d2, nf_t2, nf_s2, nf_d3, nf_t3, nf_s3, nf_d4, nf_t4, nf_s4, nf_d5, nf_t5, nf_s5, nf_d6, nf_t6, nf_s6, nf_d7, nf_t7, nf_s7, nf_d8, nf_t8, nf_s8, nf_d9, nf_t9, nf_s9, nf_d10, nf_t10, nf_s10, nf_d11, nf_t11, nf_s11, nf_d12, nf_t12, nf_s12, nf_d13, nf_t13, nf_s13, nf_d14, nf_t14, nf_s14, nf_d15, nf_t15, nf_s15, nf_d16, nf_t16, nf_s16, nf_d17, nf_t17, nf_s17, nf_d18, nf_t18, nf_s18, nf_d19, nf_t19, nf_s19, nf_d20, nf_t20, nf_s20]
            refine v_iret K E dX7_at_90 ?_ (by (simp only [nf_rep1, nf_rep0, nf_d0, nf_t0, nf_s0, nf_ac, nf_an, List.map_cons, List.map_nil, cM_1, rowM_1, rowsM_1, rdM_1, spM_1, bookM_1, svM_1, hiM_1]))
            rw [show vAt S i wh j = _ by unfold vAt; rw [if_pos hL, if_pos c14, if_neg s21_0, if_neg s21_1, if_pos s21_2]]
            exact ⟨rfl, (_, _, (_, _, _, _, _), _, _, _), rfl⟩
          · refine v_case (3) (fun s21_3 => ?_) (fun s21_3 => ?_)
            · refine v_tabHit K 91 dX7_at_21 s21_3 (by decide) (by decide) rfl (by decide) ?_
              refine v_aload_n K dX7_at_91 rfl ?_
              refine v_get K 0 rfl hasF_c rfl iX7 10 (by decide) rfl (by decide +kernel) rfl dX7_at_92 ?_
              refine v_osv 11 rfl (fun T w => ?_)
              try dsimp only [Nat.reduceAdd, nf_rep1, nf_rep0, nf_d0, nf_t0, nf_s0, nf_ac, nf_an, nf_d1, nf_t1, nf_s1, nf_d2, nf_t2, nf_s2, nf_d3, nf_t3, nf_s3, nf_d4, nf_t4, nf_s4, nf_d5, nf_t5, nf_s5, nf_d6, nf_t6, nf_s6, nf_d7, nf_t7, nf_s7, nf_d8, nf_t8, nf_s8, nf_d9, nf_t9, nf_s9, nf_d10, nf_t10, nf_s10, nf_d11, nf_t11, nf_s11, nf_d12, nf_t12, nf_s12, nf_d13, nf_t13, nf_s13, nf_d14, nf_t14, nf_s14, nf_d15, nf_t15, nf_s15, nf_d16, nf_t16, nf_s16, nf_d17, nf_t17, nf_s17, nf_d18, nf_t18, nf_s18, nf_d19, nf_t19, nf_s19, nf_d20, nf_t20, nf_s20]
              refine v_get K 11 rfl hasF_c rfl iX6 1 (by decide) rfl (by decide +kernel) rfl dX7_at_95 ?_
              refine v_iload_n K dX7_at_98 rfl ?_
              refine v_iload_n K dX7_at_99 rfl ?_
              refine v_callVi K [13] (c_X4_get (XI X) (XB X) _ _ _ _ _ _ _ _ _ _ ) rfl gX7_at_X4_get rfl rfl hd_X4_get ⟨rfl, rfl⟩ ⟨by decide, by decide⟩ 13 rfl rowsF rfl (by decide) (Nat.le_of_ble_eq_true rfl) ⟨Nat.zero_le _, Nat.zero_le _⟩ rfl dX7_at_100 ?_
              try dsimp only [Nat.reduceAdd, nf_rep1, nf_rep0, nf_d0, nf_t0, nf_s0, nf_ac, nf_an, nf_d1, nf_t1, nf_s1, nf_d2, nf_t2, nf_s2, nf_d3, nf_t3, nf_s3, nf_d4, nf_t4, nf_s4, nf_d5, nf_t5, nf_s5, nf_d6, nf_t6, nf_s6, nf_d7, nf_t7, nf_s7, nf_d8, nf_t8, nf_s8, nf_d9, nf_t9, nf_s9, nf_d10, nf_t10, nf_s10, nf_d11, nf_t11, nf_s11, nf_d12, nf_t12, nf_s12, nf_d13, nf_t13, nf_s13, nf_d14, nf_t14, nf_s14, nf_d15, nf_t15, nf_s15, nf_d16, nf_t16, nf_s16, nf_d17, nf_t17, nf_s17, nf_d18, nf_t18, nf_s18, nf_d19, nf_t19, nf_s19, nf_d20, nf_t20, nf_s20]
              refine v_csv  11 rfl ?_
              try dsimp only [Nat.reduceAdd, nf_rep1, nf_rep0, nf_d0, nf_t0, nf_s0, nf_ac, nf_an, nf_d1, nf_t1, nf_s1, nf_d2, nf_t2, nf_s2, nf_d3, nf_t3, nf_s3, nf_d4, nf_t4, nf_s4, nf_d5, nf_t5, nf_s5, nf_d6, nf_t6, nf_s6, nf_d7, nf_t7, nf_s7, nf_d8, nf_t8, nf_s8, nf_d9, nf_t9, nf_s9, nf_d10, nf_t10, nf_s10, nf_d11, nf_t11, nf_s11, nf_d12, nf_t12, nf_s12, nf_d13, nf_t13, nf_s13, nf_d14, nf_t14, nf_s14, nf_d15, nf_t15, nf_s15, nf_d16, nf_t16, nf_s16, nf_d17, nf_t17, nf_s17, nf_d18, nf_t18, nf_s18, nf_d19, nf_t19, nf_s19, nf_d20, nf_t20, nf_s20]
              refine v_iret K E dX7_at_103 ?_ (by (simp only [nf_rep1, nf_rep0, nf_d0, nf_t0, nf_s0, nf_ac, nf_an, List.map_cons, List.map_nil, cM_1, rowM_1, rowsM_1, rdM_1, spM_1, bookM_1, svM_1, hiM_1]))
              rw [show vAt S i wh j = _ by unfold vAt; rw [if_pos hL, if_pos c14, if_neg s21_0, if_neg s21_1, if_neg s21_2, if_pos s21_3]]
              exact ⟨rfl, (_, _, (_, _, _, _, _), _, _, _), rfl⟩
            · refine v_tabOut K 104 dX7_at_21 (by have h0 := lv_neT (k := 0) (a := 0) s21_0 rfl; have h1 := lv_neT (k := 1) (a := 1) s21_1 rfl; have h2 := lv_neT (k := 2) (a := 2) s21_2 rfl; have h3 := lv_neT (k := 3) (a := 3) s21_3 rfl; omega) (by decide) ?_
              refine v_bipush K (-2) dX7_at_104 (by decide) ?_
              refine v_iret K E dX7_at_106 ?_ (by (simp only [nf_rep1, nf_rep0, nf_d0, nf_t0, nf_s0, nf_ac, nf_an, List.map_cons, List.map_nil, cM_1, rowM_1, rowsM_1, rdM_1, spM_1, bookM_1, svM_1, hiM_1]))
              rw [show vAt S i wh j = _ by unfold vAt; rw [if_pos hL, if_pos c14, if_neg s21_0, if_neg s21_1, if_neg s21_2, if_neg s21_3]]
              exact ⟨rfl, (_, _, (_, _, _, _, _), _, _, _), rfl⟩
    · refine v_bipush K (-2) dX7_at_17 (by decide) ?_
      refine v_iret K E dX7_at_19 ?_ (by (simp only [nf_rep1, nf_rep0, nf_d0, nf_t0, nf_s0, nf_ac, nf_an, List.map_cons, List.map_nil, cM_1, rowM_1, rowsM_1, rdM_1, spM_1, bookM_1, svM_1, hiM_1]))
      rw [show vAt S i wh j = _ by unfold vAt; rw [if_pos hL, if_neg c14]]
      exact ⟨rfl, (_, _, (_, _, _, _, _), _, _, _), rfl⟩
  · refine v_iconst K (-1) dX7_at_11 (by decide) ?_
    refine v_iret K E dX7_at_12 ?_ (by (simp only [nf_rep1, nf_rep0, nf_d0, nf_t0, nf_s0, nf_ac, nf_an, List.map_cons, List.map_nil, cM_1, rowM_1, rowsM_1, rdM_1, spM_1, bookM_1, svM_1, hiM_1]))
    rw [show vAt S i wh j = _ by unfold vAt; rw [if_neg (by rw [bI_0 c8]; exact Bool.false_ne_true)]]
    exact ⟨rfl, (_, _, (_, _, _, _, _), _, _, _), rfl⟩

theorem hd_X7_result : yX7_result.cls = RX7 ∧ yX7_result.cls ≠ "java/lang/invoke/MethodHandle" ∧ yX7_result.cls ≠ "java/lang/invoke/VarHandle" ∧ (parseMethodDescriptor yX7_result.desc).map (fun d => d.parameters.length) = some 1 := by decide +kernel
set_option maxHeartbeats 4000000 in
set_option maxRecDepth 100000 in
theorem c_X7_result (cI cB : ClassId) (a : Nat → Nat) (g HB : Nat → Nat → Nat) (ts cs : List Int32) (S SS : Bk) (hn : Bool) (hs : List Bk) (ns xs : List Int32) (P e s d k : Int32) (T : T4) (D : Bk) (w : Sv) (j : Int32)  : Ct cI cB yX7_result wsX7_result { frames := 1, cells := 0, slots := 0, locals := 21 } [.ref (a 0), .int j] [cM (a 0) (.inr (7, [.ref (a 1), .ref (a 3), .ref (a 5), .ref (a 7), .ref (g 0 0), .ref (g 1 0), .ref (g 2 0), .ref (g 3 0), .int (bI hn), .ref (a 10), .ref (g 4 0), .ref (g 5 0)])), rowM cI (a 1) (a 2) 60 ts, rowM cI (a 3) (a 4) 400 cs, rowM cI (a 5) (a 6) 400 ns, rdM (a 7) (a 8) (a 1) P e s d k, rowM cI (a 8) (a 9) 25 xs, spM cI (g 0) T, bookM cI (g 1) 30 20 S, bookM cI (g 2) 60 50 D, bookM cI (g 3) 30 20 SS, hiM cI cB (a 10) (a 11) HB hs, svM cI (g 4) (svy S), svM cI (g 5) w] (po cI cB a g HB (vRes cs j) (ts, cs, S, SS, hn, hs)) := by
  refine ct_of (cc := cX7_result) (maxL := 2) (ret := (some .int)) (by decide) rfl (Nat.le_of_ble_eq_true rfl) [(0, .ref (a 0)), (1, .int j)] rfl ?_
  intro X hI hB K E
  subst hI
  subst hB
  have iX7 : ∀ w ∈ u_ws RX7 TX7 12, w ∈ wsX7_result := by decide +kernel
  refine v_iload_n K dX7_result_0 rfl ?_
  refine v_if_ge K 9 dX7_result_1 (by decide) (fun c1 => ?_) (fun c1 => ?_)
  · refine v_aload_n K dX7_result_9 rfl ?_
    refine v_get K 0 rfl hasF_c rfl iX7 1 (by decide) rfl (by decide +kernel) rfl dX7_result_10 ?_
    refine v_iload_n K dX7_result_13 rfl ?_
    refine v_callVi K [2] (c_X3_get (XI X) (XB X) _ _ _ _ _ ) rfl gX7_result_X3_get rfl rfl hd_X3_get ⟨rfl, rfl⟩ ⟨by decide, by decide⟩ 2 rfl rowF rfl (by decide) (Nat.le_of_ble_eq_true rfl) ⟨Nat.zero_le _, Nat.zero_le _⟩ rfl dX7_result_14 ?_
    try dsimp only [Nat.reduceAdd, nf_rep1, nf_rep0, nf_d0, nf_t0, nf_s0, nf_ac, nf_an, nf_d1, nf_t1, nf_s1, nf_d2, nf_t2, nf_s2, nf_d3, nf_t3, nf_s3, nf_d4, nf_t4, nf_s4, nf_d5, nf_t5, nf_s5, nf_d6, nf_t6, nf_s6, nf_d7, nf_t7, nf_s7, nf_d8, nf_t8, nf_s8, nf_d9, nf_t9, nf_s9, nf_d10, nf_t10, nf_s10, nf_d11, nf_t11, nf_s11, nf_d12, nf_t12, nf_s12, nf_d13, nf_t13, nf_s13, nf_d14, nf_t14, nf_s14, nf_d15, nf_t15, nf_s15, nf_d16, nf_t16, nf_s16, nf_d17, nf_t17, nf_s17, nf_d18, nf_t18, nf_s18, nf_d19, nf_t19, nf_s19, nf_d20, nf_t20, nf_s20]
    refine v_iret K E dX7_result_17 ?_ (by (simp only [nf_rep1, nf_rep0, nf_d0, nf_t0, nf_s0, nf_ac, nf_an, List.map_cons, List.map_nil, cM_1, rowM_1, rowsM_1, rdM_1, spM_1, bookM_1, svM_1, hiM_1]))
    rw [show vRes cs j = _ by unfold vRes; rw [if_pos c1]]
    exact ⟨rfl, (_, _, (_, _, _, _, _), _, _, _), rfl⟩
  · refine v_bipush K (-2) dX7_result_4 (by decide) ?_
    refine v_goto K 17 dX7_result_6 (by decide) ?_
    refine v_iret K E dX7_result_17 ?_ (by (simp only [nf_rep1, nf_rep0, nf_d0, nf_t0, nf_s0, nf_ac, nf_an, List.map_cons, List.map_nil, cM_1, rowM_1, rowsM_1, rdM_1, spM_1, bookM_1, svM_1, hiM_1]))
    rw [show vRes cs j = _ by unfold vRes; rw [if_neg c1]]
    exact ⟨rfl, (_, _, (_, _, _, _, _), _, _, _), rfl⟩

theorem hd_X7_collideWith : yX7_collideWith.cls = RX7 ∧ yX7_collideWith.cls ≠ "java/lang/invoke/MethodHandle" ∧ yX7_collideWith.cls ≠ "java/lang/invoke/VarHandle" ∧ (parseMethodDescriptor yX7_collideWith.desc).map (fun d => d.parameters.length) = some 2 := by decide +kernel
set_option maxHeartbeats 4000000 in
set_option maxRecDepth 100000 in
theorem c_X7_collideWith (cI cB : ClassId) (a : Nat → Nat) (g HB : Nat → Nat → Nat) (ts cs : List Int32) (S SS : Bk) (hn : Bool) (hs : List Bk) (ns xs : List Int32) (P e s d k : Int32) (T : T4) (D : Bk) (w : Sv) (c l : Int32)  : Ct cI cB yX7_collideWith wsX7_collideWith { frames := 6, cells := 0, slots := 0, locals := 142 } [.ref (a 0), .int c, .int l] [cM (a 0) (.inr (7, [.ref (a 1), .ref (a 3), .ref (a 5), .ref (a 7), .ref (g 0 0), .ref (g 1 0), .ref (g 2 0), .ref (g 3 0), .int (bI hn), .ref (a 10), .ref (g 4 0), .ref (g 5 0)])), rowM cI (a 1) (a 2) 60 ts, rowM cI (a 3) (a 4) 400 cs, rowM cI (a 5) (a 6) 400 ns, rdM (a 7) (a 8) (a 1) P e s d k, rowM cI (a 8) (a 9) 25 xs, spM cI (g 0) T, bookM cI (g 1) 30 20 S, bookM cI (g 2) 60 50 D, bookM cI (g 3) 30 20 SS, hiM cI cB (a 10) (a 11) HB hs, svM cI (g 4) (svy S), svM cI (g 5) w] (po cI cB a g HB (vColl S c l) (ts, cs, S, SS, hn, hs)) := by
  refine ct_of (cc := cX7_collideWith) (maxL := 3) (ret := (some .int)) (by decide) rfl (Nat.le_of_ble_eq_true rfl) [(0, .ref (a 0)), (1, .int c), (2, .int l)] rfl ?_
  intro X hI hB K E
  subst hI
  subst hB
  have iX0 : ∀ w ∈ u_ws RX0 TX0 6, w ∈ wsX7_collideWith := by decide +kernel
  have iX7 : ∀ w ∈ u_ws RX7 TX7 12, w ∈ wsX7_collideWith := by decide +kernel
  refine v_iload_n K dX7_collideWith_0 rfl ?_
  refine v_callSi K [] (c_X7_isCapital (XI X) (XB X) _ ) rfl gX7_collideWith_X7_isCapital rfl rfl hd_X7_isCapital ⟨rfl, rfl⟩ ⟨by decide, by decide⟩ (by decide) (Nat.le_of_ble_eq_true rfl) ⟨Nat.zero_le _, Nat.zero_le _⟩ rfl dX7_collideWith_1 ?_
  try dsimp only [Nat.reduceAdd, nf_rep1, nf_rep0, nf_d0, nf_t0, nf_s0, nf_ac, nf_an, nf_d1, nf_t1, nf_s1, nf_d2, nf_t2, nf_s2, nf_d3, nf_t3, nf_s3, nf_d4, nf_t4, nf_s4, nf_d5, nf_t5, nf_s5, nf_d6, nf_t6, nf_s6, nf_d7, nf_t7, nf_s7, nf_d8, nf_t8, nf_s8, nf_d9, nf_t9, nf_s9, nf_d10, nf_t10, nf_s10, nf_d11, nf_t11, nf_s11, nf_d12, nf_t12, nf_s12, nf_d13, nf_t13, nf_s13, nf_d14, nf_t14, nf_s14, nf_d15, nf_t15, nf_s15, nf_d16, nf_t16, nf_s16, nf_d17, nf_t17, nf_s17, nf_d18, nf_t18, nf_s18, nf_d19, nf_t19, nf_s19, nf_d20, nf_t20, nf_s20]
  refine v_if_ne K 9 dX7_collideWith_4 (by decide) (fun c4 => ?_) (fun c4 => ?_)
  · have hL := bI_1 c4
    refine v_iload_n K dX7_collideWith_9 rfl ?_
    refine v_callSi K [] (c_X7_isSmall (XI X) (XB X) _ ) rfl gX7_collideWith_X7_isSmall rfl rfl hd_X7_isSmall ⟨rfl, rfl⟩ ⟨by decide, by decide⟩ (by decide) (Nat.le_of_ble_eq_true rfl) ⟨Nat.zero_le _, Nat.zero_le _⟩ rfl dX7_collideWith_10 ?_
    try dsimp only [Nat.reduceAdd, nf_rep1, nf_rep0, nf_d0, nf_t0, nf_s0, nf_ac, nf_an, nf_d1, nf_t1, nf_s1, nf_d2, nf_t2, nf_s2, nf_d3, nf_t3, nf_s3, nf_d4, nf_t4, nf_s4, nf_d5, nf_t5, nf_s5, nf_d6, nf_t6, nf_s6, nf_d7, nf_t7, nf_s7, nf_d8, nf_t8, nf_s8, nf_d9, nf_t9, nf_s9, nf_d10, nf_t10, nf_s10, nf_d11, nf_t11, nf_s11, nf_d12, nf_t12, nf_s12, nf_d13, nf_t13, nf_s13, nf_d14, nf_t14, nf_s14, nf_d15, nf_t15, nf_s15, nf_d16, nf_t16, nf_s16, nf_d17, nf_t17, nf_s17, nf_d18, nf_t18, nf_s18, nf_d19, nf_t19, nf_s19, nf_d20, nf_t20, nf_s20]
    refine v_if_ne K 19 dX7_collideWith_13 (by decide) (fun c13 => ?_) (fun c13 => ?_)
    · refine v_aload_n K dX7_collideWith_19 rfl ?_
      refine v_get K 0 rfl hasF_c rfl iX7 6 (by decide) rfl (by decide +kernel) rfl dX7_collideWith_20 ?_
      refine v_aload_n K dX7_collideWith_23 rfl ?_
      refine v_get K 0 rfl hasF_c rfl iX7 5 (by decide) rfl (by decide +kernel) rfl dX7_collideWith_24 ?_
      refine v_callVv K [8, 7] (c_X0_copyFrom (XI X) (XB X) _ _ _ _ _ _ _ _ ) rfl gX7_collideWith_X0_copyFrom rfl rfl hd_X0_copyFrom ⟨rfl, rfl⟩ ⟨by decide, by decide⟩ 8 rfl bookF rfl (by decide) (Nat.le_of_ble_eq_true rfl) ⟨Nat.zero_le _, Nat.zero_le _⟩ rfl dX7_collideWith_27 ?_
      try dsimp only [Nat.reduceAdd, nf_rep1, nf_rep0, nf_d0, nf_t0, nf_s0, nf_ac, nf_an, nf_d1, nf_t1, nf_s1, nf_d2, nf_t2, nf_s2, nf_d3, nf_t3, nf_s3, nf_d4, nf_t4, nf_s4, nf_d5, nf_t5, nf_s5, nf_d6, nf_t6, nf_s6, nf_d7, nf_t7, nf_s7, nf_d8, nf_t8, nf_s8, nf_d9, nf_t9, nf_s9, nf_d10, nf_t10, nf_s10, nf_d11, nf_t11, nf_s11, nf_d12, nf_t12, nf_s12, nf_d13, nf_t13, nf_s13, nf_d14, nf_t14, nf_s14, nf_d15, nf_t15, nf_s15, nf_d16, nf_t16, nf_s16, nf_d17, nf_t17, nf_s17, nf_d18, nf_t18, nf_s18, nf_d19, nf_t19, nf_s19, nf_d20, nf_t20, nf_s20]
      refine v_aload_n K dX7_collideWith_30 rfl ?_
      refine v_get K 0 rfl hasF_c rfl iX7 6 (by decide) rfl (by decide +kernel) rfl dX7_collideWith_31 ?_
      refine v_obook 8 rfl ?_
      try dsimp only [Nat.reduceAdd, nf_rep1, nf_rep0, nf_d0, nf_t0, nf_s0, nf_ac, nf_an, nf_d1, nf_t1, nf_s1, nf_d2, nf_t2, nf_s2, nf_d3, nf_t3, nf_s3, nf_d4, nf_t4, nf_s4, nf_d5, nf_t5, nf_s5, nf_d6, nf_t6, nf_s6, nf_d7, nf_t7, nf_s7, nf_d8, nf_t8, nf_s8, nf_d9, nf_t9, nf_s9, nf_d10, nf_t10, nf_s10, nf_d11, nf_t11, nf_s11, nf_d12, nf_t12, nf_s12, nf_d13, nf_t13, nf_s13, nf_d14, nf_t14, nf_s14, nf_d15, nf_t15, nf_s15, nf_d16, nf_t16, nf_s16, nf_d17, nf_t17, nf_s17, nf_d18, nf_t18, nf_s18, nf_d19, nf_t19, nf_s19, nf_d20, nf_t20, nf_s20]
      refine v_get K 8 rfl hasF_c rfl iX0 3 (by decide) rfl (by decide +kernel) rfl dX7_collideWith_34 ?_
      refine v_iload_n K dX7_collideWith_37 rfl ?_
      refine v_bipush K (65) dX7_collideWith_38 (by decide) ?_
      refine v_isub K dX7_collideWith_40 ?_
      refine v_iload_n K dX7_collideWith_41 rfl ?_
      refine v_callVv K [12] (c_X4_putOne (XI X) (XB X) _ _ _ _ _ _ _ _ _ _ ?hc42_0_4) rfl gX7_collideWith_X4_putOne rfl rfl hd_X4_putOne ⟨rfl, rfl⟩ ⟨by decide, by decide⟩ 12 rfl rowsF rfl (by decide) (Nat.le_of_ble_eq_true rfl) ⟨Nat.zero_le _, Nat.zero_le _⟩ rfl dX7_collideWith_42 ?_
      case hc42_0_4 => decide
      try dsimp only [Nat.reduceAdd, nf_rep1, nf_rep0, nf_d0, nf_t0, nf_s0, nf_ac, nf_an, nf_d1, nf_t1, nf_s1, nf_d2, nf_t2, nf_s2, nf_d3, nf_t3, nf_s3, nf_d4, nf_t4, nf_s4, nf_d5, nf_t5, nf_s5, nf_d6, nf_t6, nf_s6, nf_d7, nf_t7, nf_s7, nf_d8, nf_t8, nf_s8, nf_d9, nf_t9, nf_s9, nf_d10, nf_t10, nf_s10, nf_d11, nf_t11, nf_s11, nf_d12, nf_t12, nf_s12, nf_d13, nf_t13, nf_s13, nf_d14, nf_t14, nf_s14, nf_d15, nf_t15, nf_s15, nf_d16, nf_t16, nf_s16, nf_d17, nf_t17, nf_s17, nf_d18, nf_t18, nf_s18, nf_d19, nf_t19, nf_s19, nf_d20, nf_t20, nf_s20]
      refine v_cbook  8 rfl ?_
      try dsimp only [Nat.reduceAdd, nf_rep1, nf_rep0, nf_d0, nf_t0, nf_s0, nf_ac, nf_an, nf_d1, nf_t1, nf_s1, nf_d2, nf_t2, nf_s2, nf_d3, nf_t3, nf_s3, nf_d4, nf_t4, nf_s4, nf_d5, nf_t5, nf_s5, nf_d6, nf_t6, nf_s6, nf_d7, nf_t7, nf_s7, nf_d8, nf_t8, nf_s8, nf_d9, nf_t9, nf_s9, nf_d10, nf_t10, nf_s10, nf_d11, nf_t11, nf_s11, nf_d12, nf_t12, nf_s12, nf_d13, nf_t13, nf_s13, nf_d14, nf_t14, nf_s14, nf_d15, nf_t15, nf_s15, nf_d16, nf_t16, nf_s16, nf_d17, nf_t17, nf_s17, nf_d18, nf_t18, nf_s18, nf_d19, nf_t19, nf_s19, nf_d20, nf_t20, nf_s20]
      refine v_aload_n K dX7_collideWith_45 rfl ?_
      refine v_get K 0 rfl hasF_c rfl iX7 11 (by decide) rfl (by decide +kernel) rfl dX7_collideWith_46 ?_
      refine v_aload_n K dX7_collideWith_49 rfl ?_
      refine v_get K 0 rfl hasF_c rfl iX7 6 (by decide) rfl (by decide +kernel) rfl dX7_collideWith_50 ?_
      refine v_callVv K [12, 8] (c_X6_renew (XI X) (XB X) _ _ _ _ _ _ ) rfl gX7_collideWith_X6_renew rfl rfl hd_X6_renew ⟨rfl, rfl⟩ ⟨by decide, by decide⟩ 12 rfl svF rfl (by decide) (Nat.le_of_ble_eq_true rfl) ⟨Nat.zero_le _, Nat.zero_le _⟩ rfl dX7_collideWith_53 ?_
      try dsimp only [Nat.reduceAdd, nf_rep1, nf_rep0, nf_d0, nf_t0, nf_s0, nf_ac, nf_an, nf_d1, nf_t1, nf_s1, nf_d2, nf_t2, nf_s2, nf_d3, nf_t3, nf_s3, nf_d4, nf_t4, nf_s4, nf_d5, nf_t5, nf_s5, nf_d6, nf_t6, nf_s6, nf_d7, nf_t7, nf_s7, nf_d8, nf_t8, nf_s8, nf_d9, nf_t9, nf_s9, nf_d10, nf_t10, nf_s10, nf_d11, nf_t11, nf_s11, nf_d12, nf_t12, nf_s12, nf_d13, nf_t13, nf_s13, nf_d14, nf_t14, nf_s14, nf_d15, nf_t15, nf_s15, nf_d16, nf_t16, nf_s16, nf_d17, nf_t17, nf_s17, nf_d18, nf_t18, nf_s18, nf_d19, nf_t19, nf_s19, nf_d20, nf_t20, nf_s20]
      refine v_aload_n K dX7_collideWith_56 rfl ?_
      refine v_get K 0 rfl hasF_c rfl iX7 11 (by decide) rfl (by decide +kernel) rfl dX7_collideWith_57 ?_
      refine v_callVi K [12] (c_X6_collisions (XI X) (XB X) _ _ ) rfl gX7_collideWith_X6_collisions rfl rfl hd_X6_collisions ⟨rfl, rfl⟩ ⟨by decide, by decide⟩ 12 rfl svF rfl (by decide) (Nat.le_of_ble_eq_true rfl) ⟨Nat.zero_le _, Nat.zero_le _⟩ rfl dX7_collideWith_60 ?_
      try dsimp only [Nat.reduceAdd, nf_rep1, nf_rep0, nf_d0, nf_t0, nf_s0, nf_ac, nf_an, nf_d1, nf_t1, nf_s1, nf_d2, nf_t2, nf_s2, nf_d3, nf_t3, nf_s3, nf_d4, nf_t4, nf_s4, nf_d5, nf_t5, nf_s5, nf_d6, nf_t6, nf_s6, nf_d7, nf_t7, nf_s7, nf_d8, nf_t8, nf_s8, nf_d9, nf_t9, nf_s9, nf_d10, nf_t10, nf_s10, nf_d11, nf_t11, nf_s11, nf_d12, nf_t12, nf_s12, nf_d13, nf_t13, nf_s13, nf_d14, nf_t14, nf_s14, nf_d15, nf_t15, nf_s15, nf_d16, nf_t16, nf_s16, nf_d17, nf_t17, nf_s17, nf_d18, nf_t18, nf_s18, nf_d19, nf_t19, nf_s19, nf_d20, nf_t20, nf_s20]
      refine v_iret K E dX7_collideWith_63 ?_ (by (simp only [nf_rep1, nf_rep0, nf_d0, nf_t0, nf_s0, nf_ac, nf_an, List.map_cons, List.map_nil, cM_1, rowM_1, rowsM_1, rdM_1, spM_1, bookM_1, svM_1, hiM_1]))
      rw [show vColl S c l = _ by unfold vColl; rw [if_pos hL, if_pos (bI_1 c13)]]
      exact ⟨rfl, (_, _, (_, _, _, _, _), _, _, _), rfl⟩
    · refine v_bipush K (-2) dX7_collideWith_16 (by decide) ?_
      refine v_iret K E dX7_collideWith_18 ?_ (by (simp only [nf_rep1, nf_rep0, nf_d0, nf_t0, nf_s0, nf_ac, nf_an, List.map_cons, List.map_nil, cM_1, rowM_1, rowsM_1, rdM_1, spM_1, bookM_1, svM_1, hiM_1]))
      rw [show vColl S c l = _ by unfold vColl; rw [if_pos hL, if_neg (by rw [bI_0 c13]; exact Bool.false_ne_true)]]
      exact ⟨rfl, (_, _, (_, _, _, _, _), _, _, _), rfl⟩
  · refine v_iconst K (-1) dX7_collideWith_7 (by decide) ?_
    refine v_iret K E dX7_collideWith_8 ?_ (by (simp only [nf_rep1, nf_rep0, nf_d0, nf_t0, nf_s0, nf_ac, nf_an, List.map_cons, List.map_nil, cM_1, rowM_1, rowsM_1, rdM_1, spM_1, bookM_1, svM_1, hiM_1]))
    rw [show vColl S c l = _ by unfold vColl; rw [if_neg (by rw [bI_0 c4]; exact Bool.false_ne_true)]]
    exact ⟨rfl, (_, _, (_, _, _, _, _), _, _, _), rfl⟩

theorem hd_X7_count : yX7_count.cls = RX7 ∧ yX7_count.cls ≠ "java/lang/invoke/MethodHandle" ∧ yX7_count.cls ≠ "java/lang/invoke/VarHandle" ∧ (parseMethodDescriptor yX7_count.desc).map (fun d => d.parameters.length) = some 1 := by decide +kernel
set_option maxHeartbeats 4000000 in
set_option maxRecDepth 100000 in
theorem c_X7_count (cI cB : ClassId) (a : Nat → Nat) (g HB : Nat → Nat → Nat) (ts cs : List Int32) (S SS : Bk) (hn : Bool) (hs : List Bk) (ns xs : List Int32) (P e s d k : Int32) (T : T4) (D : Bk) (w : Sv) (wh : Int32)  : Ct cI cB yX7_count wsX7_count { frames := 6, cells := 0, slots := 0, locals := 133 } [.ref (a 0), .int wh] [cM (a 0) (.inr (7, [.ref (a 1), .ref (a 3), .ref (a 5), .ref (a 7), .ref (g 0 0), .ref (g 1 0), .ref (g 2 0), .ref (g 3 0), .int (bI hn), .ref (a 10), .ref (g 4 0), .ref (g 5 0)])), rowM cI (a 1) (a 2) 60 ts, rowM cI (a 3) (a 4) 400 cs, rowM cI (a 5) (a 6) 400 ns, rdM (a 7) (a 8) (a 1) P e s d k, rowM cI (a 8) (a 9) 25 xs, spM cI (g 0) T, bookM cI (g 1) 30 20 S, bookM cI (g 2) 60 50 D, bookM cI (g 3) 30 20 SS, hiM cI cB (a 10) (a 11) HB hs, svM cI (g 4) (svy S), svM cI (g 5) w] (po cI cB a g HB (vCount (ts, cs, S, SS, hn, hs) wh) (ts, cs, S, SS, hn, hs)) := by
  refine ct_of (cc := cX7_count) (maxL := 2) (ret := (some .int)) (by decide) rfl (Nat.le_of_ble_eq_true rfl) [(0, .ref (a 0)), (1, .int wh)] rfl ?_
  intro X hI hB K E
  subst hI
  subst hB
  have iX0 : ∀ w ∈ u_ws RX0 TX0 6, w ∈ wsX7_count := by decide +kernel
  have iX6 : ∀ w ∈ u_ws RX6 TX6 7, w ∈ wsX7_count := by decide +kernel
  have iX7 : ∀ w ∈ u_ws RX7 TX7 12, w ∈ wsX7_count := by decide +kernel
  refine v_iload_n K dX7_count_0 rfl ?_
  refine v_case (0) (fun s1_0 => ?_) (fun s1_0 => ?_)
  · refine v_tabHit K 60 dX7_count_1 s1_0 (by decide) (by decide) rfl (by decide) ?_
    refine v_aload_n K dX7_count_60 rfl ?_
    refine v_get K 0 rfl hasF_c rfl iX7 5 (by decide) rfl (by decide +kernel) rfl dX7_count_61 ?_
    refine v_callVi K [7] (c_X0_rules (XI X) (XB X) _ _ _ _ ) rfl gX7_count_X0_rules rfl rfl hd_X0_rules ⟨rfl, rfl⟩ ⟨by decide, by decide⟩ 7 rfl bookF rfl (by decide) (Nat.le_of_ble_eq_true rfl) ⟨Nat.zero_le _, Nat.zero_le _⟩ rfl dX7_count_64 ?_
    try dsimp only [Nat.reduceAdd, nf_rep1, nf_rep0, nf_d0, nf_t0, nf_s0, nf_ac, nf_an, nf_d1, nf_t1, nf_s1, nf_d2, nf_t2, nf_s2, nf_d3, nf_t3, nf_s3, nf_d4, nf_t4, nf_s4, nf_d5, nf_t5, nf_s5, nf_d6, nf_t6, nf_s6, nf_d7, nf_t7, nf_s7, nf_d8, nf_t8, nf_s8, nf_d9, nf_t9, nf_s9, nf_d10, nf_t10, nf_s10, nf_d11, nf_t11, nf_s11, nf_d12, nf_t12, nf_s12, nf_d13, nf_t13, nf_s13, nf_d14, nf_t14, nf_s14, nf_d15, nf_t15, nf_s15, nf_d16, nf_t16, nf_s16, nf_d17, nf_t17, nf_s17, nf_d18, nf_t18, nf_s18, nf_d19, nf_t19, nf_s19, nf_d20, nf_t20, nf_s20]
    refine v_iret K E dX7_count_67 ?_ (by (simp only [nf_rep1, nf_rep0, nf_d0, nf_t0, nf_s0, nf_ac, nf_an, List.map_cons, List.map_nil, cM_1, rowM_1, rowsM_1, rdM_1, spM_1, bookM_1, svM_1, hiM_1]))
    rw [show vCount (ts, cs, S, SS, hn, hs) wh = _ by unfold vCount; rw [if_pos s1_0]]
    exact ⟨rfl, (_, _, (_, _, _, _, _), _, _, _), rfl⟩
  · refine v_case (1) (fun s1_1 => ?_) (fun s1_1 => ?_)
    · refine v_tabHit K 68 dX7_count_1 s1_1 (by decide) (by decide) rfl (by decide) ?_
      refine v_aload_n K dX7_count_68 rfl ?_
      refine v_get K 0 rfl hasF_c rfl iX7 5 (by decide) rfl (by decide +kernel) rfl dX7_count_69 ?_
      refine v_callVi K [7] (c_X0_words (XI X) (XB X) _ _ _ _ ) rfl gX7_count_X0_words rfl rfl hd_X0_words ⟨rfl, rfl⟩ ⟨by decide, by decide⟩ 7 rfl bookF rfl (by decide) (Nat.le_of_ble_eq_true rfl) ⟨Nat.zero_le _, Nat.zero_le _⟩ rfl dX7_count_72 ?_
      try dsimp only [Nat.reduceAdd, nf_rep1, nf_rep0, nf_d0, nf_t0, nf_s0, nf_ac, nf_an, nf_d1, nf_t1, nf_s1, nf_d2, nf_t2, nf_s2, nf_d3, nf_t3, nf_s3, nf_d4, nf_t4, nf_s4, nf_d5, nf_t5, nf_s5, nf_d6, nf_t6, nf_s6, nf_d7, nf_t7, nf_s7, nf_d8, nf_t8, nf_s8, nf_d9, nf_t9, nf_s9, nf_d10, nf_t10, nf_s10, nf_d11, nf_t11, nf_s11, nf_d12, nf_t12, nf_s12, nf_d13, nf_t13, nf_s13, nf_d14, nf_t14, nf_s14, nf_d15, nf_t15, nf_s15, nf_d16, nf_t16, nf_s16, nf_d17, nf_t17, nf_s17, nf_d18, nf_t18, nf_s18, nf_d19, nf_t19, nf_s19, nf_d20, nf_t20, nf_s20]
      refine v_iret K E dX7_count_75 ?_ (by (simp only [nf_rep1, nf_rep0, nf_d0, nf_t0, nf_s0, nf_ac, nf_an, List.map_cons, List.map_nil, cM_1, rowM_1, rowsM_1, rdM_1, spM_1, bookM_1, svM_1, hiM_1]))
      rw [show vCount (ts, cs, S, SS, hn, hs) wh = _ by unfold vCount; rw [if_neg s1_0, if_pos s1_1]]
      exact ⟨rfl, (_, _, (_, _, _, _, _), _, _, _), rfl⟩
    · refine v_case (2) (fun s1_2 => ?_) (fun s1_2 => ?_)
      · refine v_tabHit K 76 dX7_count_1 s1_2 (by decide) (by decide) rfl (by decide) ?_
        refine v_aload_n K dX7_count_76 rfl ?_
        refine v_get K 0 rfl hasF_c rfl iX7 10 (by decide) rfl (by decide +kernel) rfl dX7_count_77 ?_
        refine v_callVi K [11] (c_X6_collisions (XI X) (XB X) _ _ ) rfl gX7_count_X6_collisions rfl rfl hd_X6_collisions ⟨rfl, rfl⟩ ⟨by decide, by decide⟩ 11 rfl svF rfl (by decide) (Nat.le_of_ble_eq_true rfl) ⟨Nat.zero_le _, Nat.zero_le _⟩ rfl dX7_count_80 ?_
        try dsimp only [Nat.reduceAdd, nf_rep1, nf_rep0, nf_d0, nf_t0, nf_s0, nf_ac, nf_an, nf_d1, nf_t1, nf_s1, nf_d2, nf_t2, nf_s2, nf_d3, nf_t3, nf_s3, nf_d4, nf_t4, nf_s4, nf_d5, nf_t5, nf_s5, nf_d6, nf_t6, nf_s6, nf_d7, nf_t7, nf_s7, nf_d8, nf_t8, nf_s8, nf_d9, nf_t9, nf_s9, nf_d10, nf_t10, nf_s10, nf_d11, nf_t11, nf_s11, nf_d12, nf_t12, nf_s12, nf_d13, nf_t13, nf_s13, nf_d14, nf_t14, nf_s14, nf_d15, nf_t15, nf_s15, nf_d16, nf_t16, nf_s16, nf_d17, nf_t17, nf_s17, nf_d18, nf_t18, nf_s18, nf_d19, nf_t19, nf_s19, nf_d20, nf_t20, nf_s20]
        refine v_iret K E dX7_count_83 ?_ (by (simp only [nf_rep1, nf_rep0, nf_d0, nf_t0, nf_s0, nf_ac, nf_an, List.map_cons, List.map_nil, cM_1, rowM_1, rowsM_1, rdM_1, spM_1, bookM_1, svM_1, hiM_1]))
        rw [show vCount (ts, cs, S, SS, hn, hs) wh = _ by unfold vCount; rw [if_neg s1_0, if_neg s1_1, if_pos s1_2]]
        exact ⟨rfl, (_, _, (_, _, _, _, _), _, _, _), rfl⟩
      · refine v_case (3) (fun s1_3 => ?_) (fun s1_3 => ?_)
        · refine v_tabHit K 84 dX7_count_1 s1_3 (by decide) (by decide) rfl (by decide) ?_
          refine v_aload_n K dX7_count_84 rfl ?_
          refine v_get K 0 rfl hasF_c rfl iX7 10 (by decide) rfl (by decide +kernel) rfl dX7_count_85 ?_
          refine v_callVi K [11] (c_X6_comingBack (XI X) (XB X) _ _ ) rfl gX7_count_X6_comingBack rfl rfl hd_X6_comingBack ⟨rfl, rfl⟩ ⟨by decide, by decide⟩ 11 rfl svF rfl (by decide) (Nat.le_of_ble_eq_true rfl) ⟨Nat.zero_le _, Nat.zero_le _⟩ rfl dX7_count_88 ?_
          try dsimp only [Nat.reduceAdd, nf_rep1, nf_rep0, nf_d0, nf_t0, nf_s0, nf_ac, nf_an, nf_d1, nf_t1, nf_s1, nf_d2, nf_t2, nf_s2, nf_d3, nf_t3, nf_s3, nf_d4, nf_t4, nf_s4, nf_d5, nf_t5, nf_s5, nf_d6, nf_t6, nf_s6, nf_d7, nf_t7, nf_s7, nf_d8, nf_t8, nf_s8, nf_d9, nf_t9, nf_s9, nf_d10, nf_t10, nf_s10, nf_d11, nf_t11, nf_s11, nf_d12, nf_t12, nf_s12, nf_d13, nf_t13, nf_s13, nf_d14, nf_t14, nf_s14, nf_d15, nf_t15, nf_s15, nf_d16, nf_t16, nf_s16, nf_d17, nf_t17, nf_s17, nf_d18, nf_t18, nf_s18, nf_d19, nf_t19, nf_s19, nf_d20, nf_t20, nf_s20]
          refine v_iret K E dX7_count_91 ?_ (by (simp only [nf_rep1, nf_rep0, nf_d0, nf_t0, nf_s0, nf_ac, nf_an, List.map_cons, List.map_nil, cM_1, rowM_1, rowsM_1, rdM_1, spM_1, bookM_1, svM_1, hiM_1]))
          rw [show vCount (ts, cs, S, SS, hn, hs) wh = _ by unfold vCount; rw [if_neg s1_0, if_neg s1_1, if_neg s1_2, if_pos s1_3]]
          exact ⟨rfl, (_, _, (_, _, _, _, _), _, _, _), rfl⟩
        · refine v_case (4) (fun s1_4 => ?_) (fun s1_4 => ?_)
          · refine v_tabHit K 92 dX7_count_1 s1_4 (by decide) (by decide) rfl (by decide) ?_
            refine v_aload_n K dX7_count_92 rfl ?_
            refine v_get K 0 rfl hasF_c rfl iX7 10 (by decide) rfl (by decide +kernel) rfl dX7_count_93 ?_
            refine v_callVi K [11] (c_X6_unusedRules (XI X) (XB X) _ _ ) rfl gX7_count_X6_unusedRules rfl rfl hd_X6_unusedRules ⟨rfl, rfl⟩ ⟨by decide, by decide⟩ 11 rfl svF rfl (by decide) (Nat.le_of_ble_eq_true rfl) ⟨Nat.zero_le _, Nat.zero_le _⟩ rfl dX7_count_96 ?_
            try dsimp only [Nat.reduceAdd, nf_rep1, nf_rep0, nf_d0, nf_t0, nf_s0, nf_ac, nf_an, nf_d1, nf_t1, nf_s1, nf_d2, nf_t2, nf_s2, nf_d3, nf_t3, nf_s3, nf_d4, nf_t4, nf_s4, nf_d5, nf_t5, nf_s5, nf_d6, nf_t6, nf_s6, nf_d7, nf_t7, nf_s7, nf_d8, nf_t8, nf_s8, nf_d9, nf_t9, nf_s9, nf_d10, nf_t10, nf_s10, nf_d11, nf_t11, nf_s11, nf_d12, nf_t12, nf_s12, nf_d13, nf_t13, nf_s13, nf_d14, nf_t14, nf_s14, nf_d15, nf_t15, nf_s15, nf_d16, nf_t16, nf_s16, nf_d17, nf_t17, nf_s17, nf_d18, nf_t18, nf_s18, nf_d19, nf_t19, nf_s19, nf_d20, nf_t20, nf_s20]
            refine v_iret K E dX7_count_99 ?_ (by (simp only [nf_rep1, nf_rep0, nf_d0, nf_t0, nf_s0, nf_ac, nf_an, List.map_cons, List.map_nil, cM_1, rowM_1, rowsM_1, rdM_1, spM_1, bookM_1, svM_1, hiM_1]))
            rw [show vCount (ts, cs, S, SS, hn, hs) wh = _ by unfold vCount; rw [if_neg s1_0, if_neg s1_1, if_neg s1_2, if_neg s1_3, if_pos s1_4]]
            exact ⟨rfl, (_, _, (_, _, _, _, _), _, _, _), rfl⟩
          · refine v_case (5) (fun s1_5 => ?_) (fun s1_5 => ?_)
            · refine v_tabHit K 100 dX7_count_1 s1_5 (by decide) (by decide) rfl (by decide) ?_
              refine v_aload_n K dX7_count_100 rfl ?_
              refine v_get K 0 rfl hasF_c rfl iX7 5 (by decide) rfl (by decide +kernel) rfl dX7_count_101 ?_
              refine v_obook 7 rfl ?_
              try dsimp only [Nat.reduceAdd, nf_rep1, nf_rep0, nf_d0, nf_t0, nf_s0, nf_ac, nf_an, nf_d1, nf_t1, nf_s1, nf_d2, nf_t2, nf_s2, nf_d3, nf_t3, nf_s3, nf_d4, nf_t4, nf_s4, nf_d5, nf_t5, nf_s5, nf_d6, nf_t6, nf_s6, nf_d7, nf_t7, nf_s7, nf_d8, nf_t8, nf_s8, nf_d9, nf_t9, nf_s9, nf_d10, nf_t10, nf_s10, nf_d11, nf_t11, nf_s11, nf_d12, nf_t12, nf_s12, nf_d13, nf_t13, nf_s13, nf_d14, nf_t14, nf_s14, nf_d15, nf_t15, nf_s15, nf_d16, nf_t16, nf_s16, nf_d17, nf_t17, nf_s17, nf_d18, nf_t18, nf_s18, nf_d19, nf_t19, nf_s19, nf_d20, nf_t20, nf_s20]
              refine v_get K 7 rfl hasF_c rfl iX0 4 (by decide) rfl (by decide +kernel) rfl dX7_count_104 ?_
              refine v_callVi K [12] (c_X4_wholeLength (XI X) (XB X) _ _ _ _ _ _ _ _ ) rfl gX7_count_X4_wholeLength rfl rfl hd_X4_wholeLength ⟨rfl, rfl⟩ ⟨by decide, by decide⟩ 12 rfl rowsF rfl (by decide) (Nat.le_of_ble_eq_true rfl) ⟨Nat.zero_le _, Nat.zero_le _⟩ rfl dX7_count_107 ?_
              try dsimp only [Nat.reduceAdd, nf_rep1, nf_rep0, nf_d0, nf_t0, nf_s0, nf_ac, nf_an, nf_d1, nf_t1, nf_s1, nf_d2, nf_t2, nf_s2, nf_d3, nf_t3, nf_s3, nf_d4, nf_t4, nf_s4, nf_d5, nf_t5, nf_s5, nf_d6, nf_t6, nf_s6, nf_d7, nf_t7, nf_s7, nf_d8, nf_t8, nf_s8, nf_d9, nf_t9, nf_s9, nf_d10, nf_t10, nf_s10, nf_d11, nf_t11, nf_s11, nf_d12, nf_t12, nf_s12, nf_d13, nf_t13, nf_s13, nf_d14, nf_t14, nf_s14, nf_d15, nf_t15, nf_s15, nf_d16, nf_t16, nf_s16, nf_d17, nf_t17, nf_s17, nf_d18, nf_t18, nf_s18, nf_d19, nf_t19, nf_s19, nf_d20, nf_t20, nf_s20]
              refine v_cbook  7 rfl ?_
              try dsimp only [Nat.reduceAdd, nf_rep1, nf_rep0, nf_d0, nf_t0, nf_s0, nf_ac, nf_an, nf_d1, nf_t1, nf_s1, nf_d2, nf_t2, nf_s2, nf_d3, nf_t3, nf_s3, nf_d4, nf_t4, nf_s4, nf_d5, nf_t5, nf_s5, nf_d6, nf_t6, nf_s6, nf_d7, nf_t7, nf_s7, nf_d8, nf_t8, nf_s8, nf_d9, nf_t9, nf_s9, nf_d10, nf_t10, nf_s10, nf_d11, nf_t11, nf_s11, nf_d12, nf_t12, nf_s12, nf_d13, nf_t13, nf_s13, nf_d14, nf_t14, nf_s14, nf_d15, nf_t15, nf_s15, nf_d16, nf_t16, nf_s16, nf_d17, nf_t17, nf_s17, nf_d18, nf_t18, nf_s18, nf_d19, nf_t19, nf_s19, nf_d20, nf_t20, nf_s20]
              refine v_iret K E dX7_count_110 ?_ (by (simp only [nf_rep1, nf_rep0, nf_d0, nf_t0, nf_s0, nf_ac, nf_an, List.map_cons, List.map_nil, cM_1, rowM_1, rowsM_1, rdM_1, spM_1, bookM_1, svM_1, hiM_1]))
              rw [show vCount (ts, cs, S, SS, hn, hs) wh = _ by unfold vCount; rw [if_neg s1_0, if_neg s1_1, if_neg s1_2, if_neg s1_3, if_neg s1_4, if_pos s1_5]]
              exact ⟨rfl, (_, _, (_, _, _, _, _), _, _, _), rfl⟩
            · refine v_case (6) (fun s1_6 => ?_) (fun s1_6 => ?_)
              · refine v_tabHit K 111 dX7_count_1 s1_6 (by decide) (by decide) rfl (by decide) ?_
                refine v_aload_n K dX7_count_111 rfl ?_
                refine v_get K 0 rfl hasF_c rfl iX7 10 (by decide) rfl (by decide +kernel) rfl dX7_count_112 ?_
                refine v_osv 11 rfl (fun T w => ?_)
                try dsimp only [Nat.reduceAdd, nf_rep1, nf_rep0, nf_d0, nf_t0, nf_s0, nf_ac, nf_an, nf_d1, nf_t1, nf_s1, nf_d2, nf_t2, nf_s2, nf_d3, nf_t3, nf_s3, nf_d4, nf_t4, nf_s4, nf_d5, nf_t5, nf_s5, nf_d6, nf_t6, nf_s6, nf_d7, nf_t7, nf_s7, nf_d8, nf_t8, nf_s8, nf_d9, nf_t9, nf_s9, nf_d10, nf_t10, nf_s10, nf_d11, nf_t11, nf_s11, nf_d12, nf_t12, nf_s12, nf_d13, nf_t13, nf_s13, nf_d14, nf_t14, nf_s14, nf_d15, nf_t15, nf_s15, nf_d16, nf_t16, nf_s16, nf_d17, nf_t17, nf_s17, nf_d18, nf_t18, nf_s18, nf_d19, nf_t19, nf_s19, nf_d20, nf_t20, nf_s20]
                refine v_get K 11 rfl hasF_c rfl iX6 2 (by decide) rfl (by decide +kernel) rfl dX7_count_115 ?_
                refine v_callVi K [14] (c_X4_wholeLength (XI X) (XB X) _ _ _ _ _ _ _ _ ) rfl gX7_count_X4_wholeLength rfl rfl hd_X4_wholeLength ⟨rfl, rfl⟩ ⟨by decide, by decide⟩ 14 rfl rowsF rfl (by decide) (Nat.le_of_ble_eq_true rfl) ⟨Nat.zero_le _, Nat.zero_le _⟩ rfl dX7_count_118 ?_
                try dsimp only [Nat.reduceAdd, nf_rep1, nf_rep0, nf_d0, nf_t0, nf_s0, nf_ac, nf_an, nf_d1, nf_t1, nf_s1, nf_d2, nf_t2, nf_s2, nf_d3, nf_t3, nf_s3, nf_d4, nf_t4, nf_s4, nf_d5, nf_t5, nf_s5, nf_d6, nf_t6, nf_s6, nf_d7, nf_t7, nf_s7, nf_d8, nf_t8, nf_s8, nf_d9, nf_t9, nf_s9, nf_d10, nf_t10, nf_s10, nf_d11, nf_t11, nf_s11, nf_d12, nf_t12, nf_s12, nf_d13, nf_t13, nf_s13, nf_d14, nf_t14, nf_s14, nf_d15, nf_t15, nf_s15, nf_d16, nf_t16, nf_s16, nf_d17, nf_t17, nf_s17, nf_d18, nf_t18, nf_s18, nf_d19, nf_t19, nf_s19, nf_d20, nf_t20, nf_s20]
                refine v_csv  11 rfl ?_
                try dsimp only [Nat.reduceAdd, nf_rep1, nf_rep0, nf_d0, nf_t0, nf_s0, nf_ac, nf_an, nf_d1, nf_t1, nf_s1, nf_d2, nf_t2, nf_s2, nf_d3, nf_t3, nf_s3, nf_d4, nf_t4, nf_s4, nf_d5, nf_t5, nf_s5, nf_d6, nf_t6, nf_s6, nf_d7, nf_t7, nf_s7, nf_d8, nf_t8, nf_s8, nf_d9, nf_t9, nf_s9, nf_d10, nf_t10, nf_s10, nf_d11, nf_t11, nf_s11, nf_d12, nf_t12, nf_s12, nf_d13, nf_t13, nf_s13, nf_d14, nf_t14, nf_s14, nf_d15, nf_t15, nf_s15, nf_d16, nf_t16, nf_s16, nf_d17, nf_t17, nf_s17, nf_d18, nf_t18, nf_s18, nf_d19, nf_t19, nf_s19, nf_d20, nf_t20, nf_s20]
                refine v_iret K E dX7_count_121 ?_ (by (simp only [nf_rep1, nf_rep0, nf_d0, nf_t0, nf_s0, nf_ac, nf_an, List.map_cons, List.map_nil, cM_1, rowM_1, rowsM_1, rdM_1, spM_1, bookM_1, svM_1, hiM_1]))
                rw [show vCount (ts, cs, S, SS, hn, hs) wh = _ by unfold vCount; rw [if_neg s1_0, if_neg s1_1, if_neg s1_2, if_neg s1_3, if_neg s1_4, if_neg s1_5, if_pos s1_6]]
                exact ⟨rfl, (_, _, (_, _, _, _, _), _, _, _), rfl⟩
              · refine v_case (7) (fun s1_7 => ?_) (fun s1_7 => ?_)
                · refine v_tabHit K 122 dX7_count_1 s1_7 (by decide) (by decide) rfl (by decide) ?_
                  refine v_aload_n K dX7_count_122 rfl ?_
                  refine v_get K 0 rfl hasF_c rfl iX7 1 (by decide) rfl (by decide +kernel) rfl dX7_count_123 ?_
                  refine v_callVi K [2] (c_X3_size (XI X) (XB X) _ _ _ _ ) rfl gX7_count_X3_size rfl rfl hd_X3_size ⟨rfl, rfl⟩ ⟨by decide, by decide⟩ 2 rfl rowF rfl (by decide) (Nat.le_of_ble_eq_true rfl) ⟨Nat.zero_le _, Nat.zero_le _⟩ rfl dX7_count_126 ?_
                  try dsimp only [Nat.reduceAdd, nf_rep1, nf_rep0, nf_d0, nf_t0, nf_s0, nf_ac, nf_an, nf_d1, nf_t1, nf_s1, nf_d2, nf_t2, nf_s2, nf_d3, nf_t3, nf_s3, nf_d4, nf_t4, nf_s4, nf_d5, nf_t5, nf_s5, nf_d6, nf_t6, nf_s6, nf_d7, nf_t7, nf_s7, nf_d8, nf_t8, nf_s8, nf_d9, nf_t9, nf_s9, nf_d10, nf_t10, nf_s10, nf_d11, nf_t11, nf_s11, nf_d12, nf_t12, nf_s12, nf_d13, nf_t13, nf_s13, nf_d14, nf_t14, nf_s14, nf_d15, nf_t15, nf_s15, nf_d16, nf_t16, nf_s16, nf_d17, nf_t17, nf_s17, nf_d18, nf_t18, nf_s18, nf_d19, nf_t19, nf_s19, nf_d20, nf_t20, nf_s20]
                  refine v_iret K E dX7_count_129 ?_ (by (simp only [nf_rep1, nf_rep0, nf_d0, nf_t0, nf_s0, nf_ac, nf_an, List.map_cons, List.map_nil, cM_1, rowM_1, rowsM_1, rdM_1, spM_1, bookM_1, svM_1, hiM_1]))
                  rw [show vCount (ts, cs, S, SS, hn, hs) wh = _ by unfold vCount; rw [if_neg s1_0, if_neg s1_1, if_neg s1_2, if_neg s1_3, if_neg s1_4, if_neg s1_5, if_neg s1_6, if_pos s1_7]]
                  exact ⟨rfl, (_, _, (_, _, _, _, _), _, _, _), rfl⟩
                · refine v_case (8) (fun s1_8 => ?_) (fun s1_8 => ?_)
                  · refine v_tabHit K 130 dX7_count_1 s1_8 (by decide) (by decide) rfl (by decide) ?_
                    refine v_aload_n K dX7_count_130 rfl ?_
                    refine v_get K 0 rfl hasF_c rfl iX7 9 (by decide) rfl (by decide +kernel) rfl dX7_count_131 ?_
                    refine v_callVi K [10] (c_X1_states (XI X) (XB X) _ _ _ _ ) rfl gX7_count_X1_states rfl rfl hd_X1_states ⟨rfl, rfl⟩ ⟨by decide, by decide⟩ 10 rfl hiF rfl (by decide) (Nat.le_of_ble_eq_true rfl) ⟨Nat.zero_le _, Nat.zero_le _⟩ rfl dX7_count_134 ?_
                    try dsimp only [Nat.reduceAdd, nf_rep1, nf_rep0, nf_d0, nf_t0, nf_s0, nf_ac, nf_an, nf_d1, nf_t1, nf_s1, nf_d2, nf_t2, nf_s2, nf_d3, nf_t3, nf_s3, nf_d4, nf_t4, nf_s4, nf_d5, nf_t5, nf_s5, nf_d6, nf_t6, nf_s6, nf_d7, nf_t7, nf_s7, nf_d8, nf_t8, nf_s8, nf_d9, nf_t9, nf_s9, nf_d10, nf_t10, nf_s10, nf_d11, nf_t11, nf_s11, nf_d12, nf_t12, nf_s12, nf_d13, nf_t13, nf_s13, nf_d14, nf_t14, nf_s14, nf_d15, nf_t15, nf_s15, nf_d16, nf_t16, nf_s16, nf_d17, nf_t17, nf_s17, nf_d18, nf_t18, nf_s18, nf_d19, nf_t19, nf_s19, nf_d20, nf_t20, nf_s20]
                    refine v_iret K E dX7_count_137 ?_ (by (simp only [nf_rep1, nf_rep0, nf_d0, nf_t0, nf_s0, nf_ac, nf_an, List.map_cons, List.map_nil, cM_1, rowM_1, rowsM_1, rdM_1, spM_1, bookM_1, svM_1, hiM_1]))
                    rw [show vCount (ts, cs, S, SS, hn, hs) wh = _ by unfold vCount; rw [if_neg s1_0, if_neg s1_1, if_neg s1_2, if_neg s1_3, if_neg s1_4, if_neg s1_5, if_neg s1_6, if_neg s1_7, if_pos s1_8]]
                    exact ⟨rfl, (_, _, (_, _, _, _, _), _, _, _), rfl⟩
                  · refine v_case (9) (fun s1_9 => ?_) (fun s1_9 => ?_)
                    · refine v_tabHit K 138 dX7_count_1 s1_9 (by decide) (by decide) rfl (by decide) ?_
                      refine v_aload_n K dX7_count_138 rfl ?_
                      refine v_get K 0 rfl hasF_c rfl iX7 0 (by decide) rfl (by decide +kernel) rfl dX7_count_139 ?_
                      refine v_callVi K [1] (c_X3_size (XI X) (XB X) _ _ _ _ ) rfl gX7_count_X3_size rfl rfl hd_X3_size ⟨rfl, rfl⟩ ⟨by decide, by decide⟩ 1 rfl rowF rfl (by decide) (Nat.le_of_ble_eq_true rfl) ⟨Nat.zero_le _, Nat.zero_le _⟩ rfl dX7_count_142 ?_
                      try dsimp only [Nat.reduceAdd, nf_rep1, nf_rep0, nf_d0, nf_t0, nf_s0, nf_ac, nf_an, nf_d1, nf_t1, nf_s1, nf_d2, nf_t2, nf_s2, nf_d3, nf_t3, nf_s3, nf_d4, nf_t4, nf_s4, nf_d5, nf_t5, nf_s5, nf_d6, nf_t6, nf_s6, nf_d7, nf_t7, nf_s7, nf_d8, nf_t8, nf_s8, nf_d9, nf_t9, nf_s9, nf_d10, nf_t10, nf_s10, nf_d11, nf_t11, nf_s11, nf_d12, nf_t12, nf_s12, nf_d13, nf_t13, nf_s13, nf_d14, nf_t14, nf_s14, nf_d15, nf_t15, nf_s15, nf_d16, nf_t16, nf_s16, nf_d17, nf_t17, nf_s17, nf_d18, nf_t18, nf_s18, nf_d19, nf_t19, nf_s19, nf_d20, nf_t20, nf_s20]
                      refine v_iret K E dX7_count_145 ?_ (by (simp only [nf_rep1, nf_rep0, nf_d0, nf_t0, nf_s0, nf_ac, nf_an, List.map_cons, List.map_nil, cM_1, rowM_1, rowsM_1, rdM_1, spM_1, bookM_1, svM_1, hiM_1]))
                      rw [show vCount (ts, cs, S, SS, hn, hs) wh = _ by unfold vCount; rw [if_neg s1_0, if_neg s1_1, if_neg s1_2, if_neg s1_3, if_neg s1_4, if_neg s1_5, if_neg s1_6, if_neg s1_7, if_neg s1_8, if_pos s1_9]]
                      exact ⟨rfl, (_, _, (_, _, _, _, _), _, _, _), rfl⟩
                    · refine v_case (10) (fun s1_10 => ?_) (fun s1_10 => ?_)
                      · refine v_tabHit K 146 dX7_count_1 s1_10 (by decide) (by decide) rfl (by decide) ?_
                        refine v_aload_n K dX7_count_146 rfl ?_
                        refine v_get K 0 rfl hasF_c rfl iX7 5 (by decide) rfl (by decide +kernel) rfl dX7_count_147 ?_
                        refine v_callVi K [7] (c_X0_longSigns (XI X) (XB X) _ _ _ _ ) rfl gX7_count_X0_longSigns rfl rfl hd_X0_longSigns ⟨rfl, rfl⟩ ⟨by decide, by decide⟩ 7 rfl bookF rfl (by decide) (Nat.le_of_ble_eq_true rfl) ⟨Nat.zero_le _, Nat.zero_le _⟩ rfl dX7_count_150 ?_
                        try dsimp only [Nat.reduceAdd, nf_rep1, nf_rep0, nf_d0, nf_t0, nf_s0, nf_ac, nf_an, nf_d1, nf_t1, nf_s1, nf_d2, nf_t2, nf_s2, nf_d3, nf_t3, nf_s3, nf_d4, nf_t4, nf_s4, nf_d5, nf_t5, nf_s5, nf_d6, nf_t6, nf_s6, nf_d7, nf_t7, nf_s7, nf_d8, nf_t8, nf_s8, nf_d9, nf_t9, nf_s9, nf_d10, nf_t10, nf_s10, nf_d11, nf_t11, nf_s11, nf_d12, nf_t12, nf_s12, nf_d13, nf_t13, nf_s13, nf_d14, nf_t14, nf_s14, nf_d15, nf_t15, nf_s15, nf_d16, nf_t16, nf_s16, nf_d17, nf_t17, nf_s17, nf_d18, nf_t18, nf_s18, nf_d19, nf_t19, nf_s19, nf_d20, nf_t20, nf_s20]
                        refine v_iret K E dX7_count_153 ?_ (by (simp only [nf_rep1, nf_rep0, nf_d0, nf_t0, nf_s0, nf_ac, nf_an, List.map_cons, List.map_nil, cM_1, rowM_1, rowsM_1, rdM_1, spM_1, bookM_1, svM_1, hiM_1]))
                        rw [show vCount (ts, cs, S, SS, hn, hs) wh = _ by unfold vCount; rw [if_neg s1_0, if_neg s1_1, if_neg s1_2, if_neg s1_3, if_neg s1_4, if_neg s1_5, if_neg s1_6, if_neg s1_7, if_neg s1_8, if_neg s1_9, if_pos s1_10]]
                        exact ⟨rfl, (_, _, (_, _, _, _, _), _, _, _), rfl⟩
                      · refine v_tabOut K 154 dX7_count_1 (by have h0 := lv_neT (k := 0) (a := 0) s1_0 rfl; have h1 := lv_neT (k := 1) (a := 1) s1_1 rfl; have h2 := lv_neT (k := 2) (a := 2) s1_2 rfl; have h3 := lv_neT (k := 3) (a := 3) s1_3 rfl; have h4 := lv_neT (k := 4) (a := 4) s1_4 rfl; have h5 := lv_neT (k := 5) (a := 5) s1_5 rfl; have h6 := lv_neT (k := 6) (a := 6) s1_6 rfl; have h7 := lv_neT (k := 7) (a := 7) s1_7 rfl; have h8 := lv_neT (k := 8) (a := 8) s1_8 rfl; have h9 := lv_neT (k := 9) (a := 9) s1_9 rfl; have h10 := lv_neT (k := 10) (a := 10) s1_10 rfl; omega) (by decide) ?_
                        refine v_bipush K (-2) dX7_count_154 (by decide) ?_
                        refine v_iret K E dX7_count_156 ?_ (by (simp only [nf_rep1, nf_rep0, nf_d0, nf_t0, nf_s0, nf_ac, nf_an, List.map_cons, List.map_nil, cM_1, rowM_1, rowsM_1, rdM_1, spM_1, bookM_1, svM_1, hiM_1]))
                        rw [show vCount (ts, cs, S, SS, hn, hs) wh = _ by unfold vCount; rw [if_neg s1_0, if_neg s1_1, if_neg s1_2, if_neg s1_3, if_neg s1_4, if_neg s1_5, if_neg s1_6, if_neg s1_7, if_neg s1_8, if_neg s1_9, if_neg s1_10]]
                        exact ⟨rfl, (_, _, (_, _, _, _, _), _, _, _), rfl⟩
