theorem hd_X7_removeWord : yX7_removeWord.cls = RX7 ∧ yX7_removeWord.cls ≠ "java/lang/invoke/MethodHandle" ∧ yX7_removeWord.cls ≠ "java/lang/invoke/VarHandle" ∧ (parseMethodDescriptor yX7_removeWord.desc).map (fun d => d.parameters.length) = some 1 := by decide +kernel
set_option maxHeartbeats 4000000 in
set_option maxRecDepth 100000 in
theorem c_X7_removeWord (cI cB : ClassId) (a : Nat → Nat) (g HB : Nat → Nat → Nat) (ts cs : List Int32) (S SS : Bk) (hn : Bool) (hs : List Bk) (ns xs : List Int32) (P e s d k : Int32) (T : T4) (D : Bk) (w : Sv) (i : Int32)  : Ct cI cB yX7_removeWord wsX7_removeWord { frames := 6, cells := 0, slots := 0, locals := 142 } [.ref (a 0), .int i] [cM (a 0) (.inr (7, [.ref (a 1), .ref (a 3), .ref (a 5), .ref (a 7), .ref (g 0 0), .ref (g 1 0), .ref (g 2 0), .ref (g 3 0), .int (bI hn), .ref (a 10), .ref (g 4 0), .ref (g 5 0)])), rowM cI (a 1) (a 2) 60 ts, rowM cI (a 3) (a 4) 400 cs, rowM cI (a 5) (a 6) 400 ns, rdM (a 7) (a 8) (a 1) P e s d k, rowM cI (a 8) (a 9) 25 xs, spM cI (g 0) T, bookM cI (g 1) 30 20 S, bookM cI (g 2) 60 50 D, bookM cI (g 3) 30 20 SS, hiM cI cB (a 10) (a 11) HB hs, svM cI (g 4) (svy S), svM cI (g 5) w] (po cI cB a g HB (sRmW (ts, cs, S, SS, hn, hs) i).1 (sRmW (ts, cs, S, SS, hn, hs) i).2) := by
  refine ct_of (cc := cX7_removeWord) (maxL := 2) (ret := (some .int)) (by decide) rfl (Nat.le_of_ble_eq_true rfl) [(0, .ref (a 0)), (1, .int i)] rfl ?_
  intro X hI hB K E
  subst hI
  subst hB
  have iX7 : ∀ w ∈ u_ws RX7 TX7 12, w ∈ wsX7_removeWord := by decide +kernel
  refine v_bfit 7 rfl (fun hb => ?_)
  have hR := bfit_r hb
  have hW := bfit_w hb
  refine v_aload_n K dX7_removeWord_0 rfl ?_
  refine v_get K 0 rfl hasF_c rfl iX7 5 (by decide) rfl (by decide +kernel) rfl dX7_removeWord_1 ?_
  refine v_iload_n K dX7_removeWord_4 rfl ?_
  refine v_callVi K [7] (c_X0_hasWord (XI X) (XB X) _ _ _ _ _ ) rfl gX7_removeWord_X0_hasWord rfl rfl hd_X0_hasWord ⟨rfl, rfl⟩ ⟨by decide, by decide⟩ 7 rfl bookF rfl (by decide) (Nat.le_of_ble_eq_true rfl) ⟨Nat.zero_le _, Nat.zero_le _⟩ rfl dX7_removeWord_5 ?_
  try dsimp only [Nat.reduceAdd, nf_rep1, nf_rep0, nf_d0, nf_t0, nf_s0, nf_ac, nf_an, nf_d1, nf_t1, nf_s1, nf_d2, nf_t2, nf_s2, nf_d3, nf_t3, nf_s3, nf_d4, nf_t4, nf_s4, nf_d5, nf_t5, nf_s5, nf_d6, nf_t6, nf_s6, nf_d7, nf_t7, nf_s7, nf_d8, nf_t8, nf_s8, nf_d9, nf_t9, nf_s9, nf_d10, nf_t10, nf_s10, nf_d11, nf_t11, nf_s11, nf_d12, nf_t12, nf_s12, nf_d13, nf_t13, nf_s13, nf_d14, nf_t14, nf_s14, nf_d15, nf_t15, nf_s15, nf_d16, nf_t16, nf_s16, nf_d17, nf_t17, nf_s17, nf_d18, nf_t18, nf_s18, nf_d19, nf_t19, nf_s19, nf_d20, nf_t20, nf_s20]
  refine v_if_ne K 13 dX7_removeWord_8 (by decide) (fun c8 => ?_) (fun c8 => ?_)
  · have hL := bI_1 c8
    obtain ⟨I, hI, rfl⟩ := hasL_of hW.1 hL
    refine v_aload_n K dX7_removeWord_13 rfl ?_
    refine v_get K 0 rfl hasF_c rfl iX7 9 (by decide) rfl (by decide +kernel) rfl dX7_removeWord_14 ?_
    refine v_aload_n K dX7_removeWord_17 rfl ?_
    refine v_get K 0 rfl hasF_c rfl iX7 5 (by decide) rfl (by decide +kernel) rfl dX7_removeWord_18 ?_
    refine v_callVv K [10, 7] (c_X1_record (XI X) (XB X) _ _ _ _ _ _ _ _ ) rfl gX7_removeWord_X1_record rfl rfl hd_X1_record ⟨rfl, rfl⟩ ⟨by decide, by decide⟩ 10 rfl hiF rfl (by decide) (Nat.le_of_ble_eq_true rfl) ⟨Nat.zero_le _, Nat.zero_le _⟩ rfl dX7_removeWord_21 ?_
    try dsimp only [Nat.reduceAdd, nf_rep1, nf_rep0, nf_d0, nf_t0, nf_s0, nf_ac, nf_an, nf_d1, nf_t1, nf_s1, nf_d2, nf_t2, nf_s2, nf_d3, nf_t3, nf_s3, nf_d4, nf_t4, nf_s4, nf_d5, nf_t5, nf_s5, nf_d6, nf_t6, nf_s6, nf_d7, nf_t7, nf_s7, nf_d8, nf_t8, nf_s8, nf_d9, nf_t9, nf_s9, nf_d10, nf_t10, nf_s10, nf_d11, nf_t11, nf_s11, nf_d12, nf_t12, nf_s12, nf_d13, nf_t13, nf_s13, nf_d14, nf_t14, nf_s14, nf_d15, nf_t15, nf_s15, nf_d16, nf_t16, nf_s16, nf_d17, nf_t17, nf_s17, nf_d18, nf_t18, nf_s18, nf_d19, nf_t19, nf_s19, nf_d20, nf_t20, nf_s20]
    refine v_aload_n K dX7_removeWord_24 rfl ?_
    refine v_get K 0 rfl hasF_c rfl iX7 5 (by decide) rfl (by decide +kernel) rfl dX7_removeWord_25 ?_
    refine v_iload_n K dX7_removeWord_28 rfl ?_
    refine v_callVv K [7] (c_X0_dropWord (XI X) (XB X) _ _ _ _ _ ?hc29_0_3 ?hc29_1_3) rfl gX7_removeWord_X0_dropWord rfl rfl hd_X0_dropWord ⟨rfl, rfl⟩ ⟨by decide, by decide⟩ 7 rfl bookF rfl (by decide) (Nat.le_of_ble_eq_true rfl) ⟨Nat.zero_le _, Nat.zero_le _⟩ rfl dX7_removeWord_29 ?_
    case hc29_0_3 => exact hI
    case hc29_1_3 => omega
    try dsimp only [Nat.reduceAdd, nf_rep1, nf_rep0, nf_d0, nf_t0, nf_s0, nf_ac, nf_an, nf_d1, nf_t1, nf_s1, nf_d2, nf_t2, nf_s2, nf_d3, nf_t3, nf_s3, nf_d4, nf_t4, nf_s4, nf_d5, nf_t5, nf_s5, nf_d6, nf_t6, nf_s6, nf_d7, nf_t7, nf_s7, nf_d8, nf_t8, nf_s8, nf_d9, nf_t9, nf_s9, nf_d10, nf_t10, nf_s10, nf_d11, nf_t11, nf_s11, nf_d12, nf_t12, nf_s12, nf_d13, nf_t13, nf_s13, nf_d14, nf_t14, nf_s14, nf_d15, nf_t15, nf_s15, nf_d16, nf_t16, nf_s16, nf_d17, nf_t17, nf_s17, nf_d18, nf_t18, nf_s18, nf_d19, nf_t19, nf_s19, nf_d20, nf_t20, nf_s20]
    refine v_aload_n K dX7_removeWord_32 rfl ?_
    refine v_get K 0 rfl hasF_c rfl iX7 10 (by decide) rfl (by decide +kernel) rfl dX7_removeWord_33 ?_
    refine v_aload_n K dX7_removeWord_36 rfl ?_
    refine v_get K 0 rfl hasF_c rfl iX7 5 (by decide) rfl (by decide +kernel) rfl dX7_removeWord_37 ?_
    refine v_callVv K [11, 7] (c_X6_renew (XI X) (XB X) _ _ _ _ _ _ ) rfl gX7_removeWord_X6_renew rfl rfl hd_X6_renew ⟨rfl, rfl⟩ ⟨by decide, by decide⟩ 11 rfl svF rfl (by decide) (Nat.le_of_ble_eq_true rfl) ⟨Nat.zero_le _, Nat.zero_le _⟩ rfl dX7_removeWord_40 ?_
    try dsimp only [Nat.reduceAdd, nf_rep1, nf_rep0, nf_d0, nf_t0, nf_s0, nf_ac, nf_an, nf_d1, nf_t1, nf_s1, nf_d2, nf_t2, nf_s2, nf_d3, nf_t3, nf_s3, nf_d4, nf_t4, nf_s4, nf_d5, nf_t5, nf_s5, nf_d6, nf_t6, nf_s6, nf_d7, nf_t7, nf_s7, nf_d8, nf_t8, nf_s8, nf_d9, nf_t9, nf_s9, nf_d10, nf_t10, nf_s10, nf_d11, nf_t11, nf_s11, nf_d12, nf_t12, nf_s12, nf_d13, nf_t13, nf_s13, nf_d14, nf_t14, nf_s14, nf_d15, nf_t15, nf_s15, nf_d16, nf_t16, nf_s16, nf_d17, nf_t17, nf_s17, nf_d18, nf_t18, nf_s18, nf_d19, nf_t19, nf_s19, nf_d20, nf_t20, nf_s20]
    refine v_aload_n K dX7_removeWord_43 rfl ?_
    refine v_get K 0 rfl hasF_c rfl iX7 5 (by decide) rfl (by decide +kernel) rfl dX7_removeWord_44 ?_
    refine v_callVi K [7] (c_X0_words (XI X) (XB X) _ _ _ _ ) rfl gX7_removeWord_X0_words rfl rfl hd_X0_words ⟨rfl, rfl⟩ ⟨by decide, by decide⟩ 7 rfl bookF rfl (by decide) (Nat.le_of_ble_eq_true rfl) ⟨Nat.zero_le _, Nat.zero_le _⟩ rfl dX7_removeWord_47 ?_
    try dsimp only [Nat.reduceAdd, nf_rep1, nf_rep0, nf_d0, nf_t0, nf_s0, nf_ac, nf_an, nf_d1, nf_t1, nf_s1, nf_d2, nf_t2, nf_s2, nf_d3, nf_t3, nf_s3, nf_d4, nf_t4, nf_s4, nf_d5, nf_t5, nf_s5, nf_d6, nf_t6, nf_s6, nf_d7, nf_t7, nf_s7, nf_d8, nf_t8, nf_s8, nf_d9, nf_t9, nf_s9, nf_d10, nf_t10, nf_s10, nf_d11, nf_t11, nf_s11, nf_d12, nf_t12, nf_s12, nf_d13, nf_t13, nf_s13, nf_d14, nf_t14, nf_s14, nf_d15, nf_t15, nf_s15, nf_d16, nf_t16, nf_s16, nf_d17, nf_t17, nf_s17, nf_d18, nf_t18, nf_s18, nf_d19, nf_t19, nf_s19, nf_d20, nf_t20, nf_s20]
    refine v_iret K E dX7_removeWord_50 ?_ (by (simp only [nf_rep1, nf_rep0, nf_d0, nf_t0, nf_s0, nf_ac, nf_an, List.map_cons, List.map_nil, cM_1, rowM_1, rowsM_1, rdM_1, spM_1, bookM_1, svM_1, hiM_1]))
    rw [show sRmW (ts, cs, S, SS, hn, hs) (nI I) = _ by unfold sRmW; rw [if_pos hL, nI_clamp (by omega)]]
    exact ⟨rfl, (_, _, (_, _, _, _, _), _, _, _), rfl⟩
  · refine v_iconst K (-1) dX7_removeWord_11 (by decide) ?_
    refine v_iret K E dX7_removeWord_12 ?_ (by (simp only [nf_rep1, nf_rep0, nf_d0, nf_t0, nf_s0, nf_ac, nf_an, List.map_cons, List.map_nil, cM_1, rowM_1, rowsM_1, rdM_1, spM_1, bookM_1, svM_1, hiM_1]))
    rw [show sRmW (ts, cs, S, SS, hn, hs) i = _ by unfold sRmW; rw [if_neg (by rw [bI_0 c8]; exact Bool.false_ne_true)]]
    exact ⟨rfl, (_, _, (_, _, _, _, _), _, _, _), rfl⟩

theorem hd_X7_setKind : yX7_setKind.cls = RX7 ∧ yX7_setKind.cls ≠ "java/lang/invoke/MethodHandle" ∧ yX7_setKind.cls ≠ "java/lang/invoke/VarHandle" ∧ (parseMethodDescriptor yX7_setKind.desc).map (fun d => d.parameters.length) = some 2 := by decide +kernel
set_option maxHeartbeats 4000000 in
set_option maxRecDepth 100000 in
theorem c_X7_setKind (cI cB : ClassId) (a : Nat → Nat) (g HB : Nat → Nat → Nat) (ts cs : List Int32) (S SS : Bk) (hn : Bool) (hs : List Bk) (ns xs : List Int32) (P e s d k : Int32) (T : T4) (D : Bk) (w : Sv) (i kd : Int32)  : Ct cI cB yX7_setKind wsX7_setKind { frames := 6, cells := 0, slots := 0, locals := 142 } [.ref (a 0), .int i, .int kd] [cM (a 0) (.inr (7, [.ref (a 1), .ref (a 3), .ref (a 5), .ref (a 7), .ref (g 0 0), .ref (g 1 0), .ref (g 2 0), .ref (g 3 0), .int (bI hn), .ref (a 10), .ref (g 4 0), .ref (g 5 0)])), rowM cI (a 1) (a 2) 60 ts, rowM cI (a 3) (a 4) 400 cs, rowM cI (a 5) (a 6) 400 ns, rdM (a 7) (a 8) (a 1) P e s d k, rowM cI (a 8) (a 9) 25 xs, spM cI (g 0) T, bookM cI (g 1) 30 20 S, bookM cI (g 2) 60 50 D, bookM cI (g 3) 30 20 SS, hiM cI cB (a 10) (a 11) HB hs, svM cI (g 4) (svy S), svM cI (g 5) w] (po cI cB a g HB (sKind (ts, cs, S, SS, hn, hs) i kd).1 (sKind (ts, cs, S, SS, hn, hs) i kd).2) := by
  refine ct_of (cc := cX7_setKind) (maxL := 4) (ret := (some .int)) (by decide) rfl (Nat.le_of_ble_eq_true rfl) [(0, .ref (a 0)), (1, .int i), (2, .int kd)] rfl ?_
  intro X hI hB K E
  subst hI
  subst hB
  have iX0 : ∀ w ∈ u_ws RX0 TX0 6, w ∈ wsX7_setKind := by decide +kernel
  have iX7 : ∀ w ∈ u_ws RX7 TX7 12, w ∈ wsX7_setKind := by decide +kernel
  refine v_aload_n K dX7_setKind_0 rfl ?_
  refine v_get K 0 rfl hasF_c rfl iX7 5 (by decide) rfl (by decide +kernel) rfl dX7_setKind_1 ?_
  refine v_iload_n K dX7_setKind_4 rfl ?_
  refine v_callVi K [7] (c_X0_hasWord (XI X) (XB X) _ _ _ _ _ ) rfl gX7_setKind_X0_hasWord rfl rfl hd_X0_hasWord ⟨rfl, rfl⟩ ⟨by decide, by decide⟩ 7 rfl bookF rfl (by decide) (Nat.le_of_ble_eq_true rfl) ⟨Nat.zero_le _, Nat.zero_le _⟩ rfl dX7_setKind_5 ?_
  try dsimp only [Nat.reduceAdd, nf_rep1, nf_rep0, nf_d0, nf_t0, nf_s0, nf_ac, nf_an, nf_d1, nf_t1, nf_s1, nf_d2, nf_t2, nf_s2, nf_d3, nf_t3, nf_s3, nf_d4, nf_t4, nf_s4, nf_d5, nf_t5, nf_s5, nf_d6, nf_t6, nf_s6, nf_d7, nf_t7, nf_s7, nf_d8, nf_t8, nf_s8, nf_d9, nf_t9, nf_s9, nf_d10, nf_t10, nf_s10, nf_d11, nf_t11, nf_s11, nf_d12, nf_t12, nf_s12, nf_d13, nf_t13, nf_s13, nf_d14, nf_t14, nf_s14, nf_d15, nf_t15, nf_s15, nf_d16, nf_t16, nf_s16, nf_d17, nf_t17, nf_s17, nf_d18, nf_t18, nf_s18, nf_d19, nf_t19, nf_s19, nf_d20, nf_t20, nf_s20]
  refine v_if_ne K 13 dX7_setKind_8 (by decide) (fun c8 => ?_) (fun c8 => ?_)
  · have hL := bI_1 c8
    refine v_iload_n K dX7_setKind_13 rfl ?_
    refine v_if_lt K 22 dX7_setKind_14 (by decide) (fun c14 => ?_) (fun c14 => ?_)
    · refine v_bipush K (-2) dX7_setKind_22 (by decide) ?_
      refine v_iret K E dX7_setKind_24 ?_ (by (simp only [nf_rep1, nf_rep0, nf_d0, nf_t0, nf_s0, nf_ac, nf_an, List.map_cons, List.map_nil, cM_1, rowM_1, rowsM_1, rdM_1, spM_1, bookM_1, svM_1, hiM_1]))
      rw [show sKind (ts, cs, S, SS, hn, hs) i kd = _ by unfold sKind; rw [if_pos hL, if_pos c14]]
      exact ⟨rfl, (_, _, (_, _, _, _, _), _, _, _), rfl⟩
    · refine v_iload_n K dX7_setKind_17 rfl ?_
      refine v_iconst K (2) dX7_setKind_18 (by decide) ?_
      refine v_ic_le K 25 dX7_setKind_19 (by decide) (fun c19 => ?_) (fun c19 => ?_)
      · refine v_aload_n K dX7_setKind_25 rfl ?_
        refine v_get K 0 rfl hasF_c rfl iX7 5 (by decide) rfl (by decide +kernel) rfl dX7_setKind_26 ?_
        refine v_obook 7 rfl ?_
        try dsimp only [Nat.reduceAdd, nf_rep1, nf_rep0, nf_d0, nf_t0, nf_s0, nf_ac, nf_an, nf_d1, nf_t1, nf_s1, nf_d2, nf_t2, nf_s2, nf_d3, nf_t3, nf_s3, nf_d4, nf_t4, nf_s4, nf_d5, nf_t5, nf_s5, nf_d6, nf_t6, nf_s6, nf_d7, nf_t7, nf_s7, nf_d8, nf_t8, nf_s8, nf_d9, nf_t9, nf_s9, nf_d10, nf_t10, nf_s10, nf_d11, nf_t11, nf_s11, nf_d12, nf_t12, nf_s12, nf_d13, nf_t13, nf_s13, nf_d14, nf_t14, nf_s14, nf_d15, nf_t15, nf_s15, nf_d16, nf_t16, nf_s16, nf_d17, nf_t17, nf_s17, nf_d18, nf_t18, nf_s18, nf_d19, nf_t19, nf_s19, nf_d20, nf_t20, nf_s20]
        refine v_get K 7 rfl hasF_c rfl iX0 5 (by decide) rfl (by decide +kernel) rfl dX7_setKind_29 ?_
        refine v_iload_n K dX7_setKind_32 rfl ?_
        refine v_callVi K [13] (c_X3_get (XI X) (XB X) _ _ _ _ _ ) rfl gX7_setKind_X3_get rfl rfl hd_X3_get ⟨rfl, rfl⟩ ⟨by decide, by decide⟩ 13 rfl rowF rfl (by decide) (Nat.le_of_ble_eq_true rfl) ⟨Nat.zero_le _, Nat.zero_le _⟩ rfl dX7_setKind_33 ?_
        try dsimp only [Nat.reduceAdd, nf_rep1, nf_rep0, nf_d0, nf_t0, nf_s0, nf_ac, nf_an, nf_d1, nf_t1, nf_s1, nf_d2, nf_t2, nf_s2, nf_d3, nf_t3, nf_s3, nf_d4, nf_t4, nf_s4, nf_d5, nf_t5, nf_s5, nf_d6, nf_t6, nf_s6, nf_d7, nf_t7, nf_s7, nf_d8, nf_t8, nf_s8, nf_d9, nf_t9, nf_s9, nf_d10, nf_t10, nf_s10, nf_d11, nf_t11, nf_s11, nf_d12, nf_t12, nf_s12, nf_d13, nf_t13, nf_s13, nf_d14, nf_t14, nf_s14, nf_d15, nf_t15, nf_s15, nf_d16, nf_t16, nf_s16, nf_d17, nf_t17, nf_s17, nf_d18, nf_t18, nf_s18, nf_d19, nf_t19, nf_s19, nf_d20, nf_t20, nf_s20]
        refine v_cbook  7 rfl ?_
        try dsimp only [Nat.reduceAdd, nf_rep1, nf_rep0, nf_d0, nf_t0, nf_s0, nf_ac, nf_an, nf_d1, nf_t1, nf_s1, nf_d2, nf_t2, nf_s2, nf_d3, nf_t3, nf_s3, nf_d4, nf_t4, nf_s4, nf_d5, nf_t5, nf_s5, nf_d6, nf_t6, nf_s6, nf_d7, nf_t7, nf_s7, nf_d8, nf_t8, nf_s8, nf_d9, nf_t9, nf_s9, nf_d10, nf_t10, nf_s10, nf_d11, nf_t11, nf_s11, nf_d12, nf_t12, nf_s12, nf_d13, nf_t13, nf_s13, nf_d14, nf_t14, nf_s14, nf_d15, nf_t15, nf_s15, nf_d16, nf_t16, nf_s16, nf_d17, nf_t17, nf_s17, nf_d18, nf_t18, nf_s18, nf_d19, nf_t19, nf_s19, nf_d20, nf_t20, nf_s20]
        refine v_istore_n K dX7_setKind_36 (by decide) ?_
        refine v_iload_n K dX7_setKind_37 rfl ?_
        refine v_iload_n K dX7_setKind_38 rfl ?_
        refine v_ic_ne K 45 dX7_setKind_39 (by decide) (fun c39 => ?_) (fun c39 => ?_)
        · refine v_aload_n K dX7_setKind_45 rfl ?_
          refine v_get K 0 rfl hasF_c rfl iX7 9 (by decide) rfl (by decide +kernel) rfl dX7_setKind_46 ?_
          refine v_aload_n K dX7_setKind_49 rfl ?_
          refine v_get K 0 rfl hasF_c rfl iX7 5 (by decide) rfl (by decide +kernel) rfl dX7_setKind_50 ?_
          refine v_callVv K [10, 7] (c_X1_record (XI X) (XB X) _ _ _ _ _ _ _ _ ) rfl gX7_setKind_X1_record rfl rfl hd_X1_record ⟨rfl, rfl⟩ ⟨by decide, by decide⟩ 10 rfl hiF rfl (by decide) (Nat.le_of_ble_eq_true rfl) ⟨Nat.zero_le _, Nat.zero_le _⟩ rfl dX7_setKind_53 ?_
          try dsimp only [Nat.reduceAdd, nf_rep1, nf_rep0, nf_d0, nf_t0, nf_s0, nf_ac, nf_an, nf_d1, nf_t1, nf_s1, nf_d2, nf_t2, nf_s2, nf_d3, nf_t3, nf_s3, nf_d4, nf_t4, nf_s4, nf_d5, nf_t5, nf_s5, nf_d6, nf_t6, nf_s6, nf_d7, nf_t7, nf_s7, nf_d8, nf_t8, nf_s8, nf_d9, nf_t9, nf_s9, nf_d10, nf_t10, nf_s10, nf_d11, nf_t11, nf_s11, nf_d12, nf_t12, nf_s12, nf_d13, nf_t13, nf_s13, nf_d14, nf_t14, nf_s14, nf_d15, nf_t15, nf_s15, nf_d16, nf_t16, nf_s16, nf_d17, nf_t17, nf_s17, nf_d18, nf_t18, nf_s18, nf_d19, nf_t19, nf_s19, nf_d20, nf_t20, nf_s20]
          refine v_aload_n K dX7_setKind_56 rfl ?_
          refine v_get K 0 rfl hasF_c rfl iX7 5 (by decide) rfl (by decide +kernel) rfl dX7_setKind_57 ?_
          refine v_obook 7 rfl ?_
          try dsimp only [Nat.reduceAdd, nf_rep1, nf_rep0, nf_d0, nf_t0, nf_s0, nf_ac, nf_an, nf_d1, nf_t1, nf_s1, nf_d2, nf_t2, nf_s2, nf_d3, nf_t3, nf_s3, nf_d4, nf_t4, nf_s4, nf_d5, nf_t5, nf_s5, nf_d6, nf_t6, nf_s6, nf_d7, nf_t7, nf_s7, nf_d8, nf_t8, nf_s8, nf_d9, nf_t9, nf_s9, nf_d10, nf_t10, nf_s10, nf_d11, nf_t11, nf_s11, nf_d12, nf_t12, nf_s12, nf_d13, nf_t13, nf_s13, nf_d14, nf_t14, nf_s14, nf_d15, nf_t15, nf_s15, nf_d16, nf_t16, nf_s16, nf_d17, nf_t17, nf_s17, nf_d18, nf_t18, nf_s18, nf_d19, nf_t19, nf_s19, nf_d20, nf_t20, nf_s20]
          refine v_get K 7 rfl hasF_c rfl iX0 5 (by decide) rfl (by decide +kernel) rfl dX7_setKind_60 ?_
          refine v_iload_n K dX7_setKind_63 rfl ?_
          refine v_iload_n K dX7_setKind_64 rfl ?_
          refine v_callVv K [13] (c_X3_set (XI X) (XB X) _ _ _ _ _ _ ) rfl gX7_setKind_X3_set rfl rfl hd_X3_set ⟨rfl, rfl⟩ ⟨by decide, by decide⟩ 13 rfl rowF rfl (by decide) (Nat.le_of_ble_eq_true rfl) ⟨Nat.zero_le _, Nat.zero_le _⟩ rfl dX7_setKind_65 ?_
          try dsimp only [Nat.reduceAdd, nf_rep1, nf_rep0, nf_d0, nf_t0, nf_s0, nf_ac, nf_an, nf_d1, nf_t1, nf_s1, nf_d2, nf_t2, nf_s2, nf_d3, nf_t3, nf_s3, nf_d4, nf_t4, nf_s4, nf_d5, nf_t5, nf_s5, nf_d6, nf_t6, nf_s6, nf_d7, nf_t7, nf_s7, nf_d8, nf_t8, nf_s8, nf_d9, nf_t9, nf_s9, nf_d10, nf_t10, nf_s10, nf_d11, nf_t11, nf_s11, nf_d12, nf_t12, nf_s12, nf_d13, nf_t13, nf_s13, nf_d14, nf_t14, nf_s14, nf_d15, nf_t15, nf_s15, nf_d16, nf_t16, nf_s16, nf_d17, nf_t17, nf_s17, nf_d18, nf_t18, nf_s18, nf_d19, nf_t19, nf_s19, nf_d20, nf_t20, nf_s20]
          refine v_cbook  7 rfl ?_
          try dsimp only [Nat.reduceAdd, nf_rep1, nf_rep0, nf_d0, nf_t0, nf_s0, nf_ac, nf_an, nf_d1, nf_t1, nf_s1, nf_d2, nf_t2, nf_s2, nf_d3, nf_t3, nf_s3, nf_d4, nf_t4, nf_s4, nf_d5, nf_t5, nf_s5, nf_d6, nf_t6, nf_s6, nf_d7, nf_t7, nf_s7, nf_d8, nf_t8, nf_s8, nf_d9, nf_t9, nf_s9, nf_d10, nf_t10, nf_s10, nf_d11, nf_t11, nf_s11, nf_d12, nf_t12, nf_s12, nf_d13, nf_t13, nf_s13, nf_d14, nf_t14, nf_s14, nf_d15, nf_t15, nf_s15, nf_d16, nf_t16, nf_s16, nf_d17, nf_t17, nf_s17, nf_d18, nf_t18, nf_s18, nf_d19, nf_t19, nf_s19, nf_d20, nf_t20, nf_s20]
          refine v_aload_n K dX7_setKind_68 rfl ?_
          refine v_get K 0 rfl hasF_c rfl iX7 10 (by decide) rfl (by decide +kernel) rfl dX7_setKind_69 ?_
          refine v_aload_n K dX7_setKind_72 rfl ?_
          refine v_get K 0 rfl hasF_c rfl iX7 5 (by decide) rfl (by decide +kernel) rfl dX7_setKind_73 ?_
          refine v_callVv K [11, 7] (c_X6_renew (XI X) (XB X) _ _ _ _ _ _ ) rfl gX7_setKind_X6_renew rfl rfl hd_X6_renew ⟨rfl, rfl⟩ ⟨by decide, by decide⟩ 11 rfl svF rfl (by decide) (Nat.le_of_ble_eq_true rfl) ⟨Nat.zero_le _, Nat.zero_le _⟩ rfl dX7_setKind_76 ?_
          try dsimp only [Nat.reduceAdd, nf_rep1, nf_rep0, nf_d0, nf_t0, nf_s0, nf_ac, nf_an, nf_d1, nf_t1, nf_s1, nf_d2, nf_t2, nf_s2, nf_d3, nf_t3, nf_s3, nf_d4, nf_t4, nf_s4, nf_d5, nf_t5, nf_s5, nf_d6, nf_t6, nf_s6, nf_d7, nf_t7, nf_s7, nf_d8, nf_t8, nf_s8, nf_d9, nf_t9, nf_s9, nf_d10, nf_t10, nf_s10, nf_d11, nf_t11, nf_s11, nf_d12, nf_t12, nf_s12, nf_d13, nf_t13, nf_s13, nf_d14, nf_t14, nf_s14, nf_d15, nf_t15, nf_s15, nf_d16, nf_t16, nf_s16, nf_d17, nf_t17, nf_s17, nf_d18, nf_t18, nf_s18, nf_d19, nf_t19, nf_s19, nf_d20, nf_t20, nf_s20]
          refine v_iload_n K dX7_setKind_79 rfl ?_
          refine v_iret K E dX7_setKind_80 ?_ (by (simp only [nf_rep1, nf_rep0, nf_d0, nf_t0, nf_s0, nf_ac, nf_an, List.map_cons, List.map_nil, cM_1, rowM_1, rowsM_1, rdM_1, spM_1, bookM_1, svM_1, hiM_1]))
          rw [show sKind (ts, cs, S, SS, hn, hs) i kd = _ by unfold sKind; rw [if_pos hL, if_neg c14, if_pos c19, if_neg c39]]
          exact ⟨rfl, (_, _, (_, _, _, _, _), _, _, _), rfl⟩
        · refine v_bipush K (-5) dX7_setKind_42 (by decide) ?_
          refine v_iret K E dX7_setKind_44 ?_ (by (simp only [nf_rep1, nf_rep0, nf_d0, nf_t0, nf_s0, nf_ac, nf_an, List.map_cons, List.map_nil, cM_1, rowM_1, rowsM_1, rdM_1, spM_1, bookM_1, svM_1, hiM_1]))
          rw [show sKind (ts, cs, S, SS, hn, hs) i kd = _ by unfold sKind; rw [if_pos hL, if_neg c14, if_pos c19, if_pos c39]]
          exact ⟨rfl, (_, _, (_, _, _, _, _), _, _, _), rfl⟩
      · refine v_bipush K (-2) dX7_setKind_22 (by decide) ?_
        refine v_iret K E dX7_setKind_24 ?_ (by (simp only [nf_rep1, nf_rep0, nf_d0, nf_t0, nf_s0, nf_ac, nf_an, List.map_cons, List.map_nil, cM_1, rowM_1, rowsM_1, rdM_1, spM_1, bookM_1, svM_1, hiM_1]))
        rw [show sKind (ts, cs, S, SS, hn, hs) i kd = _ by unfold sKind; rw [if_pos hL, if_neg c14, if_neg c19]]
        exact ⟨rfl, (_, _, (_, _, _, _, _), _, _, _), rfl⟩
  · refine v_iconst K (-1) dX7_setKind_11 (by decide) ?_
    refine v_iret K E dX7_setKind_12 ?_ (by (simp only [nf_rep1, nf_rep0, nf_d0, nf_t0, nf_s0, nf_ac, nf_an, List.map_cons, List.map_nil, cM_1, rowM_1, rowsM_1, rdM_1, spM_1, bookM_1, svM_1, hiM_1]))
    rw [show sKind (ts, cs, S, SS, hn, hs) i kd = _ by unfold sKind; rw [if_neg (by rw [bI_0 c8]; exact Bool.false_ne_true)]]
    exact ⟨rfl, (_, _, (_, _, _, _, _), _, _, _), rfl⟩
