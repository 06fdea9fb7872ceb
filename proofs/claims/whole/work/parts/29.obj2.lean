theorem hd_X7_isToBeMarked : yX7_isToBeMarked.cls = RX7 ∧ yX7_isToBeMarked.cls ≠ "java/lang/invoke/MethodHandle" ∧ yX7_isToBeMarked.cls ≠ "java/lang/invoke/VarHandle" ∧ (parseMethodDescriptor yX7_isToBeMarked.desc).map (fun d => d.parameters.length) = some 1 := by decide +kernel
set_option maxHeartbeats 4000000 in
set_option maxRecDepth 100000 in
theorem c_X7_isToBeMarked (cI cB : ClassId) (a : Nat → Nat) (g : Nat → Nat → Nat) (S : Bk) (hn : Bool) (v : Sv) (I : Nat) (hI : I < v.2.2.1.length) (hI9 : I < 1000000000) : Ct cI cB yX7_isToBeMarked wsX7_isToBeMarked { frames := 5, cells := 0, slots := 0, locals := 111 } [.ref (a 0), .int (nI I)] [cM (a 0) (.inr (7, [.ref (a 1), .ref (a 3), .ref (a 5), .ref (a 7), .ref (g 0 0), .ref (g 1 0), .ref (g 2 0), .ref (g 3 0), .int (bI hn), .ref (a 10), .ref (g 4 0), .ref (g 5 0)])), bookM cI (g 1) 30 20 S, svM cI (g 4) v] (dv (bI (tbm S v I)) [cM (a 0) (.inr (7, [.ref (a 1), .ref (a 3), .ref (a 5), .ref (a 7), .ref (g 0 0), .ref (g 1 0), .ref (g 2 0), .ref (g 3 0), .int (bI hn), .ref (a 10), .ref (g 4 0), .ref (g 5 0)])), bookM cI (g 1) 30 20 S, svM cI (g 4) v]) := by
  refine ct_of (cc := cX7_isToBeMarked) (maxL := 2) (ret := (some .boolean)) (by decide) rfl (Nat.le_of_ble_eq_true rfl) [(0, .ref (a 0)), (1, .int (nI I))] rfl ?_
  intro X hI hB K E
  subst hI
  subst hB
  have iX0 : ∀ w ∈ u_ws RX0 TX0 6, w ∈ wsX7_isToBeMarked := by decide +kernel
  have iX7 : ∀ w ∈ u_ws RX7 TX7 12, w ∈ wsX7_isToBeMarked := by decide +kernel
  refine v_bfit 1 rfl (fun hb => ?_)
  have hR := bfit_r hb
  have hW := bfit_w hb
  refine v_aload_n K dX7_isToBeMarked_0 rfl ?_
  refine v_get K 0 rfl hasF_c rfl iX7 5 (by decide) rfl (by decide +kernel) rfl dX7_isToBeMarked_1 ?_
  refine v_obook 1 rfl ?_
  try dsimp only [Nat.reduceAdd, nf_rep1, nf_rep0, nf_d0, nf_t0, nf_s0, nf_ac, nf_an, nf_d1, nf_t1, nf_s1, nf_d2, nf_t2, nf_s2, nf_d3, nf_t3, nf_s3, nf_d4, nf_t4, nf_s4, nf_d5, nf_t5, nf_s5, nf_d6, nf_t6, nf_s6, nf_d7, nf_t7, nf_s7, nf_d8, nf_t8, nf_s8, nf_d9, nf_t9, nf_s9, nf_d10, nf_t10, nf_s10, nf_d11, nf_t11, nf_s11, nf_d12, nf_t12, nf_s12, nf_d13, nf_t13, nf_s13, nf_d14, nf_t14, nf_s14, nf_d15, nf_t15, nf_s15, nf_d16, nf_t16, nf_s16, nf_d17, nf_t17, nf_s17, nf_d18, nf_t18, nf_s18, nf_d19, nf_t19, nf_s19, nf_d20, nf_t20, nf_s20]
  refine v_get K 1 rfl hasF_c rfl iX0 5 (by decide) rfl (by decide +kernel) rfl dX7_isToBeMarked_4 ?_
  refine v_iload_n K dX7_isToBeMarked_7 rfl ?_
  refine v_callVi K [7] (c_X3_get (XI X) (XB X) _ _ _ _ _ ) rfl gX7_isToBeMarked_X3_get rfl rfl hd_X3_get ⟨rfl, rfl⟩ ⟨by decide, by decide⟩ 7 rfl rowF rfl (by decide) (Nat.le_of_ble_eq_true rfl) ⟨Nat.zero_le _, Nat.zero_le _⟩ rfl dX7_isToBeMarked_8 ?_
  try dsimp only [Nat.reduceAdd, nf_rep1, nf_rep0, nf_d0, nf_t0, nf_s0, nf_ac, nf_an, nf_d1, nf_t1, nf_s1, nf_d2, nf_t2, nf_s2, nf_d3, nf_t3, nf_s3, nf_d4, nf_t4, nf_s4, nf_d5, nf_t5, nf_s5, nf_d6, nf_t6, nf_s6, nf_d7, nf_t7, nf_s7, nf_d8, nf_t8, nf_s8, nf_d9, nf_t9, nf_s9, nf_d10, nf_t10, nf_s10, nf_d11, nf_t11, nf_s11, nf_d12, nf_t12, nf_s12, nf_d13, nf_t13, nf_s13, nf_d14, nf_t14, nf_s14, nf_d15, nf_t15, nf_s15, nf_d16, nf_t16, nf_s16, nf_d17, nf_t17, nf_s17, nf_d18, nf_t18, nf_s18, nf_d19, nf_t19, nf_s19, nf_d20, nf_t20, nf_s20]
  rw [gt_n (by omega)]
  refine v_cbook  1 rfl ?_
  try dsimp only [Nat.reduceAdd, nf_rep1, nf_rep0, nf_d0, nf_t0, nf_s0, nf_ac, nf_an, nf_d1, nf_t1, nf_s1, nf_d2, nf_t2, nf_s2, nf_d3, nf_t3, nf_s3, nf_d4, nf_t4, nf_s4, nf_d5, nf_t5, nf_s5, nf_d6, nf_t6, nf_s6, nf_d7, nf_t7, nf_s7, nf_d8, nf_t8, nf_s8, nf_d9, nf_t9, nf_s9, nf_d10, nf_t10, nf_s10, nf_d11, nf_t11, nf_s11, nf_d12, nf_t12, nf_s12, nf_d13, nf_t13, nf_s13, nf_d14, nf_t14, nf_s14, nf_d15, nf_t15, nf_s15, nf_d16, nf_t16, nf_s16, nf_d17, nf_t17, nf_s17, nf_d18, nf_t18, nf_s18, nf_d19, nf_t19, nf_s19, nf_d20, nf_t20, nf_s20]
  refine v_if_ne K 29 dX7_isToBeMarked_11 (by decide) (fun c11 => ?_) (fun c11 => ?_)
  · refine v_iconst K (0) dX7_isToBeMarked_29 (by decide) ?_
    refine v_zret K E dX7_isToBeMarked_30 (by first | exact Or.inl rfl | exact Or.inr rfl | exact bI_01 _) ?_ (by simp only [nf_rep1, nf_rep0, nf_d0, nf_t0, nf_s0, nf_ac, nf_an, List.map_cons, List.map_nil, cM_1, rowM_1, rowsM_1, rdM_1, spM_1, bookM_1, svM_1, hiM_1])
    exact ⟨by unfold tbm; rw [decide_eq_false c11] <;> rfl, rfl⟩
  · refine v_aload_n K dX7_isToBeMarked_14 rfl ?_
    refine v_get K 0 rfl hasF_c rfl iX7 10 (by decide) rfl (by decide +kernel) rfl dX7_isToBeMarked_15 ?_
    refine v_iload_n K dX7_isToBeMarked_18 rfl ?_
    refine v_callVi K [2] (c_X6_comesBack (XI X) (XB X) _ _ _ ?hc19_0_2) rfl gX7_isToBeMarked_X6_comesBack rfl rfl hd_X6_comesBack ⟨rfl, rfl⟩ ⟨by decide, by decide⟩ 2 rfl svF rfl (by decide) (Nat.le_of_ble_eq_true rfl) ⟨Nat.zero_le _, Nat.zero_le _⟩ rfl dX7_isToBeMarked_19 ?_
    case hc19_0_2 => exact hI
    try dsimp only [Nat.reduceAdd, nf_rep1, nf_rep0, nf_d0, nf_t0, nf_s0, nf_ac, nf_an, nf_d1, nf_t1, nf_s1, nf_d2, nf_t2, nf_s2, nf_d3, nf_t3, nf_s3, nf_d4, nf_t4, nf_s4, nf_d5, nf_t5, nf_s5, nf_d6, nf_t6, nf_s6, nf_d7, nf_t7, nf_s7, nf_d8, nf_t8, nf_s8, nf_d9, nf_t9, nf_s9, nf_d10, nf_t10, nf_s10, nf_d11, nf_t11, nf_s11, nf_d12, nf_t12, nf_s12, nf_d13, nf_t13, nf_s13, nf_d14, nf_t14, nf_s14, nf_d15, nf_t15, nf_s15, nf_d16, nf_t16, nf_s16, nf_d17, nf_t17, nf_s17, nf_d18, nf_t18, nf_s18, nf_d19, nf_t19, nf_s19, nf_d20, nf_t20, nf_s20]
    refine v_if_ne K 29 dX7_isToBeMarked_22 (by decide) (fun c22 => ?_) (fun c22 => ?_)
    · refine v_iconst K (0) dX7_isToBeMarked_29 (by decide) ?_
      refine v_zret K E dX7_isToBeMarked_30 (by first | exact Or.inl rfl | exact Or.inr rfl | exact bI_01 _) ?_ (by simp only [nf_rep1, nf_rep0, nf_d0, nf_t0, nf_s0, nf_ac, nf_an, List.map_cons, List.map_nil, cM_1, rowM_1, rowsM_1, rdM_1, spM_1, bookM_1, svM_1, hiM_1])
      exact ⟨by unfold tbm; rw [bI_1 c22, Bool.not_true, Bool.and_false] <;> rfl, rfl⟩
    · refine v_iconst K (1) dX7_isToBeMarked_25 (by decide) ?_
      refine v_goto K 30 dX7_isToBeMarked_26 (by decide) ?_
      refine v_zret K E dX7_isToBeMarked_30 (by first | exact Or.inl rfl | exact Or.inr rfl | exact bI_01 _) ?_ (by simp only [nf_rep1, nf_rep0, nf_d0, nf_t0, nf_s0, nf_ac, nf_an, List.map_cons, List.map_nil, cM_1, rowM_1, rowsM_1, rdM_1, spM_1, bookM_1, svM_1, hiM_1])
      exact ⟨by unfold tbm; rw [decide_eq_true c11, bI_0 c22] <;> rfl, rfl⟩

theorem hd_X7_markCollisions : yX7_markCollisions.cls = RX7 ∧ yX7_markCollisions.cls ≠ "java/lang/invoke/MethodHandle" ∧ yX7_markCollisions.cls ≠ "java/lang/invoke/VarHandle" ∧ (parseMethodDescriptor yX7_markCollisions.desc).map (fun d => d.parameters.length) = some 0 := by decide +kernel
set_option maxHeartbeats 4000000 in
set_option maxRecDepth 100000 in
theorem c_X7_markCollisions (cI cB : ClassId) (a : Nat → Nat) (g HB : Nat → Nat → Nat) (ts cs : List Int32) (S SS : Bk) (hn : Bool) (hs : List Bk) (ns xs : List Int32) (P e s d k : Int32) (T : T4) (D : Bk) (w : Sv)  : Ct cI cB yX7_markCollisions wsX7_markCollisions { frames := 6, cells := 0, slots := 0, locals := 142 } [.ref (a 0)] [cM (a 0) (.inr (7, [.ref (a 1), .ref (a 3), .ref (a 5), .ref (a 7), .ref (g 0 0), .ref (g 1 0), .ref (g 2 0), .ref (g 3 0), .int (bI hn), .ref (a 10), .ref (g 4 0), .ref (g 5 0)])), rowM cI (a 1) (a 2) 60 ts, rowM cI (a 3) (a 4) 400 cs, rowM cI (a 5) (a 6) 400 ns, rdM (a 7) (a 8) (a 1) P e s d k, rowM cI (a 8) (a 9) 25 xs, spM cI (g 0) T, bookM cI (g 1) 30 20 S, bookM cI (g 2) 60 50 D, bookM cI (g 3) 30 20 SS, hiM cI cB (a 10) (a 11) HB hs, svM cI (g 4) (svy S), svM cI (g 5) w] (po cI cB a g HB (sMark (ts, cs, S, SS, hn, hs)).1 (sMark (ts, cs, S, SS, hn, hs)).2) := by
  refine ct_of (cc := cX7_markCollisions) (maxL := 3) (ret := (some .int)) (by decide) rfl (Nat.le_of_ble_eq_true rfl) [(0, .ref (a 0))] rfl ?_
  intro X hI hB K E
  subst hI
  subst hB
  have iX0 : ∀ w ∈ u_ws RX0 TX0 6, w ∈ wsX7_markCollisions := by decide +kernel
  have iX7 : ∀ w ∈ u_ws RX7 TX7 12, w ∈ wsX7_markCollisions := by decide +kernel
  refine v_bfit 7 rfl (fun hb => ?_)
  have hR := bfit_r hb
  have hW := bfit_w hb
  have lp2 : ¬ nI (cntR (tbm S (svy S)) S.2.2.2.2.1.length) = 0 → ∀ k2, k2 ≤ S.2.2.2.2.1.length → ∀ (x : Int32), x = nI k2 → V X 0 0 52 [(0, .ref (a 0)), (1, .int (nI (cntR (tbm S (svy S)) S.2.2.2.2.1.length))), (2, .int x)] [] [cM (a 0) (.inr (7, [.ref (a 1), .ref (a 3), .ref (a 5), .ref (a 7), .ref (g 0 0), .ref (g 1 0), .ref (g 2 0), .ref (g 3 0), .int (bI hn), .ref (a 10), .ref (g 4 0), .ref (g 5 0)])), rowM (XI X) (a 1) (a 2) 60 ts, rowM (XI X) (a 3) (a 4) 400 cs, rowM (XI X) (a 5) (a 6) 400 ns, rdM (a 7) (a 8) (a 1) P e s d k, rowM (XI X) (a 8) (a 9) 25 xs, spM (XI X) (g 0) T, bookM (XI X) (g 1) 30 20 (mkS S (svy S) k2), bookM (XI X) (g 2) 60 50 D, bookM (XI X) (g 3) 30 20 SS, hiM (XI X) (XB X) (a 10) (a 11) HB (rec4 hs (cpB 30 20 S)), svM (XI X) (g 4) (svy S), svM (XI X) (g 5) w] := by
    intro hne
    refine loop_up S.2.2.2.2.1.length ?_
    intro k2 hk ih x hx
    subst hx
    refine v_iload_n K dX7_markCollisions_52 rfl ?_
    refine v_aload_n K dX7_markCollisions_53 rfl ?_
    refine v_get K 0 rfl hasF_c rfl iX7 5 (by decide) rfl (by decide +kernel) rfl dX7_markCollisions_54 ?_
    refine v_callVi K [7] (c_X0_words (XI X) (XB X) _ _ _ _ ) rfl gX7_markCollisions_X0_words rfl rfl hd_X0_words ⟨rfl, rfl⟩ ⟨by decide, by decide⟩ 7 rfl bookF rfl (by decide) (Nat.le_of_ble_eq_true rfl) ⟨Nat.zero_le _, Nat.zero_le _⟩ rfl dX7_markCollisions_57 ?_
    try dsimp only [Nat.reduceAdd, nf_rep1, nf_rep0, nf_d0, nf_t0, nf_s0, nf_ac, nf_an, nf_d1, nf_t1, nf_s1, nf_d2, nf_t2, nf_s2, nf_d3, nf_t3, nf_s3, nf_d4, nf_t4, nf_s4, nf_d5, nf_t5, nf_s5, nf_d6, nf_t6, nf_s6, nf_d7, nf_t7, nf_s7, nf_d8, nf_t8, nf_s8, nf_d9, nf_t9, nf_s9, nf_d10, nf_t10, nf_s10, nf_d11, nf_t11, nf_s11, nf_d12, nf_t12, nf_s12, nf_d13, nf_t13, nf_s13, nf_d14, nf_t14, nf_s14, nf_d15, nf_t15, nf_s15, nf_d16, nf_t16, nf_s16, nf_d17, nf_t17, nf_s17, nf_d18, nf_t18, nf_s18, nf_d19, nf_t19, nf_s19, nf_d20, nf_t20, nf_s20]
    rw [mkS_wl]
    refine v_ic_ge K 89 dX7_markCollisions_60 (by decide) (fun c60 => ?_) (fun c60 => ?_)
    · have hk2 := up_end rfl hW.1 hk c60
      subst hk2
      refine v_aload_n K dX7_markCollisions_89 rfl ?_
      refine v_get K 0 rfl hasF_c rfl iX7 10 (by decide) rfl (by decide +kernel) rfl dX7_markCollisions_90 ?_
      refine v_aload_n K dX7_markCollisions_93 rfl ?_
      refine v_get K 0 rfl hasF_c rfl iX7 5 (by decide) rfl (by decide +kernel) rfl dX7_markCollisions_94 ?_
      refine v_callVv K [11, 7] (c_X6_renew (XI X) (XB X) _ _ _ _ _ _ ) rfl gX7_markCollisions_X6_renew rfl rfl hd_X6_renew ⟨rfl, rfl⟩ ⟨by decide, by decide⟩ 11 rfl svF rfl (by decide) (Nat.le_of_ble_eq_true rfl) ⟨Nat.zero_le _, Nat.zero_le _⟩ rfl dX7_markCollisions_97 ?_
      try dsimp only [Nat.reduceAdd, nf_rep1, nf_rep0, nf_d0, nf_t0, nf_s0, nf_ac, nf_an, nf_d1, nf_t1, nf_s1, nf_d2, nf_t2, nf_s2, nf_d3, nf_t3, nf_s3, nf_d4, nf_t4, nf_s4, nf_d5, nf_t5, nf_s5, nf_d6, nf_t6, nf_s6, nf_d7, nf_t7, nf_s7, nf_d8, nf_t8, nf_s8, nf_d9, nf_t9, nf_s9, nf_d10, nf_t10, nf_s10, nf_d11, nf_t11, nf_s11, nf_d12, nf_t12, nf_s12, nf_d13, nf_t13, nf_s13, nf_d14, nf_t14, nf_s14, nf_d15, nf_t15, nf_s15, nf_d16, nf_t16, nf_s16, nf_d17, nf_t17, nf_s17, nf_d18, nf_t18, nf_s18, nf_d19, nf_t19, nf_s19, nf_d20, nf_t20, nf_s20]
      refine v_iload_n K dX7_markCollisions_100 rfl ?_
      refine v_iret K E dX7_markCollisions_101 ?_ (by (simp only [nf_rep1, nf_rep0, nf_d0, nf_t0, nf_s0, nf_ac, nf_an, List.map_cons, List.map_nil, cM_1, rowM_1, rowsM_1, rdM_1, spM_1, bookM_1, svM_1, hiM_1]))
      rw [show sMark (ts, cs, S, SS, hn, hs) = _ by unfold sMark; rw [if_neg hne]]
      exact ⟨rfl, (_, _, (_, _, _, _, _), _, _, _), rfl⟩
    · have hlt := up_lt rfl hW.1 hk c60
      refine v_aload_n K dX7_markCollisions_63 rfl ?_
      refine v_iload_n K dX7_markCollisions_64 rfl ?_
      refine v_callVi K [0, 7, 11] (c_X7_isToBeMarked (XI X) (XB X) _ _ _ _ _ _ ?hc65_0_3 ?hc65_1_3) rfl gX7_markCollisions_X7_isToBeMarked rfl rfl hd_X7_isToBeMarked ⟨rfl, rfl⟩ ⟨by decide, by decide⟩ 0 rfl hasF_c rfl (by decide) (Nat.le_of_ble_eq_true rfl) ⟨Nat.zero_le _, Nat.zero_le _⟩ rfl dX7_markCollisions_65 ?_
      case hc65_0_3 => rw [svy_len hW.2]; exact hlt
      case hc65_1_3 => omega
      try dsimp only [Nat.reduceAdd, nf_rep1, nf_rep0, nf_d0, nf_t0, nf_s0, nf_ac, nf_an, nf_d1, nf_t1, nf_s1, nf_d2, nf_t2, nf_s2, nf_d3, nf_t3, nf_s3, nf_d4, nf_t4, nf_s4, nf_d5, nf_t5, nf_s5, nf_d6, nf_t6, nf_s6, nf_d7, nf_t7, nf_s7, nf_d8, nf_t8, nf_s8, nf_d9, nf_t9, nf_s9, nf_d10, nf_t10, nf_s10, nf_d11, nf_t11, nf_s11, nf_d12, nf_t12, nf_s12, nf_d13, nf_t13, nf_s13, nf_d14, nf_t14, nf_s14, nf_d15, nf_t15, nf_s15, nf_d16, nf_t16, nf_s16, nf_d17, nf_t17, nf_s17, nf_d18, nf_t18, nf_s18, nf_d19, nf_t19, nf_s19, nf_d20, nf_t20, nf_s20]
      refine v_if_eq K 83 dX7_markCollisions_68 (by decide) (fun c68 => ?_) (fun c68 => ?_)
      · refine v_iinc K dX7_markCollisions_83 rfl (by decide) iinc_1 ?_
        refine v_goto K 52 dX7_markCollisions_86 (by decide) ?_
        exact v_j (ih hlt _ (nI_1 k2)) rfl rfl (by rw [mkS_f (bI_0 c68)])
      · refine v_aload_n K dX7_markCollisions_71 rfl ?_
        refine v_get K 0 rfl hasF_c rfl iX7 5 (by decide) rfl (by decide +kernel) rfl dX7_markCollisions_72 ?_
        refine v_obook 7 rfl ?_
        try dsimp only [Nat.reduceAdd, nf_rep1, nf_rep0, nf_d0, nf_t0, nf_s0, nf_ac, nf_an, nf_d1, nf_t1, nf_s1, nf_d2, nf_t2, nf_s2, nf_d3, nf_t3, nf_s3, nf_d4, nf_t4, nf_s4, nf_d5, nf_t5, nf_s5, nf_d6, nf_t6, nf_s6, nf_d7, nf_t7, nf_s7, nf_d8, nf_t8, nf_s8, nf_d9, nf_t9, nf_s9, nf_d10, nf_t10, nf_s10, nf_d11, nf_t11, nf_s11, nf_d12, nf_t12, nf_s12, nf_d13, nf_t13, nf_s13, nf_d14, nf_t14, nf_s14, nf_d15, nf_t15, nf_s15, nf_d16, nf_t16, nf_s16, nf_d17, nf_t17, nf_s17, nf_d18, nf_t18, nf_s18, nf_d19, nf_t19, nf_s19, nf_d20, nf_t20, nf_s20]
        refine v_get K 7 rfl hasF_c rfl iX0 5 (by decide) rfl (by decide +kernel) rfl dX7_markCollisions_75 ?_
        refine v_iload_n K dX7_markCollisions_78 rfl ?_
        refine v_iconst K (2) dX7_markCollisions_79 (by decide) ?_
        refine v_callVv K [13] (c_X3_set (XI X) (XB X) _ _ _ _ _ _ ) rfl gX7_markCollisions_X3_set rfl rfl hd_X3_set ⟨rfl, rfl⟩ ⟨by decide, by decide⟩ 13 rfl rowF rfl (by decide) (Nat.le_of_ble_eq_true rfl) ⟨Nat.zero_le _, Nat.zero_le _⟩ rfl dX7_markCollisions_80 ?_
        try dsimp only [Nat.reduceAdd, nf_rep1, nf_rep0, nf_d0, nf_t0, nf_s0, nf_ac, nf_an, nf_d1, nf_t1, nf_s1, nf_d2, nf_t2, nf_s2, nf_d3, nf_t3, nf_s3, nf_d4, nf_t4, nf_s4, nf_d5, nf_t5, nf_s5, nf_d6, nf_t6, nf_s6, nf_d7, nf_t7, nf_s7, nf_d8, nf_t8, nf_s8, nf_d9, nf_t9, nf_s9, nf_d10, nf_t10, nf_s10, nf_d11, nf_t11, nf_s11, nf_d12, nf_t12, nf_s12, nf_d13, nf_t13, nf_s13, nf_d14, nf_t14, nf_s14, nf_d15, nf_t15, nf_s15, nf_d16, nf_t16, nf_s16, nf_d17, nf_t17, nf_s17, nf_d18, nf_t18, nf_s18, nf_d19, nf_t19, nf_s19, nf_d20, nf_t20, nf_s20]
        refine v_cbook  7 rfl ?_
        try dsimp only [Nat.reduceAdd, nf_rep1, nf_rep0, nf_d0, nf_t0, nf_s0, nf_ac, nf_an, nf_d1, nf_t1, nf_s1, nf_d2, nf_t2, nf_s2, nf_d3, nf_t3, nf_s3, nf_d4, nf_t4, nf_s4, nf_d5, nf_t5, nf_s5, nf_d6, nf_t6, nf_s6, nf_d7, nf_t7, nf_s7, nf_d8, nf_t8, nf_s8, nf_d9, nf_t9, nf_s9, nf_d10, nf_t10, nf_s10, nf_d11, nf_t11, nf_s11, nf_d12, nf_t12, nf_s12, nf_d13, nf_t13, nf_s13, nf_d14, nf_t14, nf_s14, nf_d15, nf_t15, nf_s15, nf_d16, nf_t16, nf_s16, nf_d17, nf_t17, nf_s17, nf_d18, nf_t18, nf_s18, nf_d19, nf_t19, nf_s19, nf_d20, nf_t20, nf_s20]
        refine v_iinc K dX7_markCollisions_83 rfl (by decide) iinc_1 ?_
        refine v_goto K 52 dX7_markCollisions_86 (by decide) ?_
        exact v_j (ih hlt _ (nI_1 k2)) rfl rfl (by rw [mkS_t (bI_1 c68)] <;> rfl)
  have lp : ∀ k2, k2 ≤ S.2.2.2.2.1.length → ∀ (x n : Int32), x = nI k2 → n = nI (cntR (tbm S (svy S)) k2) → V X 0 0 4 [(0, .ref (a 0)), (1, .int n), (2, .int x)] [] [cM (a 0) (.inr (7, [.ref (a 1), .ref (a 3), .ref (a 5), .ref (a 7), .ref (g 0 0), .ref (g 1 0), .ref (g 2 0), .ref (g 3 0), .int (bI hn), .ref (a 10), .ref (g 4 0), .ref (g 5 0)])), rowM (XI X) (a 1) (a 2) 60 ts, rowM (XI X) (a 3) (a 4) 400 cs, rowM (XI X) (a 5) (a 6) 400 ns, rdM (a 7) (a 8) (a 1) P e s d k, rowM (XI X) (a 8) (a 9) 25 xs, spM (XI X) (g 0) T, bookM (XI X) (g 1) 30 20 S, bookM (XI X) (g 2) 60 50 D, bookM (XI X) (g 3) 30 20 SS, hiM (XI X) (XB X) (a 10) (a 11) HB hs, svM (XI X) (g 4) (svy S), svM (XI X) (g 5) w] := by
    refine loop_up S.2.2.2.2.1.length ?_
    intro k2 hk ih x n hx hn2
    subst hx
    subst hn2
    refine v_iload_n K dX7_markCollisions_4 rfl ?_
    refine v_aload_n K dX7_markCollisions_5 rfl ?_
    refine v_get K 0 rfl hasF_c rfl iX7 5 (by decide) rfl (by decide +kernel) rfl dX7_markCollisions_6 ?_
    refine v_callVi K [7] (c_X0_words (XI X) (XB X) _ _ _ _ ) rfl gX7_markCollisions_X0_words rfl rfl hd_X0_words ⟨rfl, rfl⟩ ⟨by decide, by decide⟩ 7 rfl bookF rfl (by decide) (Nat.le_of_ble_eq_true rfl) ⟨Nat.zero_le _, Nat.zero_le _⟩ rfl dX7_markCollisions_9 ?_
    try dsimp only [Nat.reduceAdd, nf_rep1, nf_rep0, nf_d0, nf_t0, nf_s0, nf_ac, nf_an, nf_d1, nf_t1, nf_s1, nf_d2, nf_t2, nf_s2, nf_d3, nf_t3, nf_s3, nf_d4, nf_t4, nf_s4, nf_d5, nf_t5, nf_s5, nf_d6, nf_t6, nf_s6, nf_d7, nf_t7, nf_s7, nf_d8, nf_t8, nf_s8, nf_d9, nf_t9, nf_s9, nf_d10, nf_t10, nf_s10, nf_d11, nf_t11, nf_s11, nf_d12, nf_t12, nf_s12, nf_d13, nf_t13, nf_s13, nf_d14, nf_t14, nf_s14, nf_d15, nf_t15, nf_s15, nf_d16, nf_t16, nf_s16, nf_d17, nf_t17, nf_s17, nf_d18, nf_t18, nf_s18, nf_d19, nf_t19, nf_s19, nf_d20, nf_t20, nf_s20]
    refine v_ic_ge K 32 dX7_markCollisions_12 (by decide) (fun c12 => ?_) (fun c12 => ?_)
    · have hk2 := up_end rfl hW.1 hk c12
      subst hk2
      refine v_iload_n K dX7_markCollisions_32 rfl ?_
      refine v_if_ne K 39 dX7_markCollisions_33 (by decide) (fun c33 => ?_) (fun c33 => ?_)
      · refine v_aload_n K dX7_markCollisions_39 rfl ?_
        refine v_get K 0 rfl hasF_c rfl iX7 9 (by decide) rfl (by decide +kernel) rfl dX7_markCollisions_40 ?_
        refine v_aload_n K dX7_markCollisions_43 rfl ?_
        refine v_get K 0 rfl hasF_c rfl iX7 5 (by decide) rfl (by decide +kernel) rfl dX7_markCollisions_44 ?_
        refine v_callVv K [10, 7] (c_X1_record (XI X) (XB X) _ _ _ _ _ _ _ _ ) rfl gX7_markCollisions_X1_record rfl rfl hd_X1_record ⟨rfl, rfl⟩ ⟨by decide, by decide⟩ 10 rfl hiF rfl (by decide) (Nat.le_of_ble_eq_true rfl) ⟨Nat.zero_le _, Nat.zero_le _⟩ rfl dX7_markCollisions_47 ?_
        try dsimp only [Nat.reduceAdd, nf_rep1, nf_rep0, nf_d0, nf_t0, nf_s0, nf_ac, nf_an, nf_d1, nf_t1, nf_s1, nf_d2, nf_t2, nf_s2, nf_d3, nf_t3, nf_s3, nf_d4, nf_t4, nf_s4, nf_d5, nf_t5, nf_s5, nf_d6, nf_t6, nf_s6, nf_d7, nf_t7, nf_s7, nf_d8, nf_t8, nf_s8, nf_d9, nf_t9, nf_s9, nf_d10, nf_t10, nf_s10, nf_d11, nf_t11, nf_s11, nf_d12, nf_t12, nf_s12, nf_d13, nf_t13, nf_s13, nf_d14, nf_t14, nf_s14, nf_d15, nf_t15, nf_s15, nf_d16, nf_t16, nf_s16, nf_d17, nf_t17, nf_s17, nf_d18, nf_t18, nf_s18, nf_d19, nf_t19, nf_s19, nf_d20, nf_t20, nf_s20]
        refine v_iconst K (0) dX7_markCollisions_50 (by decide) ?_
        refine v_istore_n K dX7_markCollisions_51 (by decide) ?_
        exact v_j (lp2 c33 0 (Nat.zero_le _) 0 rfl) rfl rfl rfl
      · refine v_bipush K (-5) dX7_markCollisions_36 (by decide) ?_
        refine v_iret K E dX7_markCollisions_38 ?_ (by (simp only [nf_rep1, nf_rep0, nf_d0, nf_t0, nf_s0, nf_ac, nf_an, List.map_cons, List.map_nil, cM_1, rowM_1, rowsM_1, rdM_1, spM_1, bookM_1, svM_1, hiM_1]))
        rw [show sMark (ts, cs, S, SS, hn, hs) = _ by unfold sMark; rw [if_pos c33]]
        exact ⟨rfl, (_, _, (_, _, _, _, _), _, _, _), rfl⟩
    · have hlt := up_lt rfl hW.1 hk c12
      refine v_aload_n K dX7_markCollisions_15 rfl ?_
      refine v_iload_n K dX7_markCollisions_16 rfl ?_
      refine v_callVi K [0, 7, 11] (c_X7_isToBeMarked (XI X) (XB X) _ _ _ _ _ _ ?hc17_0_7 ?hc17_1_7) rfl gX7_markCollisions_X7_isToBeMarked rfl rfl hd_X7_isToBeMarked ⟨rfl, rfl⟩ ⟨by decide, by decide⟩ 0 rfl hasF_c rfl (by decide) (Nat.le_of_ble_eq_true rfl) ⟨Nat.zero_le _, Nat.zero_le _⟩ rfl dX7_markCollisions_17 ?_
      case hc17_0_7 => rw [svy_len hW.2]; exact hlt
      case hc17_1_7 => omega
      try dsimp only [Nat.reduceAdd, nf_rep1, nf_rep0, nf_d0, nf_t0, nf_s0, nf_ac, nf_an, nf_d1, nf_t1, nf_s1, nf_d2, nf_t2, nf_s2, nf_d3, nf_t3, nf_s3, nf_d4, nf_t4, nf_s4, nf_d5, nf_t5, nf_s5, nf_d6, nf_t6, nf_s6, nf_d7, nf_t7, nf_s7, nf_d8, nf_t8, nf_s8, nf_d9, nf_t9, nf_s9, nf_d10, nf_t10, nf_s10, nf_d11, nf_t11, nf_s11, nf_d12, nf_t12, nf_s12, nf_d13, nf_t13, nf_s13, nf_d14, nf_t14, nf_s14, nf_d15, nf_t15, nf_s15, nf_d16, nf_t16, nf_s16, nf_d17, nf_t17, nf_s17, nf_d18, nf_t18, nf_s18, nf_d19, nf_t19, nf_s19, nf_d20, nf_t20, nf_s20]
      refine v_if_eq K 26 dX7_markCollisions_20 (by decide) (fun c20 => ?_) (fun c20 => ?_)
      · refine v_iinc K dX7_markCollisions_26 rfl (by decide) iinc_1 ?_
        refine v_goto K 4 dX7_markCollisions_29 (by decide) ?_
        exact v_j (ih hlt _ _ (nI_1 k2) (by rw [cntR_f (p := tbm S (svy S)) (bI_0 c20)])) rfl rfl rfl
      · refine v_iinc K dX7_markCollisions_23 rfl (by decide) iinc_1 ?_
        refine v_iinc K dX7_markCollisions_26 rfl (by decide) iinc_1 ?_
        refine v_goto K 4 dX7_markCollisions_29 (by decide) ?_
        exact v_j (ih hlt _ _ (nI_1 k2) (by rw [cntR_t (p := tbm S (svy S)) (bI_1 c20)]; exact nI_1 _)) rfl rfl rfl
  refine v_iconst K (0) dX7_markCollisions_0 (by decide) ?_
  refine v_istore_n K dX7_markCollisions_1 (by decide) ?_
  refine v_iconst K (0) dX7_markCollisions_2 (by decide) ?_
  refine v_istore_n K dX7_markCollisions_3 (by decide) ?_
  exact v_j (lp 0 (Nat.zero_le _) 0 0 rfl rfl) rfl rfl rfl

theorem hd_X7_convertThere : yX7_convertThere.cls = RX7 ∧ yX7_convertThere.cls ≠ "java/lang/invoke/MethodHandle" ∧ yX7_convertThere.cls ≠ "java/lang/invoke/VarHandle" ∧ (parseMethodDescriptor yX7_convertThere.desc).map (fun d => d.parameters.length) = some 0 := by decide +kernel
set_option maxHeartbeats 4000000 in
set_option maxRecDepth 100000 in
theorem c_X7_convertThere (cI cB : ClassId) (a : Nat → Nat) (g : Nat → Nat → Nat) (S : Bk) (hn : Bool) (ns xs : List Int32) (P e s d k : Int32) (T : T4)  : Ct cI cB yX7_convertThere wsX7_convertThere { frames := 5, cells := 0, slots := 0, locals := 120 } [.ref (a 0)] [cM (a 0) (.inr (7, [.ref (a 1), .ref (a 3), .ref (a 5), .ref (a 7), .ref (g 0 0), .ref (g 1 0), .ref (g 2 0), .ref (g 3 0), .int (bI hn), .ref (a 10), .ref (g 4 0), .ref (g 5 0)])), rowM cI (a 5) (a 6) 400 ns, rdM (a 7) (a 8) (a 1) P e s d k, rowM cI (a 8) (a 9) 25 xs, spM cI (g 0) T, bookM cI (g 1) 30 20 S] (dn [cM (a 0) (.inr (7, [.ref (a 1), .ref (a 3), .ref (a 5), .ref (a 7), .ref (g 0 0), .ref (g 1 0), .ref (g 2 0), .ref (g 3 0), .int (bI hn), .ref (a 10), .ref (g 4 0), .ref (g 5 0)])), rowM cI (a 5) (a 6) 400 (aaL 400 ns (spW S xs (kndW S xs))), rdM (a 7) (a 8) (a 1) P e s d k, rowM cI (a 8) (a 9) 25 xs, spM cI (g 0) ((hrW S xs).1, (hrW S xs).2.1, (hrW S xs).2.2, spW S xs (kndW S xs)), bookM cI (g 1) 30 20 S]) := by
  refine ct_of (cc := cX7_convertThere) (maxL := 3) (ret := none) (by decide) rfl (Nat.le_of_ble_eq_true rfl) [(0, .ref (a 0))] rfl ?_
  intro X hI hB K E
  subst hI
  subst hB
  have iX0 : ∀ w ∈ u_ws RX0 TX0 6, w ∈ wsX7_convertThere := by decide +kernel
  have iX2 : ∀ w ∈ u_ws RX2 TX2 7, w ∈ wsX7_convertThere := by decide +kernel
  have iX5 : ∀ w ∈ u_ws RX5 TX5 4, w ∈ wsX7_convertThere := by decide +kernel
  have iX7 : ∀ w ∈ u_ws RX7 TX7 12, w ∈ wsX7_convertThere := by decide +kernel
  refine v_aload_n K dX7_convertThere_0 rfl ?_
  refine v_get K 0 rfl hasF_c rfl iX7 5 (by decide) rfl (by decide +kernel) rfl dX7_convertThere_1 ?_
  refine v_obook 5 rfl ?_
  try dsimp only [Nat.reduceAdd, nf_rep1, nf_rep0, nf_d0, nf_t0, nf_s0, nf_ac, nf_an, nf_d1, nf_t1, nf_s1, nf_d2, nf_t2, nf_s2, nf_d3, nf_t3, nf_s3, nf_d4, nf_t4, nf_s4, nf_d5, nf_t5, nf_s5, nf_d6, nf_t6, nf_s6, nf_d7, nf_t7, nf_s7, nf_d8, nf_t8, nf_s8, nf_d9, nf_t9, nf_s9, nf_d10, nf_t10, nf_s10, nf_d11, nf_t11, nf_s11, nf_d12, nf_t12, nf_s12, nf_d13, nf_t13, nf_s13, nf_d14, nf_t14, nf_s14, nf_d15, nf_t15, nf_s15, nf_d16, nf_t16, nf_s16, nf_d17, nf_t17, nf_s17, nf_d18, nf_t18, nf_s18, nf_d19, nf_t19, nf_s19, nf_d20, nf_t20, nf_s20]
  refine v_get K 5 rfl hasF_c rfl iX0 4 (by decide) rfl (by decide +kernel) rfl dX7_convertThere_4 ?_
  refine v_aload_n K dX7_convertThere_7 rfl ?_
  refine v_get K 0 rfl hasF_c rfl iX7 3 (by decide) rfl (by decide +kernel) rfl dX7_convertThere_8 ?_
  refine v_get K 2 rfl hasF_c rfl iX2 0 (by decide) rfl (by decide +kernel) rfl dX7_convertThere_11 ?_
  refine v_callVi K [10, 3] (c_X4_find (XI X) (XB X) _ _ _ _ _ _ _ _ _ _ _ _ ) rfl gX7_convertThere_X4_find rfl rfl hd_X4_find ⟨rfl, rfl⟩ ⟨by decide, by decide⟩ 10 rfl rowsF rfl (by decide) (Nat.le_of_ble_eq_true rfl) ⟨Nat.zero_le _, Nat.zero_le _⟩ rfl dX7_convertThere_14 ?_
  try dsimp only [Nat.reduceAdd, nf_rep1, nf_rep0, nf_d0, nf_t0, nf_s0, nf_ac, nf_an, nf_d1, nf_t1, nf_s1, nf_d2, nf_t2, nf_s2, nf_d3, nf_t3, nf_s3, nf_d4, nf_t4, nf_s4, nf_d5, nf_t5, nf_s5, nf_d6, nf_t6, nf_s6, nf_d7, nf_t7, nf_s7, nf_d8, nf_t8, nf_s8, nf_d9, nf_t9, nf_s9, nf_d10, nf_t10, nf_s10, nf_d11, nf_t11, nf_s11, nf_d12, nf_t12, nf_s12, nf_d13, nf_t13, nf_s13, nf_d14, nf_t14, nf_s14, nf_d15, nf_t15, nf_s15, nf_d16, nf_t16, nf_s16, nf_d17, nf_t17, nf_s17, nf_d18, nf_t18, nf_s18, nf_d19, nf_t19, nf_s19, nf_d20, nf_t20, nf_s20]
  refine v_istore_n K dX7_convertThere_17 (by decide) ?_
  refine v_iload_n K dX7_convertThere_18 rfl ?_
  refine v_bipush K (-5) dX7_convertThere_19 (by decide) ?_
  refine v_ic_ne K 28 dX7_convertThere_21 (by decide) (fun c21 => ?_) (fun c21 => ?_)
  · refine v_aload_n K dX7_convertThere_28 rfl ?_
    refine v_get K 0 rfl hasF_c rfl iX7 5 (by decide) rfl (by decide +kernel) rfl dX7_convertThere_29 ?_
    refine v_get K 5 rfl hasF_c rfl iX0 5 (by decide) rfl (by decide +kernel) rfl dX7_convertThere_32 ?_
    refine v_iload_n K dX7_convertThere_35 rfl ?_
    refine v_callVi K [11] (c_X3_get (XI X) (XB X) _ _ _ _ _ ) rfl gX7_convertThere_X3_get rfl rfl hd_X3_get ⟨rfl, rfl⟩ ⟨by decide, by decide⟩ 11 rfl rowF rfl (by decide) (Nat.le_of_ble_eq_true rfl) ⟨Nat.zero_le _, Nat.zero_le _⟩ rfl dX7_convertThere_36 ?_
    try dsimp only [Nat.reduceAdd, nf_rep1, nf_rep0, nf_d0, nf_t0, nf_s0, nf_ac, nf_an, nf_d1, nf_t1, nf_s1, nf_d2, nf_t2, nf_s2, nf_d3, nf_t3, nf_s3, nf_d4, nf_t4, nf_s4, nf_d5, nf_t5, nf_s5, nf_d6, nf_t6, nf_s6, nf_d7, nf_t7, nf_s7, nf_d8, nf_t8, nf_s8, nf_d9, nf_t9, nf_s9, nf_d10, nf_t10, nf_s10, nf_d11, nf_t11, nf_s11, nf_d12, nf_t12, nf_s12, nf_d13, nf_t13, nf_s13, nf_d14, nf_t14, nf_s14, nf_d15, nf_t15, nf_s15, nf_d16, nf_t16, nf_s16, nf_d17, nf_t17, nf_s17, nf_d18, nf_t18, nf_s18, nf_d19, nf_t19, nf_s19, nf_d20, nf_t20, nf_s20]
    refine v_istore_n K dX7_convertThere_39 (by decide) ?_
    refine v_cbook  5 rfl ?_
    have hkd : kndW S xs = gt S.2.2.2.2.2 (opI (fdo xs S.2.2.2.2.1 0)) := by unfold kndW; rw [if_neg c21]
    rw [← hkd]
    try dsimp only [Nat.reduceAdd, nf_rep1, nf_rep0, nf_d0, nf_t0, nf_s0, nf_ac, nf_an, nf_d1, nf_t1, nf_s1, nf_d2, nf_t2, nf_s2, nf_d3, nf_t3, nf_s3, nf_d4, nf_t4, nf_s4, nf_d5, nf_t5, nf_s5, nf_d6, nf_t6, nf_s6, nf_d7, nf_t7, nf_s7, nf_d8, nf_t8, nf_s8, nf_d9, nf_t9, nf_s9, nf_d10, nf_t10, nf_s10, nf_d11, nf_t11, nf_s11, nf_d12, nf_t12, nf_s12, nf_d13, nf_t13, nf_s13, nf_d14, nf_t14, nf_s14, nf_d15, nf_t15, nf_s15, nf_d16, nf_t16, nf_s16, nf_d17, nf_t17, nf_s17, nf_d18, nf_t18, nf_s18, nf_d19, nf_t19, nf_s19, nf_d20, nf_t20, nf_s20]
    refine v_aload_n K dX7_convertThere_40 rfl ?_
    refine v_get K 0 rfl hasF_c rfl iX7 4 (by decide) rfl (by decide +kernel) rfl dX7_convertThere_41 ?_
    refine v_aload_n K dX7_convertThere_44 rfl ?_
    refine v_get K 0 rfl hasF_c rfl iX7 5 (by decide) rfl (by decide +kernel) rfl dX7_convertThere_45 ?_
    refine v_aload_n K dX7_convertThere_48 rfl ?_
    refine v_get K 0 rfl hasF_c rfl iX7 3 (by decide) rfl (by decide +kernel) rfl dX7_convertThere_49 ?_
    refine v_get K 2 rfl hasF_c rfl iX2 0 (by decide) rfl (by decide +kernel) rfl dX7_convertThere_52 ?_
    refine v_callVv K [4, 5, 3] (c_X5_hear (XI X) (XB X) _ _ _ _ _ _ _ _ _ _ ) rfl gX7_convertThere_X5_hear rfl rfl hd_X5_hear ⟨rfl, rfl⟩ ⟨by decide, by decide⟩ 4 rfl spF rfl (by decide) (Nat.le_of_ble_eq_true rfl) ⟨Nat.zero_le _, Nat.zero_le _⟩ rfl dX7_convertThere_55 ?_
    try dsimp only [Nat.reduceAdd, nf_rep1, nf_rep0, nf_d0, nf_t0, nf_s0, nf_ac, nf_an, nf_d1, nf_t1, nf_s1, nf_d2, nf_t2, nf_s2, nf_d3, nf_t3, nf_s3, nf_d4, nf_t4, nf_s4, nf_d5, nf_t5, nf_s5, nf_d6, nf_t6, nf_s6, nf_d7, nf_t7, nf_s7, nf_d8, nf_t8, nf_s8, nf_d9, nf_t9, nf_s9, nf_d10, nf_t10, nf_s10, nf_d11, nf_t11, nf_s11, nf_d12, nf_t12, nf_s12, nf_d13, nf_t13, nf_s13, nf_d14, nf_t14, nf_s14, nf_d15, nf_t15, nf_s15, nf_d16, nf_t16, nf_s16, nf_d17, nf_t17, nf_s17, nf_d18, nf_t18, nf_s18, nf_d19, nf_t19, nf_s19, nf_d20, nf_t20, nf_s20]
    refine v_aload_n K dX7_convertThere_58 rfl ?_
    refine v_get K 0 rfl hasF_c rfl iX7 4 (by decide) rfl (by decide +kernel) rfl dX7_convertThere_59 ?_
    refine v_aload_n K dX7_convertThere_62 rfl ?_
    refine v_get K 0 rfl hasF_c rfl iX7 5 (by decide) rfl (by decide +kernel) rfl dX7_convertThere_63 ?_
    refine v_aload_n K dX7_convertThere_66 rfl ?_
    refine v_get K 0 rfl hasF_c rfl iX7 3 (by decide) rfl (by decide +kernel) rfl dX7_convertThere_67 ?_
    refine v_get K 2 rfl hasF_c rfl iX2 0 (by decide) rfl (by decide +kernel) rfl dX7_convertThere_70 ?_
    refine v_iload_n K dX7_convertThere_73 rfl ?_
    refine v_callVv K [4, 5, 3] (c_X5_write (XI X) (XB X) _ _ _ _ _ _ _ _ _ _ _ ) rfl gX7_convertThere_X5_write rfl rfl hd_X5_write ⟨rfl, rfl⟩ ⟨by decide, by decide⟩ 4 rfl spF rfl (by decide) (Nat.le_of_ble_eq_true rfl) ⟨Nat.zero_le _, Nat.zero_le _⟩ rfl dX7_convertThere_74 ?_
    try dsimp only [Nat.reduceAdd, nf_rep1, nf_rep0, nf_d0, nf_t0, nf_s0, nf_ac, nf_an, nf_d1, nf_t1, nf_s1, nf_d2, nf_t2, nf_s2, nf_d3, nf_t3, nf_s3, nf_d4, nf_t4, nf_s4, nf_d5, nf_t5, nf_s5, nf_d6, nf_t6, nf_s6, nf_d7, nf_t7, nf_s7, nf_d8, nf_t8, nf_s8, nf_d9, nf_t9, nf_s9, nf_d10, nf_t10, nf_s10, nf_d11, nf_t11, nf_s11, nf_d12, nf_t12, nf_s12, nf_d13, nf_t13, nf_s13, nf_d14, nf_t14, nf_s14, nf_d15, nf_t15, nf_s15, nf_d16, nf_t16, nf_s16, nf_d17, nf_t17, nf_s17, nf_d18, nf_t18, nf_s18, nf_d19, nf_t19, nf_s19, nf_d20, nf_t20, nf_s20]
    refine v_osp 4 rfl ?_
    try dsimp only [Nat.reduceAdd, nf_rep1, nf_rep0, nf_d0, nf_t0, nf_s0, nf_ac, nf_an, nf_d1, nf_t1, nf_s1, nf_d2, nf_t2, nf_s2, nf_d3, nf_t3, nf_s3, nf_d4, nf_t4, nf_s4, nf_d5, nf_t5, nf_s5, nf_d6, nf_t6, nf_s6, nf_d7, nf_t7, nf_s7, nf_d8, nf_t8, nf_s8, nf_d9, nf_t9, nf_s9, nf_d10, nf_t10, nf_s10, nf_d11, nf_t11, nf_s11, nf_d12, nf_t12, nf_s12, nf_d13, nf_t13, nf_s13, nf_d14, nf_t14, nf_s14, nf_d15, nf_t15, nf_s15, nf_d16, nf_t16, nf_s16, nf_d17, nf_t17, nf_s17, nf_d18, nf_t18, nf_s18, nf_d19, nf_t19, nf_s19, nf_d20, nf_t20, nf_s20]
    refine v_aload_n K dX7_convertThere_77 rfl ?_
    refine v_get K 0 rfl hasF_c rfl iX7 2 (by decide) rfl (by decide +kernel) rfl dX7_convertThere_78 ?_
    refine v_aload_n K dX7_convertThere_81 rfl ?_
    refine v_get K 0 rfl hasF_c rfl iX7 4 (by decide) rfl (by decide +kernel) rfl dX7_convertThere_82 ?_
    refine v_get K 4 rfl hasF_c rfl iX5 3 (by decide) rfl (by decide +kernel) rfl dX7_convertThere_85 ?_
    refine v_callVv K [1, 8] (c_X3_addAll (XI X) (XB X) _ _ _ _ _ _ _ _ ) rfl gX7_convertThere_X3_addAll rfl rfl hd_X3_addAll ⟨rfl, rfl⟩ ⟨by decide, by decide⟩ 1 rfl rowF rfl (by decide) (Nat.le_of_ble_eq_true rfl) ⟨Nat.zero_le _, Nat.zero_le _⟩ rfl dX7_convertThere_88 ?_
    try dsimp only [Nat.reduceAdd, nf_rep1, nf_rep0, nf_d0, nf_t0, nf_s0, nf_ac, nf_an, nf_d1, nf_t1, nf_s1, nf_d2, nf_t2, nf_s2, nf_d3, nf_t3, nf_s3, nf_d4, nf_t4, nf_s4, nf_d5, nf_t5, nf_s5, nf_d6, nf_t6, nf_s6, nf_d7, nf_t7, nf_s7, nf_d8, nf_t8, nf_s8, nf_d9, nf_t9, nf_s9, nf_d10, nf_t10, nf_s10, nf_d11, nf_t11, nf_s11, nf_d12, nf_t12, nf_s12, nf_d13, nf_t13, nf_s13, nf_d14, nf_t14, nf_s14, nf_d15, nf_t15, nf_s15, nf_d16, nf_t16, nf_s16, nf_d17, nf_t17, nf_s17, nf_d18, nf_t18, nf_s18, nf_d19, nf_t19, nf_s19, nf_d20, nf_t20, nf_s20]
    refine v_csp  4 rfl ?_
    try dsimp only [Nat.reduceAdd, nf_rep1, nf_rep0, nf_d0, nf_t0, nf_s0, nf_ac, nf_an, nf_d1, nf_t1, nf_s1, nf_d2, nf_t2, nf_s2, nf_d3, nf_t3, nf_s3, nf_d4, nf_t4, nf_s4, nf_d5, nf_t5, nf_s5, nf_d6, nf_t6, nf_s6, nf_d7, nf_t7, nf_s7, nf_d8, nf_t8, nf_s8, nf_d9, nf_t9, nf_s9, nf_d10, nf_t10, nf_s10, nf_d11, nf_t11, nf_s11, nf_d12, nf_t12, nf_s12, nf_d13, nf_t13, nf_s13, nf_d14, nf_t14, nf_s14, nf_d15, nf_t15, nf_s15, nf_d16, nf_t16, nf_s16, nf_d17, nf_t17, nf_s17, nf_d18, nf_t18, nf_s18, nf_d19, nf_t19, nf_s19, nf_d20, nf_t20, nf_s20]
    refine v_ret K E dX7_convertThere_91 ?_ (by simp only [nf_rep1, nf_rep0, nf_d0, nf_t0, nf_s0, nf_ac, nf_an, List.map_cons, List.map_nil, cM_1, rowM_1, rowsM_1, rdM_1, spM_1, bookM_1, svM_1, hiM_1])
    exact ⟨rfl, rfl⟩
  · refine v_cbook  5 rfl ?_
    try dsimp only [Nat.reduceAdd, nf_rep1, nf_rep0, nf_d0, nf_t0, nf_s0, nf_ac, nf_an, nf_d1, nf_t1, nf_s1, nf_d2, nf_t2, nf_s2, nf_d3, nf_t3, nf_s3, nf_d4, nf_t4, nf_s4, nf_d5, nf_t5, nf_s5, nf_d6, nf_t6, nf_s6, nf_d7, nf_t7, nf_s7, nf_d8, nf_t8, nf_s8, nf_d9, nf_t9, nf_s9, nf_d10, nf_t10, nf_s10, nf_d11, nf_t11, nf_s11, nf_d12, nf_t12, nf_s12, nf_d13, nf_t13, nf_s13, nf_d14, nf_t14, nf_s14, nf_d15, nf_t15, nf_s15, nf_d16, nf_t16, nf_s16, nf_d17, nf_t17, nf_s17, nf_d18, nf_t18, nf_s18, nf_d19, nf_t19, nf_s19, nf_d20, nf_t20, nf_s20]
    refine v_iconst K (0) dX7_convertThere_24 (by decide) ?_
    refine v_goto K 39 dX7_convertThere_25 (by decide) ?_
    refine v_istore_n K dX7_convertThere_39 (by decide) ?_
    have hkd : kndW S xs = 0 := by unfold kndW; rw [if_pos c21]
    rw [← hkd]
    refine v_aload_n K dX7_convertThere_40 rfl ?_
    refine v_get K 0 rfl hasF_c rfl iX7 4 (by decide) rfl (by decide +kernel) rfl dX7_convertThere_41 ?_
    refine v_aload_n K dX7_convertThere_44 rfl ?_
    refine v_get K 0 rfl hasF_c rfl iX7 5 (by decide) rfl (by decide +kernel) rfl dX7_convertThere_45 ?_
    refine v_aload_n K dX7_convertThere_48 rfl ?_
    refine v_get K 0 rfl hasF_c rfl iX7 3 (by decide) rfl (by decide +kernel) rfl dX7_convertThere_49 ?_
    refine v_get K 2 rfl hasF_c rfl iX2 0 (by decide) rfl (by decide +kernel) rfl dX7_convertThere_52 ?_
    refine v_callVv K [4, 5, 3] (c_X5_hear (XI X) (XB X) _ _ _ _ _ _ _ _ _ _ ) rfl gX7_convertThere_X5_hear rfl rfl hd_X5_hear ⟨rfl, rfl⟩ ⟨by decide, by decide⟩ 4 rfl spF rfl (by decide) (Nat.le_of_ble_eq_true rfl) ⟨Nat.zero_le _, Nat.zero_le _⟩ rfl dX7_convertThere_55 ?_
    try dsimp only [Nat.reduceAdd, nf_rep1, nf_rep0, nf_d0, nf_t0, nf_s0, nf_ac, nf_an, nf_d1, nf_t1, nf_s1, nf_d2, nf_t2, nf_s2, nf_d3, nf_t3, nf_s3, nf_d4, nf_t4, nf_s4, nf_d5, nf_t5, nf_s5, nf_d6, nf_t6, nf_s6, nf_d7, nf_t7, nf_s7, nf_d8, nf_t8, nf_s8, nf_d9, nf_t9, nf_s9, nf_d10, nf_t10, nf_s10, nf_d11, nf_t11, nf_s11, nf_d12, nf_t12, nf_s12, nf_d13, nf_t13, nf_s13, nf_d14, nf_t14, nf_s14, nf_d15, nf_t15, nf_s15, nf_d16, nf_t16, nf_s16, nf_d17, nf_t17, nf_s17, nf_d18, nf_t18, nf_s18, nf_d19, nf_t19, nf_s19, nf_d20, nf_t20, nf_s20]
    refine v_aload_n K dX7_convertThere_58 rfl ?_
    refine v_get K 0 rfl hasF_c rfl iX7 4 (by decide) rfl (by decide +kernel) rfl dX7_convertThere_59 ?_
    refine v_aload_n K dX7_convertThere_62 rfl ?_
    refine v_get K 0 rfl hasF_c rfl iX7 5 (by decide) rfl (by decide +kernel) rfl dX7_convertThere_63 ?_
    refine v_aload_n K dX7_convertThere_66 rfl ?_
    refine v_get K 0 rfl hasF_c rfl iX7 3 (by decide) rfl (by decide +kernel) rfl dX7_convertThere_67 ?_
    refine v_get K 2 rfl hasF_c rfl iX2 0 (by decide) rfl (by decide +kernel) rfl dX7_convertThere_70 ?_
    refine v_iload_n K dX7_convertThere_73 rfl ?_
    refine v_callVv K [4, 5, 3] (c_X5_write (XI X) (XB X) _ _ _ _ _ _ _ _ _ _ _ ) rfl gX7_convertThere_X5_write rfl rfl hd_X5_write ⟨rfl, rfl⟩ ⟨by decide, by decide⟩ 4 rfl spF rfl (by decide) (Nat.le_of_ble_eq_true rfl) ⟨Nat.zero_le _, Nat.zero_le _⟩ rfl dX7_convertThere_74 ?_
    try dsimp only [Nat.reduceAdd, nf_rep1, nf_rep0, nf_d0, nf_t0, nf_s0, nf_ac, nf_an, nf_d1, nf_t1, nf_s1, nf_d2, nf_t2, nf_s2, nf_d3, nf_t3, nf_s3, nf_d4, nf_t4, nf_s4, nf_d5, nf_t5, nf_s5, nf_d6, nf_t6, nf_s6, nf_d7, nf_t7, nf_s7, nf_d8, nf_t8, nf_s8, nf_d9, nf_t9, nf_s9, nf_d10, nf_t10, nf_s10, nf_d11, nf_t11, nf_s11, nf_d12, nf_t12, nf_s12, nf_d13, nf_t13, nf_s13, nf_d14, nf_t14, nf_s14, nf_d15, nf_t15, nf_s15, nf_d16, nf_t16, nf_s16, nf_d17, nf_t17, nf_s17, nf_d18, nf_t18, nf_s18, nf_d19, nf_t19, nf_s19, nf_d20, nf_t20, nf_s20]
    refine v_osp 4 rfl ?_
    try dsimp only [Nat.reduceAdd, nf_rep1, nf_rep0, nf_d0, nf_t0, nf_s0, nf_ac, nf_an, nf_d1, nf_t1, nf_s1, nf_d2, nf_t2, nf_s2, nf_d3, nf_t3, nf_s3, nf_d4, nf_t4, nf_s4, nf_d5, nf_t5, nf_s5, nf_d6, nf_t6, nf_s6, nf_d7, nf_t7, nf_s7, nf_d8, nf_t8, nf_s8, nf_d9, nf_t9, nf_s9, nf_d10, nf_t10, nf_s10, nf_d11, nf_t11, nf_s11, nf_d12, nf_t12, nf_s12, nf_d13, nf_t13, nf_s13, nf_d14, nf_t14, nf_s14, nf_d15, nf_t15, nf_s15, nf_d16, nf_t16, nf_s16, nf_d17, nf_t17, nf_s17, nf_d18, nf_t18, nf_s18, nf_d19, nf_t19, nf_s19, nf_d20, nf_t20, nf_s20]
    refine v_aload_n K dX7_convertThere_77 rfl ?_
    refine v_get K 0 rfl hasF_c rfl iX7 2 (by decide) rfl (by decide +kernel) rfl dX7_convertThere_78 ?_
    refine v_aload_n K dX7_convertThere_81 rfl ?_
    refine v_get K 0 rfl hasF_c rfl iX7 4 (by decide) rfl (by decide +kernel) rfl dX7_convertThere_82 ?_
    refine v_get K 4 rfl hasF_c rfl iX5 3 (by decide) rfl (by decide +kernel) rfl dX7_convertThere_85 ?_
    refine v_callVv K [1, 8] (c_X3_addAll (XI X) (XB X) _ _ _ _ _ _ _ _ ) rfl gX7_convertThere_X3_addAll rfl rfl hd_X3_addAll ⟨rfl, rfl⟩ ⟨by decide, by decide⟩ 1 rfl rowF rfl (by decide) (Nat.le_of_ble_eq_true rfl) ⟨Nat.zero_le _, Nat.zero_le _⟩ rfl dX7_convertThere_88 ?_
    try dsimp only [Nat.reduceAdd, nf_rep1, nf_rep0, nf_d0, nf_t0, nf_s0, nf_ac, nf_an, nf_d1, nf_t1, nf_s1, nf_d2, nf_t2, nf_s2, nf_d3, nf_t3, nf_s3, nf_d4, nf_t4, nf_s4, nf_d5, nf_t5, nf_s5, nf_d6, nf_t6, nf_s6, nf_d7, nf_t7, nf_s7, nf_d8, nf_t8, nf_s8, nf_d9, nf_t9, nf_s9, nf_d10, nf_t10, nf_s10, nf_d11, nf_t11, nf_s11, nf_d12, nf_t12, nf_s12, nf_d13, nf_t13, nf_s13, nf_d14, nf_t14, nf_s14, nf_d15, nf_t15, nf_s15, nf_d16, nf_t16, nf_s16, nf_d17, nf_t17, nf_s17, nf_d18, nf_t18, nf_s18, nf_d19, nf_t19, nf_s19, nf_d20, nf_t20, nf_s20]
    refine v_csp  4 rfl ?_
    try dsimp only [Nat.reduceAdd, nf_rep1, nf_rep0, nf_d0, nf_t0, nf_s0, nf_ac, nf_an, nf_d1, nf_t1, nf_s1, nf_d2, nf_t2, nf_s2, nf_d3, nf_t3, nf_s3, nf_d4, nf_t4, nf_s4, nf_d5, nf_t5, nf_s5, nf_d6, nf_t6, nf_s6, nf_d7, nf_t7, nf_s7, nf_d8, nf_t8, nf_s8, nf_d9, nf_t9, nf_s9, nf_d10, nf_t10, nf_s10, nf_d11, nf_t11, nf_s11, nf_d12, nf_t12, nf_s12, nf_d13, nf_t13, nf_s13, nf_d14, nf_t14, nf_s14, nf_d15, nf_t15, nf_s15, nf_d16, nf_t16, nf_s16, nf_d17, nf_t17, nf_s17, nf_d18, nf_t18, nf_s18, nf_d19, nf_t19, nf_s19, nf_d20, nf_t20, nf_s20]
    refine v_ret K E dX7_convertThere_91 ?_ (by simp only [nf_rep1, nf_rep0, nf_d0, nf_t0, nf_s0, nf_ac, nf_an, List.map_cons, List.map_nil, cM_1, rowM_1, rowsM_1, rdM_1, spM_1, bookM_1, svM_1, hiM_1])
    exact ⟨rfl, rfl⟩

theorem hd_X7_convertBack : yX7_convertBack.cls = RX7 ∧ yX7_convertBack.cls ≠ "java/lang/invoke/MethodHandle" ∧ yX7_convertBack.cls ≠ "java/lang/invoke/VarHandle" ∧ (parseMethodDescriptor yX7_convertBack.desc).map (fun d => d.parameters.length) = some 1 := by decide +kernel
set_option maxHeartbeats 4000000 in
set_option maxRecDepth 100000 in
theorem c_X7_convertBack (cI cB : ClassId) (a : Nat → Nat) (g : Nat → Nat → Nat) (S : Bk) (hn : Bool) (ns xs : List Int32) (P e s d k : Int32) (m : Bool)  : Ct cI cB yX7_convertBack wsX7_convertBack { frames := 4, cells := 0, slots := 0, locals := 89 } [.ref (a 0), .int (bI m)] [cM (a 0) (.inr (7, [.ref (a 1), .ref (a 3), .ref (a 5), .ref (a 7), .ref (g 0 0), .ref (g 1 0), .ref (g 2 0), .ref (g 3 0), .int (bI hn), .ref (a 10), .ref (g 4 0), .ref (g 5 0)])), rowM cI (a 5) (a 6) 400 ns, rdM (a 7) (a 8) (a 1) P e s d k, rowM cI (a 8) (a 9) 25 xs, bookM cI (g 1) 30 20 S, svM cI (g 4) (svy S)] (dn [cM (a 0) (.inr (7, [.ref (a 1), .ref (a 3), .ref (a 5), .ref (a 7), .ref (g 0 0), .ref (g 1 0), .ref (g 2 0), .ref (g 3 0), .int (bI hn), .ref (a 10), .ref (g 4 0), .ref (g 5 0)])), rowM cI (a 5) (a 6) 400 (aaL 400 ns (bk2 S m xs)), rdM (a 7) (a 8) (a 1) P e s d k, rowM cI (a 8) (a 9) 25 (bk2 S m xs), bookM cI (g 1) 30 20 S, svM cI (g 4) (svy S)]) := by
  refine ct_of (cc := cX7_convertBack) (maxL := 3) (ret := none) (by decide) rfl (Nat.le_of_ble_eq_true rfl) [(0, .ref (a 0)), (1, .int (bI m))] rfl ?_
  intro X hI hB K E
  subst hI
  subst hB
  have iX0 : ∀ w ∈ u_ws RX0 TX0 6, w ∈ wsX7_convertBack := by decide +kernel
  have iX2 : ∀ w ∈ u_ws RX2 TX2 7, w ∈ wsX7_convertBack := by decide +kernel
  have iX6 : ∀ w ∈ u_ws RX6 TX6 7, w ∈ wsX7_convertBack := by decide +kernel
  have iX7 : ∀ w ∈ u_ws RX7 TX7 12, w ∈ wsX7_convertBack := by decide +kernel
  refine v_iload_n K dX7_convertBack_0 rfl ?_
  refine v_if_eq K 16 dX7_convertBack_1 (by decide) (fun c1 => ?_) (fun c1 => ?_)
  · have hm := bI_0 c1
    refine v_osv 5 rfl (fun TT ww => ?_)
    try dsimp only [Nat.reduceAdd, nf_rep1, nf_rep0, nf_d0, nf_t0, nf_s0, nf_ac, nf_an, nf_d1, nf_t1, nf_s1, nf_d2, nf_t2, nf_s2, nf_d3, nf_t3, nf_s3, nf_d4, nf_t4, nf_s4, nf_d5, nf_t5, nf_s5, nf_d6, nf_t6, nf_s6, nf_d7, nf_t7, nf_s7, nf_d8, nf_t8, nf_s8, nf_d9, nf_t9, nf_s9, nf_d10, nf_t10, nf_s10, nf_d11, nf_t11, nf_s11, nf_d12, nf_t12, nf_s12, nf_d13, nf_t13, nf_s13, nf_d14, nf_t14, nf_s14, nf_d15, nf_t15, nf_s15, nf_d16, nf_t16, nf_s16, nf_d17, nf_t17, nf_s17, nf_d18, nf_t18, nf_s18, nf_d19, nf_t19, nf_s19, nf_d20, nf_t20, nf_s20]
    refine v_aload_n K dX7_convertBack_16 rfl ?_
    refine v_get K 0 rfl hasF_c rfl iX7 10 (by decide) rfl (by decide +kernel) rfl dX7_convertBack_17 ?_
    refine v_get K 5 rfl hasF_c rfl iX6 2 (by decide) rfl (by decide +kernel) rfl dX7_convertBack_20 ?_
    refine v_aload_n K dX7_convertBack_23 rfl ?_
    refine v_get K 0 rfl hasF_c rfl iX7 3 (by decide) rfl (by decide +kernel) rfl dX7_convertBack_24 ?_
    refine v_get K 2 rfl hasF_c rfl iX2 0 (by decide) rfl (by decide +kernel) rfl dX7_convertBack_27 ?_
    refine v_callVi K [8, 3] (c_X4_find (XI X) (XB X) _ _ _ _ _ _ _ _ _ _ _ _ ) rfl gX7_convertBack_X4_find rfl rfl hd_X4_find ⟨rfl, rfl⟩ ⟨by decide, by decide⟩ 8 rfl rowsF rfl (by decide) (Nat.le_of_ble_eq_true rfl) ⟨Nat.zero_le _, Nat.zero_le _⟩ rfl dX7_convertBack_30 ?_
    try dsimp only [Nat.reduceAdd, nf_rep1, nf_rep0, nf_d0, nf_t0, nf_s0, nf_ac, nf_an, nf_d1, nf_t1, nf_s1, nf_d2, nf_t2, nf_s2, nf_d3, nf_t3, nf_s3, nf_d4, nf_t4, nf_s4, nf_d5, nf_t5, nf_s5, nf_d6, nf_t6, nf_s6, nf_d7, nf_t7, nf_s7, nf_d8, nf_t8, nf_s8, nf_d9, nf_t9, nf_s9, nf_d10, nf_t10, nf_s10, nf_d11, nf_t11, nf_s11, nf_d12, nf_t12, nf_s12, nf_d13, nf_t13, nf_s13, nf_d14, nf_t14, nf_s14, nf_d15, nf_t15, nf_s15, nf_d16, nf_t16, nf_s16, nf_d17, nf_t17, nf_s17, nf_d18, nf_t18, nf_s18, nf_d19, nf_t19, nf_s19, nf_d20, nf_t20, nf_s20]
    refine v_istore_n K dX7_convertBack_33 (by decide) ?_
    refine v_csv  5 rfl ?_
    try dsimp only [Nat.reduceAdd, nf_rep1, nf_rep0, nf_d0, nf_t0, nf_s0, nf_ac, nf_an, nf_d1, nf_t1, nf_s1, nf_d2, nf_t2, nf_s2, nf_d3, nf_t3, nf_s3, nf_d4, nf_t4, nf_s4, nf_d5, nf_t5, nf_s5, nf_d6, nf_t6, nf_s6, nf_d7, nf_t7, nf_s7, nf_d8, nf_t8, nf_s8, nf_d9, nf_t9, nf_s9, nf_d10, nf_t10, nf_s10, nf_d11, nf_t11, nf_s11, nf_d12, nf_t12, nf_s12, nf_d13, nf_t13, nf_s13, nf_d14, nf_t14, nf_s14, nf_d15, nf_t15, nf_s15, nf_d16, nf_t16, nf_s16, nf_d17, nf_t17, nf_s17, nf_d18, nf_t18, nf_s18, nf_d19, nf_t19, nf_s19, nf_d20, nf_t20, nf_s20]
    refine v_iload_n K dX7_convertBack_34 rfl ?_
    refine v_bipush K (-5) dX7_convertBack_35 (by decide) ?_
    refine v_ic_eq K 61 dX7_convertBack_37 (by decide) (fun c37 => ?_) (fun c37 => ?_)
    · refine v_iload_n K dX7_convertBack_61 rfl ?_
      refine v_if_eq K 75 dX7_convertBack_62 (by decide) (fun c62 => ?_) (fun c62 => ?_)
      · refine v_aload_n K dX7_convertBack_75 rfl ?_
        refine v_get K 0 rfl hasF_c rfl iX7 2 (by decide) rfl (by decide +kernel) rfl dX7_convertBack_76 ?_
        refine v_aload_n K dX7_convertBack_79 rfl ?_
        refine v_get K 0 rfl hasF_c rfl iX7 3 (by decide) rfl (by decide +kernel) rfl dX7_convertBack_80 ?_
        refine v_get K 2 rfl hasF_c rfl iX2 0 (by decide) rfl (by decide +kernel) rfl dX7_convertBack_83 ?_
        refine v_callVv K [1, 3] (c_X3_addAll (XI X) (XB X) _ _ _ _ _ _ _ _ ) rfl gX7_convertBack_X3_addAll rfl rfl hd_X3_addAll ⟨rfl, rfl⟩ ⟨by decide, by decide⟩ 1 rfl rowF rfl (by decide) (Nat.le_of_ble_eq_true rfl) ⟨Nat.zero_le _, Nat.zero_le _⟩ rfl dX7_convertBack_86 ?_
        try dsimp only [Nat.reduceAdd, nf_rep1, nf_rep0, nf_d0, nf_t0, nf_s0, nf_ac, nf_an, nf_d1, nf_t1, nf_s1, nf_d2, nf_t2, nf_s2, nf_d3, nf_t3, nf_s3, nf_d4, nf_t4, nf_s4, nf_d5, nf_t5, nf_s5, nf_d6, nf_t6, nf_s6, nf_d7, nf_t7, nf_s7, nf_d8, nf_t8, nf_s8, nf_d9, nf_t9, nf_s9, nf_d10, nf_t10, nf_s10, nf_d11, nf_t11, nf_s11, nf_d12, nf_t12, nf_s12, nf_d13, nf_t13, nf_s13, nf_d14, nf_t14, nf_s14, nf_d15, nf_t15, nf_s15, nf_d16, nf_t16, nf_s16, nf_d17, nf_t17, nf_s17, nf_d18, nf_t18, nf_s18, nf_d19, nf_t19, nf_s19, nf_d20, nf_t20, nf_s20]
        refine v_ret K E dX7_convertBack_89 ?_ (by simp only [nf_rep1, nf_rep0, nf_d0, nf_t0, nf_s0, nf_ac, nf_an, List.map_cons, List.map_nil, cM_1, rowM_1, rowsM_1, rdM_1, spM_1, bookM_1, svM_1, hiM_1])
        have hb1 : bk1 m xs = xs := by unfold bk1; rw [if_neg (by rw [hm]; exact Bool.false_ne_true)]
        have hb2 : bk2 S m xs = bk1 m xs := by unfold bk2; rw [if_pos (by rw [hb1]; exact c37), if_neg (by rw [hm]; exact Bool.false_ne_true)]
        exact ⟨rfl, by rw [hb2, hb1] <;> rfl⟩
      · rw [hm] at c62; exact absurd rfl c62
    · refine v_aload_n K dX7_convertBack_40 rfl ?_
      refine v_get K 0 rfl hasF_c rfl iX7 5 (by decide) rfl (by decide +kernel) rfl dX7_convertBack_41 ?_
      refine v_obook 4 rfl ?_
      try dsimp only [Nat.reduceAdd, nf_rep1, nf_rep0, nf_d0, nf_t0, nf_s0, nf_ac, nf_an, nf_d1, nf_t1, nf_s1, nf_d2, nf_t2, nf_s2, nf_d3, nf_t3, nf_s3, nf_d4, nf_t4, nf_s4, nf_d5, nf_t5, nf_s5, nf_d6, nf_t6, nf_s6, nf_d7, nf_t7, nf_s7, nf_d8, nf_t8, nf_s8, nf_d9, nf_t9, nf_s9, nf_d10, nf_t10, nf_s10, nf_d11, nf_t11, nf_s11, nf_d12, nf_t12, nf_s12, nf_d13, nf_t13, nf_s13, nf_d14, nf_t14, nf_s14, nf_d15, nf_t15, nf_s15, nf_d16, nf_t16, nf_s16, nf_d17, nf_t17, nf_s17, nf_d18, nf_t18, nf_s18, nf_d19, nf_t19, nf_s19, nf_d20, nf_t20, nf_s20]
      refine v_get K 4 rfl hasF_c rfl iX0 4 (by decide) rfl (by decide +kernel) rfl dX7_convertBack_44 ?_
      refine v_iload_n K dX7_convertBack_47 rfl ?_
      refine v_aload_n K dX7_convertBack_48 rfl ?_
      refine v_get K 0 rfl hasF_c rfl iX7 3 (by decide) rfl (by decide +kernel) rfl dX7_convertBack_49 ?_
      refine v_get K 2 rfl hasF_c rfl iX2 0 (by decide) rfl (by decide +kernel) rfl dX7_convertBack_52 ?_
      refine v_callVv K [9, 3] (c_X4_copyTo (XI X) (XB X) _ _ _ _ _ _ _ _ _ _ _ _ _ ) rfl gX7_convertBack_X4_copyTo rfl rfl hd_X4_copyTo ⟨rfl, rfl⟩ ⟨by decide, by decide⟩ 9 rfl rowsF rfl (by decide) (Nat.le_of_ble_eq_true rfl) ⟨Nat.zero_le _, Nat.zero_le _⟩ rfl dX7_convertBack_55 ?_
      try dsimp only [Nat.reduceAdd, nf_rep1, nf_rep0, nf_d0, nf_t0, nf_s0, nf_ac, nf_an, nf_d1, nf_t1, nf_s1, nf_d2, nf_t2, nf_s2, nf_d3, nf_t3, nf_s3, nf_d4, nf_t4, nf_s4, nf_d5, nf_t5, nf_s5, nf_d6, nf_t6, nf_s6, nf_d7, nf_t7, nf_s7, nf_d8, nf_t8, nf_s8, nf_d9, nf_t9, nf_s9, nf_d10, nf_t10, nf_s10, nf_d11, nf_t11, nf_s11, nf_d12, nf_t12, nf_s12, nf_d13, nf_t13, nf_s13, nf_d14, nf_t14, nf_s14, nf_d15, nf_t15, nf_s15, nf_d16, nf_t16, nf_s16, nf_d17, nf_t17, nf_s17, nf_d18, nf_t18, nf_s18, nf_d19, nf_t19, nf_s19, nf_d20, nf_t20, nf_s20]
      refine v_cbook  4 rfl ?_
      try dsimp only [Nat.reduceAdd, nf_rep1, nf_rep0, nf_d0, nf_t0, nf_s0, nf_ac, nf_an, nf_d1, nf_t1, nf_s1, nf_d2, nf_t2, nf_s2, nf_d3, nf_t3, nf_s3, nf_d4, nf_t4, nf_s4, nf_d5, nf_t5, nf_s5, nf_d6, nf_t6, nf_s6, nf_d7, nf_t7, nf_s7, nf_d8, nf_t8, nf_s8, nf_d9, nf_t9, nf_s9, nf_d10, nf_t10, nf_s10, nf_d11, nf_t11, nf_s11, nf_d12, nf_t12, nf_s12, nf_d13, nf_t13, nf_s13, nf_d14, nf_t14, nf_s14, nf_d15, nf_t15, nf_s15, nf_d16, nf_t16, nf_s16, nf_d17, nf_t17, nf_s17, nf_d18, nf_t18, nf_s18, nf_d19, nf_t19, nf_s19, nf_d20, nf_t20, nf_s20]
      refine v_goto K 75 dX7_convertBack_58 (by decide) ?_
      refine v_aload_n K dX7_convertBack_75 rfl ?_
      refine v_get K 0 rfl hasF_c rfl iX7 2 (by decide) rfl (by decide +kernel) rfl dX7_convertBack_76 ?_
      refine v_aload_n K dX7_convertBack_79 rfl ?_
      refine v_get K 0 rfl hasF_c rfl iX7 3 (by decide) rfl (by decide +kernel) rfl dX7_convertBack_80 ?_
      refine v_get K 2 rfl hasF_c rfl iX2 0 (by decide) rfl (by decide +kernel) rfl dX7_convertBack_83 ?_
      refine v_callVv K [1, 3] (c_X3_addAll (XI X) (XB X) _ _ _ _ _ _ _ _ ) rfl gX7_convertBack_X3_addAll rfl rfl hd_X3_addAll ⟨rfl, rfl⟩ ⟨by decide, by decide⟩ 1 rfl rowF rfl (by decide) (Nat.le_of_ble_eq_true rfl) ⟨Nat.zero_le _, Nat.zero_le _⟩ rfl dX7_convertBack_86 ?_
      try dsimp only [Nat.reduceAdd, nf_rep1, nf_rep0, nf_d0, nf_t0, nf_s0, nf_ac, nf_an, nf_d1, nf_t1, nf_s1, nf_d2, nf_t2, nf_s2, nf_d3, nf_t3, nf_s3, nf_d4, nf_t4, nf_s4, nf_d5, nf_t5, nf_s5, nf_d6, nf_t6, nf_s6, nf_d7, nf_t7, nf_s7, nf_d8, nf_t8, nf_s8, nf_d9, nf_t9, nf_s9, nf_d10, nf_t10, nf_s10, nf_d11, nf_t11, nf_s11, nf_d12, nf_t12, nf_s12, nf_d13, nf_t13, nf_s13, nf_d14, nf_t14, nf_s14, nf_d15, nf_t15, nf_s15, nf_d16, nf_t16, nf_s16, nf_d17, nf_t17, nf_s17, nf_d18, nf_t18, nf_s18, nf_d19, nf_t19, nf_s19, nf_d20, nf_t20, nf_s20]
      refine v_ret K E dX7_convertBack_89 ?_ (by simp only [nf_rep1, nf_rep0, nf_d0, nf_t0, nf_s0, nf_ac, nf_an, List.map_cons, List.map_nil, cM_1, rowM_1, rowsM_1, rdM_1, spM_1, bookM_1, svM_1, hiM_1])
      have hb1 : bk1 m xs = xs := by unfold bk1; rw [if_neg (by rw [hm]; exact Bool.false_ne_true)]
      have hb2 : bk2 S m xs = aaL 25 [] (ln S.2.2.2.2.1 (opI (fdo (bk1 m xs) (svy S).2.2.1 0))) := by unfold bk2; rw [if_neg (by rw [hb1]; exact c37)]
      exact ⟨rfl, by rw [hb2, hb1] <;> rfl⟩
  · refine v_aload_n K dX7_convertBack_4 rfl ?_
    refine v_get K 0 rfl hasF_c rfl iX7 3 (by decide) rfl (by decide +kernel) rfl dX7_convertBack_5 ?_
    refine v_get K 2 rfl hasF_c rfl iX2 0 (by decide) rfl (by decide +kernel) rfl dX7_convertBack_8 ?_
    refine v_bipush K (39) dX7_convertBack_11 (by decide) ?_
    refine v_callVv K [3] (c_X3_add (XI X) (XB X) _ _ _ _ _ ) rfl gX7_convertBack_X3_add rfl rfl hd_X3_add ⟨rfl, rfl⟩ ⟨by decide, by decide⟩ 3 rfl rowF rfl (by decide) (Nat.le_of_ble_eq_true rfl) ⟨Nat.zero_le _, Nat.zero_le _⟩ rfl dX7_convertBack_13 ?_
    try dsimp only [Nat.reduceAdd, nf_rep1, nf_rep0, nf_d0, nf_t0, nf_s0, nf_ac, nf_an, nf_d1, nf_t1, nf_s1, nf_d2, nf_t2, nf_s2, nf_d3, nf_t3, nf_s3, nf_d4, nf_t4, nf_s4, nf_d5, nf_t5, nf_s5, nf_d6, nf_t6, nf_s6, nf_d7, nf_t7, nf_s7, nf_d8, nf_t8, nf_s8, nf_d9, nf_t9, nf_s9, nf_d10, nf_t10, nf_s10, nf_d11, nf_t11, nf_s11, nf_d12, nf_t12, nf_s12, nf_d13, nf_t13, nf_s13, nf_d14, nf_t14, nf_s14, nf_d15, nf_t15, nf_s15, nf_d16, nf_t16, nf_s16, nf_d17, nf_t17, nf_s17, nf_d18, nf_t18, nf_s18, nf_d19, nf_t19, nf_s19, nf_d20, nf_t20, nf_s20]
    have hm := bI_1 c1
    refine v_osv 5 rfl (fun TT ww => ?_)
    try dsimp only [Nat.reduceAdd, nf_rep1, nf_rep0, nf_d0, nf_t0, nf_s0, nf_ac, nf_an, nf_d1, nf_t1, nf_s1, nf_d2, nf_t2, nf_s2, nf_d3, nf_t3, nf_s3, nf_d4, nf_t4, nf_s4, nf_d5, nf_t5, nf_s5, nf_d6, nf_t6, nf_s6, nf_d7, nf_t7, nf_s7, nf_d8, nf_t8, nf_s8, nf_d9, nf_t9, nf_s9, nf_d10, nf_t10, nf_s10, nf_d11, nf_t11, nf_s11, nf_d12, nf_t12, nf_s12, nf_d13, nf_t13, nf_s13, nf_d14, nf_t14, nf_s14, nf_d15, nf_t15, nf_s15, nf_d16, nf_t16, nf_s16, nf_d17, nf_t17, nf_s17, nf_d18, nf_t18, nf_s18, nf_d19, nf_t19, nf_s19, nf_d20, nf_t20, nf_s20]
    refine v_aload_n K dX7_convertBack_16 rfl ?_
    refine v_get K 0 rfl hasF_c rfl iX7 10 (by decide) rfl (by decide +kernel) rfl dX7_convertBack_17 ?_
    refine v_get K 5 rfl hasF_c rfl iX6 2 (by decide) rfl (by decide +kernel) rfl dX7_convertBack_20 ?_
    refine v_aload_n K dX7_convertBack_23 rfl ?_
    refine v_get K 0 rfl hasF_c rfl iX7 3 (by decide) rfl (by decide +kernel) rfl dX7_convertBack_24 ?_
    refine v_get K 2 rfl hasF_c rfl iX2 0 (by decide) rfl (by decide +kernel) rfl dX7_convertBack_27 ?_
    refine v_callVi K [8, 3] (c_X4_find (XI X) (XB X) _ _ _ _ _ _ _ _ _ _ _ _ ) rfl gX7_convertBack_X4_find rfl rfl hd_X4_find ⟨rfl, rfl⟩ ⟨by decide, by decide⟩ 8 rfl rowsF rfl (by decide) (Nat.le_of_ble_eq_true rfl) ⟨Nat.zero_le _, Nat.zero_le _⟩ rfl dX7_convertBack_30 ?_
    try dsimp only [Nat.reduceAdd, nf_rep1, nf_rep0, nf_d0, nf_t0, nf_s0, nf_ac, nf_an, nf_d1, nf_t1, nf_s1, nf_d2, nf_t2, nf_s2, nf_d3, nf_t3, nf_s3, nf_d4, nf_t4, nf_s4, nf_d5, nf_t5, nf_s5, nf_d6, nf_t6, nf_s6, nf_d7, nf_t7, nf_s7, nf_d8, nf_t8, nf_s8, nf_d9, nf_t9, nf_s9, nf_d10, nf_t10, nf_s10, nf_d11, nf_t11, nf_s11, nf_d12, nf_t12, nf_s12, nf_d13, nf_t13, nf_s13, nf_d14, nf_t14, nf_s14, nf_d15, nf_t15, nf_s15, nf_d16, nf_t16, nf_s16, nf_d17, nf_t17, nf_s17, nf_d18, nf_t18, nf_s18, nf_d19, nf_t19, nf_s19, nf_d20, nf_t20, nf_s20]
    refine v_istore_n K dX7_convertBack_33 (by decide) ?_
    refine v_csv  5 rfl ?_
    try dsimp only [Nat.reduceAdd, nf_rep1, nf_rep0, nf_d0, nf_t0, nf_s0, nf_ac, nf_an, nf_d1, nf_t1, nf_s1, nf_d2, nf_t2, nf_s2, nf_d3, nf_t3, nf_s3, nf_d4, nf_t4, nf_s4, nf_d5, nf_t5, nf_s5, nf_d6, nf_t6, nf_s6, nf_d7, nf_t7, nf_s7, nf_d8, nf_t8, nf_s8, nf_d9, nf_t9, nf_s9, nf_d10, nf_t10, nf_s10, nf_d11, nf_t11, nf_s11, nf_d12, nf_t12, nf_s12, nf_d13, nf_t13, nf_s13, nf_d14, nf_t14, nf_s14, nf_d15, nf_t15, nf_s15, nf_d16, nf_t16, nf_s16, nf_d17, nf_t17, nf_s17, nf_d18, nf_t18, nf_s18, nf_d19, nf_t19, nf_s19, nf_d20, nf_t20, nf_s20]
    refine v_iload_n K dX7_convertBack_34 rfl ?_
    refine v_bipush K (-5) dX7_convertBack_35 (by decide) ?_
    refine v_ic_eq K 61 dX7_convertBack_37 (by decide) (fun c37 => ?_) (fun c37 => ?_)
    · refine v_iload_n K dX7_convertBack_61 rfl ?_
      refine v_if_eq K 75 dX7_convertBack_62 (by decide) (fun c62 => ?_) (fun c62 => ?_)
      · rw [hm] at c62; exact absurd c62 (by decide)
      · refine v_aload_n K dX7_convertBack_65 rfl ?_
        refine v_get K 0 rfl hasF_c rfl iX7 3 (by decide) rfl (by decide +kernel) rfl dX7_convertBack_66 ?_
        refine v_get K 2 rfl hasF_c rfl iX2 0 (by decide) rfl (by decide +kernel) rfl dX7_convertBack_69 ?_
        refine v_callVv K [3] (c_X3_dropLast (XI X) (XB X) _ _ _ _ ) rfl gX7_convertBack_X3_dropLast rfl rfl hd_X3_dropLast ⟨rfl, rfl⟩ ⟨by decide, by decide⟩ 3 rfl rowF rfl (by decide) (Nat.le_of_ble_eq_true rfl) ⟨Nat.zero_le _, Nat.zero_le _⟩ rfl dX7_convertBack_72 ?_
        try dsimp only [Nat.reduceAdd, nf_rep1, nf_rep0, nf_d0, nf_t0, nf_s0, nf_ac, nf_an, nf_d1, nf_t1, nf_s1, nf_d2, nf_t2, nf_s2, nf_d3, nf_t3, nf_s3, nf_d4, nf_t4, nf_s4, nf_d5, nf_t5, nf_s5, nf_d6, nf_t6, nf_s6, nf_d7, nf_t7, nf_s7, nf_d8, nf_t8, nf_s8, nf_d9, nf_t9, nf_s9, nf_d10, nf_t10, nf_s10, nf_d11, nf_t11, nf_s11, nf_d12, nf_t12, nf_s12, nf_d13, nf_t13, nf_s13, nf_d14, nf_t14, nf_s14, nf_d15, nf_t15, nf_s15, nf_d16, nf_t16, nf_s16, nf_d17, nf_t17, nf_s17, nf_d18, nf_t18, nf_s18, nf_d19, nf_t19, nf_s19, nf_d20, nf_t20, nf_s20]
        refine v_aload_n K dX7_convertBack_75 rfl ?_
        refine v_get K 0 rfl hasF_c rfl iX7 2 (by decide) rfl (by decide +kernel) rfl dX7_convertBack_76 ?_
        refine v_aload_n K dX7_convertBack_79 rfl ?_
        refine v_get K 0 rfl hasF_c rfl iX7 3 (by decide) rfl (by decide +kernel) rfl dX7_convertBack_80 ?_
        refine v_get K 2 rfl hasF_c rfl iX2 0 (by decide) rfl (by decide +kernel) rfl dX7_convertBack_83 ?_
        refine v_callVv K [1, 3] (c_X3_addAll (XI X) (XB X) _ _ _ _ _ _ _ _ ) rfl gX7_convertBack_X3_addAll rfl rfl hd_X3_addAll ⟨rfl, rfl⟩ ⟨by decide, by decide⟩ 1 rfl rowF rfl (by decide) (Nat.le_of_ble_eq_true rfl) ⟨Nat.zero_le _, Nat.zero_le _⟩ rfl dX7_convertBack_86 ?_
        try dsimp only [Nat.reduceAdd, nf_rep1, nf_rep0, nf_d0, nf_t0, nf_s0, nf_ac, nf_an, nf_d1, nf_t1, nf_s1, nf_d2, nf_t2, nf_s2, nf_d3, nf_t3, nf_s3, nf_d4, nf_t4, nf_s4, nf_d5, nf_t5, nf_s5, nf_d6, nf_t6, nf_s6, nf_d7, nf_t7, nf_s7, nf_d8, nf_t8, nf_s8, nf_d9, nf_t9, nf_s9, nf_d10, nf_t10, nf_s10, nf_d11, nf_t11, nf_s11, nf_d12, nf_t12, nf_s12, nf_d13, nf_t13, nf_s13, nf_d14, nf_t14, nf_s14, nf_d15, nf_t15, nf_s15, nf_d16, nf_t16, nf_s16, nf_d17, nf_t17, nf_s17, nf_d18, nf_t18, nf_s18, nf_d19, nf_t19, nf_s19, nf_d20, nf_t20, nf_s20]
        refine v_ret K E dX7_convertBack_89 ?_ (by simp only [nf_rep1, nf_rep0, nf_d0, nf_t0, nf_s0, nf_ac, nf_an, List.map_cons, List.map_nil, cM_1, rowM_1, rowsM_1, rdM_1, spM_1, bookM_1, svM_1, hiM_1])
        have hb1 : bk1 m xs = adL 25 xs 39 := by unfold bk1; rw [if_pos hm]
        have hb2 : bk2 S m xs = (bk1 m xs).dropLast := by unfold bk2; rw [if_pos (by rw [hb1]; exact c37), if_pos hm]
        exact ⟨rfl, by rw [hb2, hb1] <;> rfl⟩
    · refine v_aload_n K dX7_convertBack_40 rfl ?_
      refine v_get K 0 rfl hasF_c rfl iX7 5 (by decide) rfl (by decide +kernel) rfl dX7_convertBack_41 ?_
      refine v_obook 4 rfl ?_
      try dsimp only [Nat.reduceAdd, nf_rep1, nf_rep0, nf_d0, nf_t0, nf_s0, nf_ac, nf_an, nf_d1, nf_t1, nf_s1, nf_d2, nf_t2, nf_s2, nf_d3, nf_t3, nf_s3, nf_d4, nf_t4, nf_s4, nf_d5, nf_t5, nf_s5, nf_d6, nf_t6, nf_s6, nf_d7, nf_t7, nf_s7, nf_d8, nf_t8, nf_s8, nf_d9, nf_t9, nf_s9, nf_d10, nf_t10, nf_s10, nf_d11, nf_t11, nf_s11, nf_d12, nf_t12, nf_s12, nf_d13, nf_t13, nf_s13, nf_d14, nf_t14, nf_s14, nf_d15, nf_t15, nf_s15, nf_d16, nf_t16, nf_s16, nf_d17, nf_t17, nf_s17, nf_d18, nf_t18, nf_s18, nf_d19, nf_t19, nf_s19, nf_d20, nf_t20, nf_s20]
      refine v_get K 4 rfl hasF_c rfl iX0 4 (by decide) rfl (by decide +kernel) rfl dX7_convertBack_44 ?_
      refine v_iload_n K dX7_convertBack_47 rfl ?_
      refine v_aload_n K dX7_convertBack_48 rfl ?_
      refine v_get K 0 rfl hasF_c rfl iX7 3 (by decide) rfl (by decide +kernel) rfl dX7_convertBack_49 ?_
      refine v_get K 2 rfl hasF_c rfl iX2 0 (by decide) rfl (by decide +kernel) rfl dX7_convertBack_52 ?_
      refine v_callVv K [9, 3] (c_X4_copyTo (XI X) (XB X) _ _ _ _ _ _ _ _ _ _ _ _ _ ) rfl gX7_convertBack_X4_copyTo rfl rfl hd_X4_copyTo ⟨rfl, rfl⟩ ⟨by decide, by decide⟩ 9 rfl rowsF rfl (by decide) (Nat.le_of_ble_eq_true rfl) ⟨Nat.zero_le _, Nat.zero_le _⟩ rfl dX7_convertBack_55 ?_
      try dsimp only [Nat.reduceAdd, nf_rep1, nf_rep0, nf_d0, nf_t0, nf_s0, nf_ac, nf_an, nf_d1, nf_t1, nf_s1, nf_d2, nf_t2, nf_s2, nf_d3, nf_t3, nf_s3, nf_d4, nf_t4, nf_s4, nf_d5, nf_t5, nf_s5, nf_d6, nf_t6, nf_s6, nf_d7, nf_t7, nf_s7, nf_d8, nf_t8, nf_s8, nf_d9, nf_t9, nf_s9, nf_d10, nf_t10, nf_s10, nf_d11, nf_t11, nf_s11, nf_d12, nf_t12, nf_s12, nf_d13, nf_t13, nf_s13, nf_d14, nf_t14, nf_s14, nf_d15, nf_t15, nf_s15, nf_d16, nf_t16, nf_s16, nf_d17, nf_t17, nf_s17, nf_d18, nf_t18, nf_s18, nf_d19, nf_t19, nf_s19, nf_d20, nf_t20, nf_s20]
      refine v_cbook  4 rfl ?_
      try dsimp only [Nat.reduceAdd, nf_rep1, nf_rep0, nf_d0, nf_t0, nf_s0, nf_ac, nf_an, nf_d1, nf_t1, nf_s1, nf_d2, nf_t2, nf_s2, nf_d3, nf_t3, nf_s3, nf_d4, nf_t4, nf_s4, nf_d5, nf_t5, nf_s5, nf_d6, nf_t6, nf_s6, nf_d7, nf_t7, nf_s7, nf_d8, nf_t8, nf_s8, nf_d9, nf_t9, nf_s9, nf_d10, nf_t10, nf_s10, nf_d11, nf_t11, nf_s11, nf_d12, nf_t12, nf_s12, nf_d13, nf_t13, nf_s13, nf_d14, nf_t14, nf_s14, nf_d15, nf_t15, nf_s15, nf_d16, nf_t16, nf_s16, nf_d17, nf_t17, nf_s17, nf_d18, nf_t18, nf_s18, nf_d19, nf_t19, nf_s19, nf_d20, nf_t20, nf_s20]
      refine v_goto K 75 dX7_convertBack_58 (by decide) ?_
      refine v_aload_n K dX7_convertBack_75 rfl ?_
      refine v_get K 0 rfl hasF_c rfl iX7 2 (by decide) rfl (by decide +kernel) rfl dX7_convertBack_76 ?_
      refine v_aload_n K dX7_convertBack_79 rfl ?_
      refine v_get K 0 rfl hasF_c rfl iX7 3 (by decide) rfl (by decide +kernel) rfl dX7_convertBack_80 ?_
      refine v_get K 2 rfl hasF_c rfl iX2 0 (by decide) rfl (by decide +kernel) rfl dX7_convertBack_83 ?_
      refine v_callVv K [1, 3] (c_X3_addAll (XI X) (XB X) _ _ _ _ _ _ _ _ ) rfl gX7_convertBack_X3_addAll rfl rfl hd_X3_addAll ⟨rfl, rfl⟩ ⟨by decide, by decide⟩ 1 rfl rowF rfl (by decide) (Nat.le_of_ble_eq_true rfl) ⟨Nat.zero_le _, Nat.zero_le _⟩ rfl dX7_convertBack_86 ?_
      try dsimp only [Nat.reduceAdd, nf_rep1, nf_rep0, nf_d0, nf_t0, nf_s0, nf_ac, nf_an, nf_d1, nf_t1, nf_s1, nf_d2, nf_t2, nf_s2, nf_d3, nf_t3, nf_s3, nf_d4, nf_t4, nf_s4, nf_d5, nf_t5, nf_s5, nf_d6, nf_t6, nf_s6, nf_d7, nf_t7, nf_s7, nf_d8, nf_t8, nf_s8, nf_d9, nf_t9, nf_s9, nf_d10, nf_t10, nf_s10, nf_d11, nf_t11, nf_s11, nf_d12, nf_t12, nf_s12, nf_d13, nf_t13, nf_s13, nf_d14, nf_t14, nf_s14, nf_d15, nf_t15, nf_s15, nf_d16, nf_t16, nf_s16, nf_d17, nf_t17, nf_s17, nf_d18, nf_t18, nf_s18, nf_d19, nf_t19, nf_s19, nf_d20, nf_t20, nf_s20]
      refine v_ret K E dX7_convertBack_89 ?_ (by simp only [nf_rep1, nf_rep0, nf_d0, nf_t0, nf_s0, nf_ac, nf_an, List.map_cons, List.map_nil, cM_1, rowM_1, rowsM_1, rdM_1, spM_1, bookM_1, svM_1, hiM_1])
      have hb1 : bk1 m xs = adL 25 xs 39 := by unfold bk1; rw [if_pos hm]
      have hb2 : bk2 S m xs = aaL 25 [] (ln S.2.2.2.2.1 (opI (fdo (bk1 m xs) (svy S).2.2.1 0))) := by unfold bk2; rw [if_neg (by rw [hb1]; exact c37)]
      exact ⟨rfl, by rw [hb2, hb1] <;> rfl⟩

theorem hd_X7_convert : yX7_convert.cls = RX7 ∧ yX7_convert.cls ≠ "java/lang/invoke/MethodHandle" ∧ yX7_convert.cls ≠ "java/lang/invoke/VarHandle" ∧ (parseMethodDescriptor yX7_convert.desc).map (fun d => d.parameters.length) = some 1 := by decide +kernel
set_option maxHeartbeats 4000000 in
set_option maxRecDepth 100000 in
theorem c_X7_convert (cI cB : ClassId) (a : Nat → Nat) (g HB : Nat → Nat → Nat) (ts cs : List Int32) (S SS : Bk) (hn : Bool) (hs : List Bk) (ns xs : List Int32) (P e s d k : Int32) (T : T4) (D : Bk) (w : Sv) (b : Bool)  : Ct cI cB yX7_convert wsX7_convert { frames := 6, cells := 0, slots := 0, locals := 142 } [.ref (a 0), .int (bI b)] [cM (a 0) (.inr (7, [.ref (a 1), .ref (a 3), .ref (a 5), .ref (a 7), .ref (g 0 0), .ref (g 1 0), .ref (g 2 0), .ref (g 3 0), .int (bI hn), .ref (a 10), .ref (g 4 0), .ref (g 5 0)])), rowM cI (a 1) (a 2) 60 ts, rowM cI (a 3) (a 4) 400 cs, rowM cI (a 5) (a 6) 400 ns, rdM (a 7) (a 8) (a 1) P e s d k, rowM cI (a 8) (a 9) 25 xs, spM cI (g 0) T, bookM cI (g 1) 30 20 S, bookM cI (g 2) 60 50 D, bookM cI (g 3) 30 20 SS, hiM cI cB (a 10) (a 11) HB hs, svM cI (g 4) (svy S), svM cI (g 5) w] (po cI cB a g HB (sConv (ts, cs, S, SS, hn, hs) b).1 (sConv (ts, cs, S, SS, hn, hs) b).2) := by
  refine ct_of (cc := cX7_convert) (maxL := 4) (ret := (some .int)) (by decide) rfl (Nat.le_of_ble_eq_true rfl) [(0, .ref (a 0)), (1, .int (bI b))] rfl ?_
  intro X hI hB K E
  subst hI
  subst hB
  have iX7 : ∀ w ∈ u_ws RX7 TX7 12, w ∈ wsX7_convert := by decide +kernel
  refine v_rowlen 1 rfl (fun hT => ?_)
  have lp : ∀ k2, k2 ≤ 60 → ∀ (x : Int32) (P2 : Nat) (ns2 xs2 : List Int32) (T2 : T4), x = nI k2 → P2 ≤ ts.length → cvF ts S b (60 - k2) P2 ns2 = cvF ts S b 60 0 [] → V X 0 0 28 [(0, .ref (a 0)), (1, .int (bI b)), (2, .int (nI (cvm b))), (3, .int x)] [] [cM (a 0) (.inr (7, [.ref (a 1), .ref (a 3), .ref (a 5), .ref (a 7), .ref (g 0 0), .ref (g 1 0), .ref (g 2 0), .ref (g 3 0), .int (bI hn), .ref (a 10), .ref (g 4 0), .ref (g 5 0)])), rowM (XI X) (a 1) (a 2) 60 ts, rowM (XI X) (a 3) (a 4) 400 cs, rowM (XI X) (a 5) (a 6) 400 ns2, rdM (a 7) (a 8) (a 1) (nI P2) e s d k, rowM (XI X) (a 8) (a 9) 25 xs2, spM (XI X) (g 0) T2, bookM (XI X) (g 1) 30 20 S, bookM (XI X) (g 2) 60 50 D, bookM (XI X) (g 3) 30 20 SS, hiM (XI X) (XB X) (a 10) (a 11) HB hs, svM (XI X) (g 4) (svy S), svM (XI X) (g 5) w] := by
    refine loop_up 60 ?_
    intro k2 hk ih x P2 ns2 xs2 T2 hx hP hz0
    subst hx
    have hm25 : cvm b ≤ 25 := by unfold cvm; split <;> decide
    refine v_iload_n K dX7_convert_28 rfl ?_
    refine v_bipush K (60) dX7_convert_29 (by decide) ?_
    refine v_ic_ge K 107 dX7_convert_31 (by decide) (fun c31 => ?_) (fun c31 => ?_)
    · have hcv : cvF ts S b (60 - k2) P2 ns2 = (true, P2, ns2) := by rw [up_end rfl (by decide) hk c31]; rfl
      refine v_aload_n K dX7_convert_107 rfl ?_
      refine v_get K 0 rfl hasF_c rfl iX7 3 (by decide) rfl (by decide +kernel) rfl dX7_convert_108 ?_
      refine v_callVi K [4, 1] (c_X2_isAtEnd (XI X) (XB X) _ _ _ _ _ _ _ _ _ _ _ ?hc111_0_1) rfl gX7_convert_X2_isAtEnd rfl rfl hd_X2_isAtEnd ⟨rfl, rfl⟩ ⟨by decide, by decide⟩ 4 rfl hasF_c rfl (by decide) (Nat.le_of_ble_eq_true rfl) ⟨Nat.zero_le _, Nat.zero_le _⟩ rfl dX7_convert_111 ?_
      case hc111_0_1 => first | exact hP | exact cvq_le hP3 (b := false) | exact cvq_le hP3 (b := true)
      try dsimp only [Nat.reduceAdd, nf_rep1, nf_rep0, nf_d0, nf_t0, nf_s0, nf_ac, nf_an, nf_d1, nf_t1, nf_s1, nf_d2, nf_t2, nf_s2, nf_d3, nf_t3, nf_s3, nf_d4, nf_t4, nf_s4, nf_d5, nf_t5, nf_s5, nf_d6, nf_t6, nf_s6, nf_d7, nf_t7, nf_s7, nf_d8, nf_t8, nf_s8, nf_d9, nf_t9, nf_s9, nf_d10, nf_t10, nf_s10, nf_d11, nf_t11, nf_s11, nf_d12, nf_t12, nf_s12, nf_d13, nf_t13, nf_s13, nf_d14, nf_t14, nf_s14, nf_d15, nf_t15, nf_s15, nf_d16, nf_t16, nf_s16, nf_d17, nf_t17, nf_s17, nf_d18, nf_t18, nf_s18, nf_d19, nf_t19, nf_s19, nf_d20, nf_t20, nf_s20]
      refine v_if_ne K 125 dX7_convert_114 (by decide) (fun c114 => ?_) (fun c114 => ?_)
      · refine v_aload_n K dX7_convert_125 rfl ?_
        refine v_get K 0 rfl hasF_c rfl iX7 1 (by decide) rfl (by decide +kernel) rfl dX7_convert_126 ?_
        refine v_aload_n K dX7_convert_129 rfl ?_
        refine v_get K 0 rfl hasF_c rfl iX7 2 (by decide) rfl (by decide +kernel) rfl dX7_convert_130 ?_
        refine v_callVv K [2, 3] (c_X3_copyFrom (XI X) (XB X) _ _ _ _ _ _ _ _ ) rfl gX7_convert_X3_copyFrom rfl rfl hd_X3_copyFrom ⟨rfl, rfl⟩ ⟨by decide, by decide⟩ 2 rfl rowF rfl (by decide) (Nat.le_of_ble_eq_true rfl) ⟨Nat.zero_le _, Nat.zero_le _⟩ rfl dX7_convert_133 ?_
        try dsimp only [Nat.reduceAdd, nf_rep1, nf_rep0, nf_d0, nf_t0, nf_s0, nf_ac, nf_an, nf_d1, nf_t1, nf_s1, nf_d2, nf_t2, nf_s2, nf_d3, nf_t3, nf_s3, nf_d4, nf_t4, nf_s4, nf_d5, nf_t5, nf_s5, nf_d6, nf_t6, nf_s6, nf_d7, nf_t7, nf_s7, nf_d8, nf_t8, nf_s8, nf_d9, nf_t9, nf_s9, nf_d10, nf_t10, nf_s10, nf_d11, nf_t11, nf_s11, nf_d12, nf_t12, nf_s12, nf_d13, nf_t13, nf_s13, nf_d14, nf_t14, nf_s14, nf_d15, nf_t15, nf_s15, nf_d16, nf_t16, nf_s16, nf_d17, nf_t17, nf_s17, nf_d18, nf_t18, nf_s18, nf_d19, nf_t19, nf_s19, nf_d20, nf_t20, nf_s20]
        refine v_aload_n K dX7_convert_136 rfl ?_
        refine v_get K 0 rfl hasF_c rfl iX7 1 (by decide) rfl (by decide +kernel) rfl dX7_convert_137 ?_
        refine v_callVi K [2] (c_X3_size (XI X) (XB X) _ _ _ _ ) rfl gX7_convert_X3_size rfl rfl hd_X3_size ⟨rfl, rfl⟩ ⟨by decide, by decide⟩ 2 rfl rowF rfl (by decide) (Nat.le_of_ble_eq_true rfl) ⟨Nat.zero_le _, Nat.zero_le _⟩ rfl dX7_convert_140 ?_
        try dsimp only [Nat.reduceAdd, nf_rep1, nf_rep0, nf_d0, nf_t0, nf_s0, nf_ac, nf_an, nf_d1, nf_t1, nf_s1, nf_d2, nf_t2, nf_s2, nf_d3, nf_t3, nf_s3, nf_d4, nf_t4, nf_s4, nf_d5, nf_t5, nf_s5, nf_d6, nf_t6, nf_s6, nf_d7, nf_t7, nf_s7, nf_d8, nf_t8, nf_s8, nf_d9, nf_t9, nf_s9, nf_d10, nf_t10, nf_s10, nf_d11, nf_t11, nf_s11, nf_d12, nf_t12, nf_s12, nf_d13, nf_t13, nf_s13, nf_d14, nf_t14, nf_s14, nf_d15, nf_t15, nf_s15, nf_d16, nf_t16, nf_s16, nf_d17, nf_t17, nf_s17, nf_d18, nf_t18, nf_s18, nf_d19, nf_t19, nf_s19, nf_d20, nf_t20, nf_s20]
        refine v_iret K E dX7_convert_143 ?_ (by (simp only [nf_rep1, nf_rep0, nf_d0, nf_t0, nf_s0, nf_ac, nf_an, List.map_cons, List.map_nil, cM_1, rowM_1, rowsM_1, rdM_1, spM_1, bookM_1, svM_1, hiM_1]))
        have hz := hcv
        rw [show sConv (ts, cs, S, SS, hn, hs) b = _ by unfold sConv; rw [← hz0, hz, if_pos ⟨rfl, of_decide_eq_true (bI_1 c114)⟩]]
        exact ⟨rfl, (_, _, (_, _, _, _, _), _, _, _), rfl⟩
      · refine v_aload_n K dX7_convert_117 rfl ?_
        refine v_get K 0 rfl hasF_c rfl iX7 3 (by decide) rfl (by decide +kernel) rfl dX7_convert_118 ?_
        refine v_callVi K [4] (c_X2_fault (XI X) (XB X) _ _ _ _ _ _ _ _ ) rfl gX7_convert_X2_fault rfl rfl hd_X2_fault ⟨rfl, rfl⟩ ⟨by decide, by decide⟩ 4 rfl hasF_c rfl (by decide) (Nat.le_of_ble_eq_true rfl) ⟨Nat.zero_le _, Nat.zero_le _⟩ rfl dX7_convert_121 ?_
        try dsimp only [Nat.reduceAdd, nf_rep1, nf_rep0, nf_d0, nf_t0, nf_s0, nf_ac, nf_an, nf_d1, nf_t1, nf_s1, nf_d2, nf_t2, nf_s2, nf_d3, nf_t3, nf_s3, nf_d4, nf_t4, nf_s4, nf_d5, nf_t5, nf_s5, nf_d6, nf_t6, nf_s6, nf_d7, nf_t7, nf_s7, nf_d8, nf_t8, nf_s8, nf_d9, nf_t9, nf_s9, nf_d10, nf_t10, nf_s10, nf_d11, nf_t11, nf_s11, nf_d12, nf_t12, nf_s12, nf_d13, nf_t13, nf_s13, nf_d14, nf_t14, nf_s14, nf_d15, nf_t15, nf_s15, nf_d16, nf_t16, nf_s16, nf_d17, nf_t17, nf_s17, nf_d18, nf_t18, nf_s18, nf_d19, nf_t19, nf_s19, nf_d20, nf_t20, nf_s20]
        refine v_iret K E dX7_convert_124 ?_ (by (simp only [nf_rep1, nf_rep0, nf_d0, nf_t0, nf_s0, nf_ac, nf_an, List.map_cons, List.map_nil, cM_1, rowM_1, rowsM_1, rdM_1, spM_1, bookM_1, svM_1, hiM_1]))
        have hz := hcv
        rw [show sConv (ts, cs, S, SS, hn, hs) b = _ by unfold sConv; rw [← hz0, hz, if_neg (fun z => (of_decide_eq_false (bI_0 c114)) z.2)]]
        exact ⟨rfl, (_, _, (_, _, _, _, _), _, _, _), rfl⟩
    · have hlt := up_lt rfl (by decide) hk c31
      refine v_aload_n K dX7_convert_34 rfl ?_
      refine v_get K 0 rfl hasF_c rfl iX7 3 (by decide) rfl (by decide +kernel) rfl dX7_convert_35 ?_
      refine v_iload_n K dX7_convert_38 rfl ?_
      refine v_callVi K [4, 5, 1] (c_X2_takeLetters (XI X) (XB X) _ _ _ _ _ _ _ _ _ _ _ _ _ _ ?hc39_0_5 ?hc39_1_5) rfl gX7_convert_X2_takeLetters rfl rfl hd_X2_takeLetters ⟨rfl, rfl⟩ ⟨by decide, by decide⟩ 4 rfl hasF_c rfl (by decide) (Nat.le_of_ble_eq_true rfl) ⟨Nat.zero_le _, Nat.zero_le _⟩ rfl dX7_convert_39 ?_
      case hc39_0_5 => exact hP
      case hc39_1_5 => exact hm25
      try dsimp only [Nat.reduceAdd, nf_rep1, nf_rep0, nf_d0, nf_t0, nf_s0, nf_ac, nf_an, nf_d1, nf_t1, nf_s1, nf_d2, nf_t2, nf_s2, nf_d3, nf_t3, nf_s3, nf_d4, nf_t4, nf_s4, nf_d5, nf_t5, nf_s5, nf_d6, nf_t6, nf_s6, nf_d7, nf_t7, nf_s7, nf_d8, nf_t8, nf_s8, nf_d9, nf_t9, nf_s9, nf_d10, nf_t10, nf_s10, nf_d11, nf_t11, nf_s11, nf_d12, nf_t12, nf_s12, nf_d13, nf_t13, nf_s13, nf_d14, nf_t14, nf_s14, nf_d15, nf_t15, nf_s15, nf_d16, nf_t16, nf_s16, nf_d17, nf_t17, nf_s17, nf_d18, nf_t18, nf_s18, nf_d19, nf_t19, nf_s19, nf_d20, nf_t20, nf_s20]
      refine v_if_ne K 53 dX7_convert_42 (by decide) (fun c42 => ?_) (fun c42 => ?_)
      · have hlen : ¬ (tlF (cvm b) (ts.drop P2)).length = 0 := Nat.ne_of_gt (of_decide_eq_true (bI_1 c42))
        have hP3 : P2 + (tlF (cvm b) (ts.drop P2)).length ≤ ts.length := tl_le hP
        refine v_iload_n K dX7_convert_53 rfl ?_
        refine v_if_eq K 73 dX7_convert_54 (by decide) (fun c54 => ?_) (fun c54 => ?_)
        · have hbt : b = false := bI_0 c54
          subst hbt
          refine v_aload_n K dX7_convert_73 rfl ?_
          refine v_callVv K [0, 3, 4, 5, 6, 7] (c_X7_convertThere (XI X) (XB X) _ _ _ _ _ _ _ _ _ _ _ _ ) rfl gX7_convert_X7_convertThere rfl rfl hd_X7_convertThere ⟨rfl, rfl⟩ ⟨by decide, by decide⟩ 0 rfl hasF_c rfl (by decide) (Nat.le_of_ble_eq_true rfl) ⟨Nat.zero_le _, Nat.zero_le _⟩ rfl dX7_convert_74 ?_
          try dsimp only [Nat.reduceAdd, nf_rep1, nf_rep0, nf_d0, nf_t0, nf_s0, nf_ac, nf_an, nf_d1, nf_t1, nf_s1, nf_d2, nf_t2, nf_s2, nf_d3, nf_t3, nf_s3, nf_d4, nf_t4, nf_s4, nf_d5, nf_t5, nf_s5, nf_d6, nf_t6, nf_s6, nf_d7, nf_t7, nf_s7, nf_d8, nf_t8, nf_s8, nf_d9, nf_t9, nf_s9, nf_d10, nf_t10, nf_s10, nf_d11, nf_t11, nf_s11, nf_d12, nf_t12, nf_s12, nf_d13, nf_t13, nf_s13, nf_d14, nf_t14, nf_s14, nf_d15, nf_t15, nf_s15, nf_d16, nf_t16, nf_s16, nf_d17, nf_t17, nf_s17, nf_d18, nf_t18, nf_s18, nf_d19, nf_t19, nf_s19, nf_d20, nf_t20, nf_s20]
          refine v_aload_n K dX7_convert_77 rfl ?_
          refine v_get K 0 rfl hasF_c rfl iX7 3 (by decide) rfl (by decide +kernel) rfl dX7_convert_78 ?_
          refine v_bipush K (32) dX7_convert_81 (by decide) ?_
          refine v_callVi K [4, 1] (c_X2_take (XI X) (XB X) _ _ _ _ _ _ _ _ _ _ _ _ ?hc83_0_7) rfl gX7_convert_X2_take rfl rfl hd_X2_take ⟨rfl, rfl⟩ ⟨by decide, by decide⟩ 4 rfl hasF_c rfl (by decide) (Nat.le_of_ble_eq_true rfl) ⟨Nat.zero_le _, Nat.zero_le _⟩ rfl dX7_convert_83 ?_
          case hc83_0_7 => first | exact hP3 | exact tk_le hP3 (by decide)
          try dsimp only [Nat.reduceAdd, nf_rep1, nf_rep0, nf_d0, nf_t0, nf_s0, nf_ac, nf_an, nf_d1, nf_t1, nf_s1, nf_d2, nf_t2, nf_s2, nf_d3, nf_t3, nf_s3, nf_d4, nf_t4, nf_s4, nf_d5, nf_t5, nf_s5, nf_d6, nf_t6, nf_s6, nf_d7, nf_t7, nf_s7, nf_d8, nf_t8, nf_s8, nf_d9, nf_t9, nf_s9, nf_d10, nf_t10, nf_s10, nf_d11, nf_t11, nf_s11, nf_d12, nf_t12, nf_s12, nf_d13, nf_t13, nf_s13, nf_d14, nf_t14, nf_s14, nf_d15, nf_t15, nf_s15, nf_d16, nf_t16, nf_s16, nf_d17, nf_t17, nf_s17, nf_d18, nf_t18, nf_s18, nf_d19, nf_t19, nf_s19, nf_d20, nf_t20, nf_s20]
          refine v_if_ne K 92 dX7_convert_86 (by decide) (fun c86 => ?_) (fun c86 => ?_)
          · have h32 := of_decide_eq_true (bI_1 c86)
            rw [tkP_t h32]
            have hcv := cvF_1 (S := S) (ns := ns2) hlt hlen (b := false) h32
            have hP5 := at_lt (fun z => by rw [z] at h32; exact absurd h32 (by decide))
            refine v_aload_n K dX7_convert_92 rfl ?_
            refine v_get K 0 rfl hasF_c rfl iX7 2 (by decide) rfl (by decide +kernel) rfl dX7_convert_93 ?_
            refine v_bipush K (32) dX7_convert_96 (by decide) ?_
            refine v_callVv K [3] (c_X3_add (XI X) (XB X) _ _ _ _ _ ) rfl gX7_convert_X3_add rfl rfl hd_X3_add ⟨rfl, rfl⟩ ⟨by decide, by decide⟩ 3 rfl rowF rfl (by decide) (Nat.le_of_ble_eq_true rfl) ⟨Nat.zero_le _, Nat.zero_le _⟩ rfl dX7_convert_98 ?_
            try dsimp only [Nat.reduceAdd, nf_rep1, nf_rep0, nf_d0, nf_t0, nf_s0, nf_ac, nf_an, nf_d1, nf_t1, nf_s1, nf_d2, nf_t2, nf_s2, nf_d3, nf_t3, nf_s3, nf_d4, nf_t4, nf_s4, nf_d5, nf_t5, nf_s5, nf_d6, nf_t6, nf_s6, nf_d7, nf_t7, nf_s7, nf_d8, nf_t8, nf_s8, nf_d9, nf_t9, nf_s9, nf_d10, nf_t10, nf_s10, nf_d11, nf_t11, nf_s11, nf_d12, nf_t12, nf_s12, nf_d13, nf_t13, nf_s13, nf_d14, nf_t14, nf_s14, nf_d15, nf_t15, nf_s15, nf_d16, nf_t16, nf_s16, nf_d17, nf_t17, nf_s17, nf_d18, nf_t18, nf_s18, nf_d19, nf_t19, nf_s19, nf_d20, nf_t20, nf_s20]
            refine v_iinc K dX7_convert_101 rfl (by decide) iinc_1 ?_
            refine v_goto K 28 dX7_convert_104 (by decide) ?_
            exact v_j (ih hlt _ _ _ _ _ (nI_1 k2) hP5 (by rw [← hz0, hcv]; rfl)) rfl rfl rfl
          · refine v_goto K 107 dX7_convert_89 (by decide) ?_
            have h32 := of_decide_eq_false (bI_0 c86)
            rw [tkP_f h32]
            have hcv := cvF_2 (S := S) (ns := ns2) hlt hlen (b := false) h32
            refine v_aload_n K dX7_convert_107 rfl ?_
            refine v_get K 0 rfl hasF_c rfl iX7 3 (by decide) rfl (by decide +kernel) rfl dX7_convert_108 ?_
            refine v_callVi K [4, 1] (c_X2_isAtEnd (XI X) (XB X) _ _ _ _ _ _ _ _ _ _ _ ?hc111_0_9) rfl gX7_convert_X2_isAtEnd rfl rfl hd_X2_isAtEnd ⟨rfl, rfl⟩ ⟨by decide, by decide⟩ 4 rfl hasF_c rfl (by decide) (Nat.le_of_ble_eq_true rfl) ⟨Nat.zero_le _, Nat.zero_le _⟩ rfl dX7_convert_111 ?_
            case hc111_0_9 => first | exact hP | exact cvq_le hP3 (b := false) | exact cvq_le hP3 (b := true)
            try dsimp only [Nat.reduceAdd, nf_rep1, nf_rep0, nf_d0, nf_t0, nf_s0, nf_ac, nf_an, nf_d1, nf_t1, nf_s1, nf_d2, nf_t2, nf_s2, nf_d3, nf_t3, nf_s3, nf_d4, nf_t4, nf_s4, nf_d5, nf_t5, nf_s5, nf_d6, nf_t6, nf_s6, nf_d7, nf_t7, nf_s7, nf_d8, nf_t8, nf_s8, nf_d9, nf_t9, nf_s9, nf_d10, nf_t10, nf_s10, nf_d11, nf_t11, nf_s11, nf_d12, nf_t12, nf_s12, nf_d13, nf_t13, nf_s13, nf_d14, nf_t14, nf_s14, nf_d15, nf_t15, nf_s15, nf_d16, nf_t16, nf_s16, nf_d17, nf_t17, nf_s17, nf_d18, nf_t18, nf_s18, nf_d19, nf_t19, nf_s19, nf_d20, nf_t20, nf_s20]
            refine v_if_ne K 125 dX7_convert_114 (by decide) (fun c114 => ?_) (fun c114 => ?_)
            · refine v_aload_n K dX7_convert_125 rfl ?_
              refine v_get K 0 rfl hasF_c rfl iX7 1 (by decide) rfl (by decide +kernel) rfl dX7_convert_126 ?_
              refine v_aload_n K dX7_convert_129 rfl ?_
              refine v_get K 0 rfl hasF_c rfl iX7 2 (by decide) rfl (by decide +kernel) rfl dX7_convert_130 ?_
              refine v_callVv K [2, 3] (c_X3_copyFrom (XI X) (XB X) _ _ _ _ _ _ _ _ ) rfl gX7_convert_X3_copyFrom rfl rfl hd_X3_copyFrom ⟨rfl, rfl⟩ ⟨by decide, by decide⟩ 2 rfl rowF rfl (by decide) (Nat.le_of_ble_eq_true rfl) ⟨Nat.zero_le _, Nat.zero_le _⟩ rfl dX7_convert_133 ?_
              try dsimp only [Nat.reduceAdd, nf_rep1, nf_rep0, nf_d0, nf_t0, nf_s0, nf_ac, nf_an, nf_d1, nf_t1, nf_s1, nf_d2, nf_t2, nf_s2, nf_d3, nf_t3, nf_s3, nf_d4, nf_t4, nf_s4, nf_d5, nf_t5, nf_s5, nf_d6, nf_t6, nf_s6, nf_d7, nf_t7, nf_s7, nf_d8, nf_t8, nf_s8, nf_d9, nf_t9, nf_s9, nf_d10, nf_t10, nf_s10, nf_d11, nf_t11, nf_s11, nf_d12, nf_t12, nf_s12, nf_d13, nf_t13, nf_s13, nf_d14, nf_t14, nf_s14, nf_d15, nf_t15, nf_s15, nf_d16, nf_t16, nf_s16, nf_d17, nf_t17, nf_s17, nf_d18, nf_t18, nf_s18, nf_d19, nf_t19, nf_s19, nf_d20, nf_t20, nf_s20]
              refine v_aload_n K dX7_convert_136 rfl ?_
              refine v_get K 0 rfl hasF_c rfl iX7 1 (by decide) rfl (by decide +kernel) rfl dX7_convert_137 ?_
              refine v_callVi K [2] (c_X3_size (XI X) (XB X) _ _ _ _ ) rfl gX7_convert_X3_size rfl rfl hd_X3_size ⟨rfl, rfl⟩ ⟨by decide, by decide⟩ 2 rfl rowF rfl (by decide) (Nat.le_of_ble_eq_true rfl) ⟨Nat.zero_le _, Nat.zero_le _⟩ rfl dX7_convert_140 ?_
              try dsimp only [Nat.reduceAdd, nf_rep1, nf_rep0, nf_d0, nf_t0, nf_s0, nf_ac, nf_an, nf_d1, nf_t1, nf_s1, nf_d2, nf_t2, nf_s2, nf_d3, nf_t3, nf_s3, nf_d4, nf_t4, nf_s4, nf_d5, nf_t5, nf_s5, nf_d6, nf_t6, nf_s6, nf_d7, nf_t7, nf_s7, nf_d8, nf_t8, nf_s8, nf_d9, nf_t9, nf_s9, nf_d10, nf_t10, nf_s10, nf_d11, nf_t11, nf_s11, nf_d12, nf_t12, nf_s12, nf_d13, nf_t13, nf_s13, nf_d14, nf_t14, nf_s14, nf_d15, nf_t15, nf_s15, nf_d16, nf_t16, nf_s16, nf_d17, nf_t17, nf_s17, nf_d18, nf_t18, nf_s18, nf_d19, nf_t19, nf_s19, nf_d20, nf_t20, nf_s20]
              refine v_iret K E dX7_convert_143 ?_ (by (simp only [nf_rep1, nf_rep0, nf_d0, nf_t0, nf_s0, nf_ac, nf_an, List.map_cons, List.map_nil, cM_1, rowM_1, rowsM_1, rdM_1, spM_1, bookM_1, svM_1, hiM_1]))
              have hz := hcv
              rw [show sConv (ts, cs, S, SS, hn, hs) false = _ by unfold sConv; rw [← hz0, hz, if_pos ⟨rfl, of_decide_eq_true (bI_1 c114)⟩]]
              exact ⟨rfl, (_, _, (_, _, _, _, _), _, _, _), rfl⟩
            · refine v_aload_n K dX7_convert_117 rfl ?_
              refine v_get K 0 rfl hasF_c rfl iX7 3 (by decide) rfl (by decide +kernel) rfl dX7_convert_118 ?_
              refine v_callVi K [4] (c_X2_fault (XI X) (XB X) _ _ _ _ _ _ _ _ ) rfl gX7_convert_X2_fault rfl rfl hd_X2_fault ⟨rfl, rfl⟩ ⟨by decide, by decide⟩ 4 rfl hasF_c rfl (by decide) (Nat.le_of_ble_eq_true rfl) ⟨Nat.zero_le _, Nat.zero_le _⟩ rfl dX7_convert_121 ?_
              try dsimp only [Nat.reduceAdd, nf_rep1, nf_rep0, nf_d0, nf_t0, nf_s0, nf_ac, nf_an, nf_d1, nf_t1, nf_s1, nf_d2, nf_t2, nf_s2, nf_d3, nf_t3, nf_s3, nf_d4, nf_t4, nf_s4, nf_d5, nf_t5, nf_s5, nf_d6, nf_t6, nf_s6, nf_d7, nf_t7, nf_s7, nf_d8, nf_t8, nf_s8, nf_d9, nf_t9, nf_s9, nf_d10, nf_t10, nf_s10, nf_d11, nf_t11, nf_s11, nf_d12, nf_t12, nf_s12, nf_d13, nf_t13, nf_s13, nf_d14, nf_t14, nf_s14, nf_d15, nf_t15, nf_s15, nf_d16, nf_t16, nf_s16, nf_d17, nf_t17, nf_s17, nf_d18, nf_t18, nf_s18, nf_d19, nf_t19, nf_s19, nf_d20, nf_t20, nf_s20]
              refine v_iret K E dX7_convert_124 ?_ (by (simp only [nf_rep1, nf_rep0, nf_d0, nf_t0, nf_s0, nf_ac, nf_an, List.map_cons, List.map_nil, cM_1, rowM_1, rowsM_1, rdM_1, spM_1, bookM_1, svM_1, hiM_1]))
              have hz := hcv
              rw [show sConv (ts, cs, S, SS, hn, hs) false = _ by unfold sConv; rw [← hz0, hz, if_neg (fun z => (of_decide_eq_false (bI_0 c114)) z.2)]]
              exact ⟨rfl, (_, _, (_, _, _, _, _), _, _, _), rfl⟩
        · have hbt : b = true := bI_1 c54
          subst hbt
          refine v_aload_n K dX7_convert_57 rfl ?_
          refine v_aload_n K dX7_convert_58 rfl ?_
          refine v_get K 0 rfl hasF_c rfl iX7 3 (by decide) rfl (by decide +kernel) rfl dX7_convert_59 ?_
          refine v_bipush K (39) dX7_convert_62 (by decide) ?_
          refine v_callVi K [4, 1] (c_X2_take (XI X) (XB X) _ _ _ _ _ _ _ _ _ _ _ _ ?hc64_0_13) rfl gX7_convert_X2_take rfl rfl hd_X2_take ⟨rfl, rfl⟩ ⟨by decide, by decide⟩ 4 rfl hasF_c rfl (by decide) (Nat.le_of_ble_eq_true rfl) ⟨Nat.zero_le _, Nat.zero_le _⟩ rfl dX7_convert_64 ?_
          case hc64_0_13 => exact hP3
          try dsimp only [Nat.reduceAdd, nf_rep1, nf_rep0, nf_d0, nf_t0, nf_s0, nf_ac, nf_an, nf_d1, nf_t1, nf_s1, nf_d2, nf_t2, nf_s2, nf_d3, nf_t3, nf_s3, nf_d4, nf_t4, nf_s4, nf_d5, nf_t5, nf_s5, nf_d6, nf_t6, nf_s6, nf_d7, nf_t7, nf_s7, nf_d8, nf_t8, nf_s8, nf_d9, nf_t9, nf_s9, nf_d10, nf_t10, nf_s10, nf_d11, nf_t11, nf_s11, nf_d12, nf_t12, nf_s12, nf_d13, nf_t13, nf_s13, nf_d14, nf_t14, nf_s14, nf_d15, nf_t15, nf_s15, nf_d16, nf_t16, nf_s16, nf_d17, nf_t17, nf_s17, nf_d18, nf_t18, nf_s18, nf_d19, nf_t19, nf_s19, nf_d20, nf_t20, nf_s20]
          refine v_callVv K [0, 3, 4, 5, 7, 11] (c_X7_convertBack (XI X) (XB X) _ _ _ _ _ _ _ _ _ _ _ _ ) rfl gX7_convert_X7_convertBack rfl rfl hd_X7_convertBack ⟨rfl, rfl⟩ ⟨by decide, by decide⟩ 0 rfl hasF_c rfl (by decide) (Nat.le_of_ble_eq_true rfl) ⟨Nat.zero_le _, Nat.zero_le _⟩ rfl dX7_convert_67 ?_
          try dsimp only [Nat.reduceAdd, nf_rep1, nf_rep0, nf_d0, nf_t0, nf_s0, nf_ac, nf_an, nf_d1, nf_t1, nf_s1, nf_d2, nf_t2, nf_s2, nf_d3, nf_t3, nf_s3, nf_d4, nf_t4, nf_s4, nf_d5, nf_t5, nf_s5, nf_d6, nf_t6, nf_s6, nf_d7, nf_t7, nf_s7, nf_d8, nf_t8, nf_s8, nf_d9, nf_t9, nf_s9, nf_d10, nf_t10, nf_s10, nf_d11, nf_t11, nf_s11, nf_d12, nf_t12, nf_s12, nf_d13, nf_t13, nf_s13, nf_d14, nf_t14, nf_s14, nf_d15, nf_t15, nf_s15, nf_d16, nf_t16, nf_s16, nf_d17, nf_t17, nf_s17, nf_d18, nf_t18, nf_s18, nf_d19, nf_t19, nf_s19, nf_d20, nf_t20, nf_s20]
          refine v_goto K 77 dX7_convert_70 (by decide) ?_
          refine v_aload_n K dX7_convert_77 rfl ?_
          refine v_get K 0 rfl hasF_c rfl iX7 3 (by decide) rfl (by decide +kernel) rfl dX7_convert_78 ?_
          refine v_bipush K (32) dX7_convert_81 (by decide) ?_
          refine v_callVi K [4, 1] (c_X2_take (XI X) (XB X) _ _ _ _ _ _ _ _ _ _ _ _ ?hc83_0_15) rfl gX7_convert_X2_take rfl rfl hd_X2_take ⟨rfl, rfl⟩ ⟨by decide, by decide⟩ 4 rfl hasF_c rfl (by decide) (Nat.le_of_ble_eq_true rfl) ⟨Nat.zero_le _, Nat.zero_le _⟩ rfl dX7_convert_83 ?_
          case hc83_0_15 => first | exact hP3 | exact tk_le hP3 (by decide)
          try dsimp only [Nat.reduceAdd, nf_rep1, nf_rep0, nf_d0, nf_t0, nf_s0, nf_ac, nf_an, nf_d1, nf_t1, nf_s1, nf_d2, nf_t2, nf_s2, nf_d3, nf_t3, nf_s3, nf_d4, nf_t4, nf_s4, nf_d5, nf_t5, nf_s5, nf_d6, nf_t6, nf_s6, nf_d7, nf_t7, nf_s7, nf_d8, nf_t8, nf_s8, nf_d9, nf_t9, nf_s9, nf_d10, nf_t10, nf_s10, nf_d11, nf_t11, nf_s11, nf_d12, nf_t12, nf_s12, nf_d13, nf_t13, nf_s13, nf_d14, nf_t14, nf_s14, nf_d15, nf_t15, nf_s15, nf_d16, nf_t16, nf_s16, nf_d17, nf_t17, nf_s17, nf_d18, nf_t18, nf_s18, nf_d19, nf_t19, nf_s19, nf_d20, nf_t20, nf_s20]
          refine v_if_ne K 92 dX7_convert_86 (by decide) (fun c86 => ?_) (fun c86 => ?_)
          · have h32 := of_decide_eq_true (bI_1 c86)
            rw [tkP_t h32]
            have hcv := cvF_1 (S := S) (ns := ns2) hlt hlen (b := true) h32
            have hP5 := at_lt (fun z => by rw [z] at h32; exact absurd h32 (by decide))
            refine v_aload_n K dX7_convert_92 rfl ?_
            refine v_get K 0 rfl hasF_c rfl iX7 2 (by decide) rfl (by decide +kernel) rfl dX7_convert_93 ?_
            refine v_bipush K (32) dX7_convert_96 (by decide) ?_
            refine v_callVv K [3] (c_X3_add (XI X) (XB X) _ _ _ _ _ ) rfl gX7_convert_X3_add rfl rfl hd_X3_add ⟨rfl, rfl⟩ ⟨by decide, by decide⟩ 3 rfl rowF rfl (by decide) (Nat.le_of_ble_eq_true rfl) ⟨Nat.zero_le _, Nat.zero_le _⟩ rfl dX7_convert_98 ?_
            try dsimp only [Nat.reduceAdd, nf_rep1, nf_rep0, nf_d0, nf_t0, nf_s0, nf_ac, nf_an, nf_d1, nf_t1, nf_s1, nf_d2, nf_t2, nf_s2, nf_d3, nf_t3, nf_s3, nf_d4, nf_t4, nf_s4, nf_d5, nf_t5, nf_s5, nf_d6, nf_t6, nf_s6, nf_d7, nf_t7, nf_s7, nf_d8, nf_t8, nf_s8, nf_d9, nf_t9, nf_s9, nf_d10, nf_t10, nf_s10, nf_d11, nf_t11, nf_s11, nf_d12, nf_t12, nf_s12, nf_d13, nf_t13, nf_s13, nf_d14, nf_t14, nf_s14, nf_d15, nf_t15, nf_s15, nf_d16, nf_t16, nf_s16, nf_d17, nf_t17, nf_s17, nf_d18, nf_t18, nf_s18, nf_d19, nf_t19, nf_s19, nf_d20, nf_t20, nf_s20]
            refine v_iinc K dX7_convert_101 rfl (by decide) iinc_1 ?_
            refine v_goto K 28 dX7_convert_104 (by decide) ?_
            exact v_j (ih hlt _ _ _ _ _ (nI_1 k2) hP5 (by rw [← hz0, hcv]; rfl)) rfl rfl rfl
          · refine v_goto K 107 dX7_convert_89 (by decide) ?_
            have h32 := of_decide_eq_false (bI_0 c86)
            rw [tkP_f h32]
            have hcv := cvF_2 (S := S) (ns := ns2) hlt hlen (b := true) h32
            refine v_aload_n K dX7_convert_107 rfl ?_
            refine v_get K 0 rfl hasF_c rfl iX7 3 (by decide) rfl (by decide +kernel) rfl dX7_convert_108 ?_
            refine v_callVi K [4, 1] (c_X2_isAtEnd (XI X) (XB X) _ _ _ _ _ _ _ _ _ _ _ ?hc111_0_17) rfl gX7_convert_X2_isAtEnd rfl rfl hd_X2_isAtEnd ⟨rfl, rfl⟩ ⟨by decide, by decide⟩ 4 rfl hasF_c rfl (by decide) (Nat.le_of_ble_eq_true rfl) ⟨Nat.zero_le _, Nat.zero_le _⟩ rfl dX7_convert_111 ?_
            case hc111_0_17 => first | exact hP | exact cvq_le hP3 (b := false) | exact cvq_le hP3 (b := true)
            try dsimp only [Nat.reduceAdd, nf_rep1, nf_rep0, nf_d0, nf_t0, nf_s0, nf_ac, nf_an, nf_d1, nf_t1, nf_s1, nf_d2, nf_t2, nf_s2, nf_d3, nf_t3, nf_s3, nf_d4, nf_t4, nf_s4, nf_d5, nf_t5, nf_s5, nf_d6, nf_t6, nf_s6, nf_d7, nf_t7, nf_s7, nf_d8, nf_t8, nf_s8, nf_d9, nf_t9, nf_s9, nf_d10, nf_t10, nf_s10, nf_d11, nf_t11, nf_s11, nf_d12, nf_t12, nf_s12, nf_d13, nf_t13, nf_s13, nf_d14, nf_t14, nf_s14, nf_d15, nf_t15, nf_s15, nf_d16, nf_t16, nf_s16, nf_d17, nf_t17, nf_s17, nf_d18, nf_t18, nf_s18, nf_d19, nf_t19, nf_s19, nf_d20, nf_t20, nf_s20]
            refine v_if_ne K 125 dX7_convert_114 (by decide) (fun c114 => ?_) (fun c114 => ?_)
            · refine v_aload_n K dX7_convert_125 rfl ?_
              refine v_get K 0 rfl hasF_c rfl iX7 1 (by decide) rfl (by decide +kernel) rfl dX7_convert_126 ?_
              refine v_aload_n K dX7_convert_129 rfl ?_
              refine v_get K 0 rfl hasF_c rfl iX7 2 (by decide) rfl (by decide +kernel) rfl dX7_convert_130 ?_
              refine v_callVv K [2, 3] (c_X3_copyFrom (XI X) (XB X) _ _ _ _ _ _ _ _ ) rfl gX7_convert_X3_copyFrom rfl rfl hd_X3_copyFrom ⟨rfl, rfl⟩ ⟨by decide, by decide⟩ 2 rfl rowF rfl (by decide) (Nat.le_of_ble_eq_true rfl) ⟨Nat.zero_le _, Nat.zero_le _⟩ rfl dX7_convert_133 ?_
              try dsimp only [Nat.reduceAdd, nf_rep1, nf_rep0, nf_d0, nf_t0, nf_s0, nf_ac, nf_an, nf_d1, nf_t1, nf_s1, nf_d2, nf_t2, nf_s2, nf_d3, nf_t3, nf_s3, nf_d4, nf_t4, nf_s4, nf_d5, nf_t5, nf_s5, nf_d6, nf_t6, nf_s6, nf_d7, nf_t7, nf_s7, nf_d8, nf_t8, nf_s8, nf_d9, nf_t9, nf_s9, nf_d10, nf_t10, nf_s10, nf_d11, nf_t11, nf_s11, nf_d12, nf_t12, nf_s12, nf_d13, nf_t13, nf_s13, nf_d14, nf_t14, nf_s14, nf_d15, nf_t15, nf_s15, nf_d16, nf_t16, nf_s16, nf_d17, nf_t17, nf_s17, nf_d18, nf_t18, nf_s18, nf_d19, nf_t19, nf_s19, nf_d20, nf_t20, nf_s20]
              refine v_aload_n K dX7_convert_136 rfl ?_
              refine v_get K 0 rfl hasF_c rfl iX7 1 (by decide) rfl (by decide +kernel) rfl dX7_convert_137 ?_
              refine v_callVi K [2] (c_X3_size (XI X) (XB X) _ _ _ _ ) rfl gX7_convert_X3_size rfl rfl hd_X3_size ⟨rfl, rfl⟩ ⟨by decide, by decide⟩ 2 rfl rowF rfl (by decide) (Nat.le_of_ble_eq_true rfl) ⟨Nat.zero_le _, Nat.zero_le _⟩ rfl dX7_convert_140 ?_
              try dsimp only [Nat.reduceAdd, nf_rep1, nf_rep0, nf_d0, nf_t0, nf_s0, nf_ac, nf_an, nf_d1, nf_t1, nf_s1, nf_d2, nf_t2, nf_s2, nf_d3, nf_t3, nf_s3, nf_d4, nf_t4, nf_s4, nf_d5, nf_t5, nf_s5, nf_d6, nf_t6, nf_s6, nf_d7, nf_t7, nf_s7, nf_d8, nf_t8, nf_s8, nf_d9, nf_t9, nf_s9, nf_d10, nf_t10, nf_s10, nf_d11, nf_t11, nf_s11, nf_d12, nf_t12, nf_s12, nf_d13, nf_t13, nf_s13, nf_d14, nf_t14, nf_s14, nf_d15, nf_t15, nf_s15, nf_d16, nf_t16, nf_s16, nf_d17, nf_t17, nf_s17, nf_d18, nf_t18, nf_s18, nf_d19, nf_t19, nf_s19, nf_d20, nf_t20, nf_s20]
              refine v_iret K E dX7_convert_143 ?_ (by (simp only [nf_rep1, nf_rep0, nf_d0, nf_t0, nf_s0, nf_ac, nf_an, List.map_cons, List.map_nil, cM_1, rowM_1, rowsM_1, rdM_1, spM_1, bookM_1, svM_1, hiM_1]))
              have hz := hcv
              rw [show sConv (ts, cs, S, SS, hn, hs) true = _ by unfold sConv; rw [← hz0, hz, if_pos ⟨rfl, of_decide_eq_true (bI_1 c114)⟩]]
              exact ⟨rfl, (_, _, (_, _, _, _, _), _, _, _), rfl⟩
            · refine v_aload_n K dX7_convert_117 rfl ?_
              refine v_get K 0 rfl hasF_c rfl iX7 3 (by decide) rfl (by decide +kernel) rfl dX7_convert_118 ?_
              refine v_callVi K [4] (c_X2_fault (XI X) (XB X) _ _ _ _ _ _ _ _ ) rfl gX7_convert_X2_fault rfl rfl hd_X2_fault ⟨rfl, rfl⟩ ⟨by decide, by decide⟩ 4 rfl hasF_c rfl (by decide) (Nat.le_of_ble_eq_true rfl) ⟨Nat.zero_le _, Nat.zero_le _⟩ rfl dX7_convert_121 ?_
              try dsimp only [Nat.reduceAdd, nf_rep1, nf_rep0, nf_d0, nf_t0, nf_s0, nf_ac, nf_an, nf_d1, nf_t1, nf_s1, nf_d2, nf_t2, nf_s2, nf_d3, nf_t3, nf_s3, nf_d4, nf_t4, nf_s4, nf_d5, nf_t5, nf_s5, nf_d6, nf_t6, nf_s6, nf_d7, nf_t7, nf_s7, nf_d8, nf_t8, nf_s8, nf_d9, nf_t9, nf_s9, nf_d10, nf_t10, nf_s10, nf_d11, nf_t11, nf_s11, nf_d12, nf_t12, nf_s12, nf_d13, nf_t13, nf_s13, nf_d14, nf_t14, nf_s14, nf_d15, nf_t15, nf_s15, nf_d16, nf_t16, nf_s16, nf_d17, nf_t17, nf_s17, nf_d18, nf_t18, nf_s18, nf_d19, nf_t19, nf_s19, nf_d20, nf_t20, nf_s20]
              refine v_iret K E dX7_convert_124 ?_ (by (simp only [nf_rep1, nf_rep0, nf_d0, nf_t0, nf_s0, nf_ac, nf_an, List.map_cons, List.map_nil, cM_1, rowM_1, rowsM_1, rdM_1, spM_1, bookM_1, svM_1, hiM_1]))
              have hz := hcv
              rw [show sConv (ts, cs, S, SS, hn, hs) true = _ by unfold sConv; rw [← hz0, hz, if_neg (fun z => (of_decide_eq_false (bI_0 c114)) z.2)]]
              exact ⟨rfl, (_, _, (_, _, _, _, _), _, _, _), rfl⟩
      · have hcv := cvF_0 (S := S) (ns := ns2) hlt (Nat.le_zero.mp (Nat.not_lt.mp (of_decide_eq_false (bI_0 c42))))
        refine v_aload_n K dX7_convert_45 rfl ?_
        refine v_get K 0 rfl hasF_c rfl iX7 3 (by decide) rfl (by decide +kernel) rfl dX7_convert_46 ?_
        refine v_callVi K [4] (c_X2_fault (XI X) (XB X) _ _ _ _ _ _ _ _ ) rfl gX7_convert_X2_fault rfl rfl hd_X2_fault ⟨rfl, rfl⟩ ⟨by decide, by decide⟩ 4 rfl hasF_c rfl (by decide) (Nat.le_of_ble_eq_true rfl) ⟨Nat.zero_le _, Nat.zero_le _⟩ rfl dX7_convert_49 ?_
        try dsimp only [Nat.reduceAdd, nf_rep1, nf_rep0, nf_d0, nf_t0, nf_s0, nf_ac, nf_an, nf_d1, nf_t1, nf_s1, nf_d2, nf_t2, nf_s2, nf_d3, nf_t3, nf_s3, nf_d4, nf_t4, nf_s4, nf_d5, nf_t5, nf_s5, nf_d6, nf_t6, nf_s6, nf_d7, nf_t7, nf_s7, nf_d8, nf_t8, nf_s8, nf_d9, nf_t9, nf_s9, nf_d10, nf_t10, nf_s10, nf_d11, nf_t11, nf_s11, nf_d12, nf_t12, nf_s12, nf_d13, nf_t13, nf_s13, nf_d14, nf_t14, nf_s14, nf_d15, nf_t15, nf_s15, nf_d16, nf_t16, nf_s16, nf_d17, nf_t17, nf_s17, nf_d18, nf_t18, nf_s18, nf_d19, nf_t19, nf_s19, nf_d20, nf_t20, nf_s20]
        refine v_iret K E dX7_convert_52 ?_ (by (simp only [nf_rep1, nf_rep0, nf_d0, nf_t0, nf_s0, nf_ac, nf_an, List.map_cons, List.map_nil, cM_1, rowM_1, rowsM_1, rdM_1, spM_1, bookM_1, svM_1, hiM_1]))
        have hz := hcv
        rw [show sConv (ts, cs, S, SS, hn, hs) b = _ by unfold sConv; rw [← hz0, hz, if_neg (fun z => Bool.false_ne_true z.1)]]
        exact ⟨rfl, (_, _, (_, _, _, _, _), _, _, _), rfl⟩
  refine v_aload_n K dX7_convert_0 rfl ?_
  refine v_get K 0 rfl hasF_c rfl iX7 2 (by decide) rfl (by decide +kernel) rfl dX7_convert_1 ?_
  refine v_callVv K [3] (c_X3_clear (XI X) (XB X) _ _ _ _ ) rfl gX7_convert_X3_clear rfl rfl hd_X3_clear ⟨rfl, rfl⟩ ⟨by decide, by decide⟩ 3 rfl rowF rfl (by decide) (Nat.le_of_ble_eq_true rfl) ⟨Nat.zero_le _, Nat.zero_le _⟩ rfl dX7_convert_4 ?_
  try dsimp only [Nat.reduceAdd, nf_rep1, nf_rep0, nf_d0, nf_t0, nf_s0, nf_ac, nf_an, nf_d1, nf_t1, nf_s1, nf_d2, nf_t2, nf_s2, nf_d3, nf_t3, nf_s3, nf_d4, nf_t4, nf_s4, nf_d5, nf_t5, nf_s5, nf_d6, nf_t6, nf_s6, nf_d7, nf_t7, nf_s7, nf_d8, nf_t8, nf_s8, nf_d9, nf_t9, nf_s9, nf_d10, nf_t10, nf_s10, nf_d11, nf_t11, nf_s11, nf_d12, nf_t12, nf_s12, nf_d13, nf_t13, nf_s13, nf_d14, nf_t14, nf_s14, nf_d15, nf_t15, nf_s15, nf_d16, nf_t16, nf_s16, nf_d17, nf_t17, nf_s17, nf_d18, nf_t18, nf_s18, nf_d19, nf_t19, nf_s19, nf_d20, nf_t20, nf_s20]
  refine v_aload_n K dX7_convert_7 rfl ?_
  refine v_get K 0 rfl hasF_c rfl iX7 3 (by decide) rfl (by decide +kernel) rfl dX7_convert_8 ?_
  refine v_callVv K [4] (c_X2_begin (XI X) (XB X) _ _ _ _ _ _ _ _ ) rfl gX7_convert_X2_begin rfl rfl hd_X2_begin ⟨rfl, rfl⟩ ⟨by decide, by decide⟩ 4 rfl hasF_c rfl (by decide) (Nat.le_of_ble_eq_true rfl) ⟨Nat.zero_le _, Nat.zero_le _⟩ rfl dX7_convert_11 ?_
  try dsimp only [Nat.reduceAdd, nf_rep1, nf_rep0, nf_d0, nf_t0, nf_s0, nf_ac, nf_an, nf_d1, nf_t1, nf_s1, nf_d2, nf_t2, nf_s2, nf_d3, nf_t3, nf_s3, nf_d4, nf_t4, nf_s4, nf_d5, nf_t5, nf_s5, nf_d6, nf_t6, nf_s6, nf_d7, nf_t7, nf_s7, nf_d8, nf_t8, nf_s8, nf_d9, nf_t9, nf_s9, nf_d10, nf_t10, nf_s10, nf_d11, nf_t11, nf_s11, nf_d12, nf_t12, nf_s12, nf_d13, nf_t13, nf_s13, nf_d14, nf_t14, nf_s14, nf_d15, nf_t15, nf_s15, nf_d16, nf_t16, nf_s16, nf_d17, nf_t17, nf_s17, nf_d18, nf_t18, nf_s18, nf_d19, nf_t19, nf_s19, nf_d20, nf_t20, nf_s20]
  refine v_iload_n K dX7_convert_14 rfl ?_
  refine v_if_eq K 23 dX7_convert_15 (by decide) (fun c15 => ?_) (fun c15 => ?_)
  · refine v_bipush K (12) dX7_convert_23 (by decide) ?_
    rw [show (12 : Int32) = nI (cvm b) by unfold cvm; rw [if_neg (by rw [bI_0 c15]; exact Bool.false_ne_true)] <;> rfl]
    refine v_istore_n K dX7_convert_25 (by decide) ?_
    refine v_iconst K (0) dX7_convert_26 (by decide) ?_
    refine v_istore_n K dX7_convert_27 (by decide) ?_
    exact v_j (lp 0 (Nat.zero_le _) 0 0 [] xs T rfl (Nat.zero_le _) rfl) rfl rfl rfl
  · refine v_bipush K (24) dX7_convert_18 (by decide) ?_
    refine v_goto K 25 dX7_convert_20 (by decide) ?_
    rw [show (24 : Int32) = nI (cvm b) by unfold cvm; rw [if_pos (bI_1 c15)] <;> rfl]
    refine v_istore_n K dX7_convert_25 (by decide) ?_
    refine v_iconst K (0) dX7_convert_26 (by decide) ?_
    refine v_istore_n K dX7_convert_27 (by decide) ?_
    exact v_j (lp 0 (Nat.zero_le _) 0 0 [] xs T rfl (Nat.zero_le _) rfl) rfl rfl rfl

theorem hd_X7_readEntries : yX7_readEntries.cls = RX7 ∧ yX7_readEntries.cls ≠ "java/lang/invoke/MethodHandle" ∧ yX7_readEntries.cls ≠ "java/lang/invoke/VarHandle" ∧ (parseMethodDescriptor yX7_readEntries.desc).map (fun d => d.parameters.length) = some 0 := by decide +kernel
set_option maxHeartbeats 4000000 in
set_option maxRecDepth 100000 in
theorem c_X7_readEntries (cI cB : ClassId) (a : Nat → Nat) (g HB : Nat → Nat → Nat) (ts cs : List Int32) (S SS : Bk) (hn : Bool) (hs : List Bk) (ns xs : List Int32) (P e s d k : Int32) (T : T4) (D : Bk) (w : Sv)  : Ct cI cB yX7_readEntries wsX7_readEntries { frames := 6, cells := 0, slots := 0, locals := 142 } [.ref (a 0)] [cM (a 0) (.inr (7, [.ref (a 1), .ref (a 3), .ref (a 5), .ref (a 7), .ref (g 0 0), .ref (g 1 0), .ref (g 2 0), .ref (g 3 0), .int (bI hn), .ref (a 10), .ref (g 4 0), .ref (g 5 0)])), rowM cI (a 1) (a 2) 60 ts, rowM cI (a 3) (a 4) 400 cs, rowM cI (a 5) (a 6) 400 ns, rdM (a 7) (a 8) (a 1) P e s d k, rowM cI (a 8) (a 9) 25 xs, spM cI (g 0) T, bookM cI (g 1) 30 20 S, bookM cI (g 2) 60 50 D, bookM cI (g 3) 30 20 SS, hiM cI cB (a 10) (a 11) HB hs, svM cI (g 4) (svy S), svM cI (g 5) w] (po cI cB a g HB (sRead (ts, cs, S, SS, hn, hs) (e, s, d, k, xs)).1 (sRead (ts, cs, S, SS, hn, hs) (e, s, d, k, xs)).2) := by
  refine ct_of (cc := cX7_readEntries) (maxL := 4) (ret := (some .int)) (by decide) rfl (Nat.le_of_ble_eq_true rfl) [(0, .ref (a 0))] rfl ?_
  intro X hI hB K E
  subst hI
  subst hB
  have iX7 : ∀ w ∈ u_ws RX7 TX7 12, w ∈ wsX7_readEntries := by decide +kernel
  refine v_rowlen 1 rfl (fun hT => ?_)
  have lp : ∀ k2, k2 ≤ 60 → ∀ (x : Int32) (P2 : Nat) (e2 s2 d2 k3 : Int32) (xs2 : List Int32) (D2 : Bk) (nw : Bool) (n : Nat), x = nI k2 → P2 ≤ ts.length → reF ts (60 - k2) (P2, e2, s2, d2, k3, xs2) D2 nw n = reF ts 60 (0, e, s, d, k, xs) (cpB 60 50 S) true 0 → V X 0 0 24 [(0, .ref (a 0)), (1, .int (bI nw)), (2, .int (nI n)), (3, .int x)] [] [cM (a 0) (.inr (7, [.ref (a 1), .ref (a 3), .ref (a 5), .ref (a 7), .ref (g 0 0), .ref (g 1 0), .ref (g 2 0), .ref (g 3 0), .int (bI hn), .ref (a 10), .ref (g 4 0), .ref (g 5 0)])), rowM (XI X) (a 1) (a 2) 60 ts, rowM (XI X) (a 3) (a 4) 400 cs, rowM (XI X) (a 5) (a 6) 400 ns, rdM (a 7) (a 8) (a 1) (nI P2) e2 s2 d2 k3, rowM (XI X) (a 8) (a 9) 25 xs2, spM (XI X) (g 0) T, bookM (XI X) (g 1) 30 20 S, bookM (XI X) (g 2) 60 50 D2, bookM (XI X) (g 3) 30 20 SS, hiM (XI X) (XB X) (a 10) (a 11) HB hs, svM (XI X) (g 4) (svy S), svM (XI X) (g 5) w] := by
    refine loop_up 60 ?_
    intro k2 hk ih x P2 e2 s2 d2 k3 xs2 D2 nw n hx hP hz0
    subst hx
    refine v_iload_n K dX7_readEntries_24 rfl ?_
    refine v_bipush K (60) dX7_readEntries_25 (by decide) ?_
    refine v_ic_ge K 96 dX7_readEntries_27 (by decide) (fun c27 => ?_) (fun c27 => ?_)
    · have hcv : reF ts (60 - k2) (P2, e2, s2, d2, k3, xs2) D2 nw n = (true, (P2, e2, s2, d2, k3, xs2), D2, nw, n) := by rw [up_end rfl (by decide) hk c27]; rfl
      refine v_aload_n K dX7_readEntries_96 rfl ?_
      refine v_get K 0 rfl hasF_c rfl iX7 3 (by decide) rfl (by decide +kernel) rfl dX7_readEntries_97 ?_
      refine v_callVi K [4, 1] (c_X2_isAtEnd (XI X) (XB X) _ _ _ _ _ _ _ _ _ _ _ ?hc100_0_1) rfl gX7_readEntries_X2_isAtEnd rfl rfl hd_X2_isAtEnd ⟨rfl, rfl⟩ ⟨by decide, by decide⟩ 4 rfl hasF_c rfl (by decide) (Nat.le_of_ble_eq_true rfl) ⟨Nat.zero_le _, Nat.zero_le _⟩ rfl dX7_readEntries_100 ?_
      case hc100_0_1 => first | exact hP | exact tk_le (tEnt_le hP) (by decide)
      try dsimp only [Nat.reduceAdd, nf_rep1, nf_rep0, nf_d0, nf_t0, nf_s0, nf_ac, nf_an, nf_d1, nf_t1, nf_s1, nf_d2, nf_t2, nf_s2, nf_d3, nf_t3, nf_s3, nf_d4, nf_t4, nf_s4, nf_d5, nf_t5, nf_s5, nf_d6, nf_t6, nf_s6, nf_d7, nf_t7, nf_s7, nf_d8, nf_t8, nf_s8, nf_d9, nf_t9, nf_s9, nf_d10, nf_t10, nf_s10, nf_d11, nf_t11, nf_s11, nf_d12, nf_t12, nf_s12, nf_d13, nf_t13, nf_s13, nf_d14, nf_t14, nf_s14, nf_d15, nf_t15, nf_s15, nf_d16, nf_t16, nf_s16, nf_d17, nf_t17, nf_s17, nf_d18, nf_t18, nf_s18, nf_d19, nf_t19, nf_s19, nf_d20, nf_t20, nf_s20]
      refine v_if_ne K 114 dX7_readEntries_103 (by decide) (fun c103 => ?_) (fun c103 => ?_)
      · refine v_iload_n K dX7_readEntries_114 rfl ?_
        refine v_if_ne K 121 dX7_readEntries_115 (by decide) (fun c115 => ?_) (fun c115 => ?_)
        · refine v_aload_n K dX7_readEntries_121 rfl ?_
          refine v_get K 0 rfl hasF_c rfl iX7 6 (by decide) rfl (by decide +kernel) rfl dX7_readEntries_122 ?_
          refine v_callVi K [8] (c_X0_rules (XI X) (XB X) _ _ _ _ ) rfl gX7_readEntries_X0_rules rfl rfl hd_X0_rules ⟨rfl, rfl⟩ ⟨by decide, by decide⟩ 8 rfl bookF rfl (by decide) (Nat.le_of_ble_eq_true rfl) ⟨Nat.zero_le _, Nat.zero_le _⟩ rfl dX7_readEntries_125 ?_
          try dsimp only [Nat.reduceAdd, nf_rep1, nf_rep0, nf_d0, nf_t0, nf_s0, nf_ac, nf_an, nf_d1, nf_t1, nf_s1, nf_d2, nf_t2, nf_s2, nf_d3, nf_t3, nf_s3, nf_d4, nf_t4, nf_s4, nf_d5, nf_t5, nf_s5, nf_d6, nf_t6, nf_s6, nf_d7, nf_t7, nf_s7, nf_d8, nf_t8, nf_s8, nf_d9, nf_t9, nf_s9, nf_d10, nf_t10, nf_s10, nf_d11, nf_t11, nf_s11, nf_d12, nf_t12, nf_s12, nf_d13, nf_t13, nf_s13, nf_d14, nf_t14, nf_s14, nf_d15, nf_t15, nf_s15, nf_d16, nf_t16, nf_s16, nf_d17, nf_t17, nf_s17, nf_d18, nf_t18, nf_s18, nf_d19, nf_t19, nf_s19, nf_d20, nf_t20, nf_s20]
          refine v_bipush K (30) dX7_readEntries_128 (by decide) ?_
          refine v_ic_gt K 145 dX7_readEntries_130 (by decide) (fun c130 => ?_) (fun c130 => ?_)
          · refine v_bipush K (-3) dX7_readEntries_145 (by decide) ?_
            refine v_iret K E dX7_readEntries_147 ?_ (by (simp only [nf_rep1, nf_rep0, nf_d0, nf_t0, nf_s0, nf_ac, nf_an, List.map_cons, List.map_nil, cM_1, rowM_1, rowsM_1, rdM_1, spM_1, bookM_1, svM_1, hiM_1]))
            have hz := (congrArg (sRead2 (ts, cs, S, SS, hn, hs)) (hz0.symm.trans hcv)).trans (sRd_3 rfl (of_decide_eq_true (bI_1 c103)) (bI_1 c115) (fun z => Int32.not_le.mpr c130 z.1))
            rw [show sRead (ts, cs, S, SS, hn, hs) (e, s, d, k, xs) = _ from hz]
            exact ⟨rfl, (_, _, (_, _, _, _, _), _, _, _), rfl⟩
          · refine v_aload_n K dX7_readEntries_133 rfl ?_
            refine v_get K 0 rfl hasF_c rfl iX7 6 (by decide) rfl (by decide +kernel) rfl dX7_readEntries_134 ?_
            refine v_callVi K [8] (c_X0_words (XI X) (XB X) _ _ _ _ ) rfl gX7_readEntries_X0_words rfl rfl hd_X0_words ⟨rfl, rfl⟩ ⟨by decide, by decide⟩ 8 rfl bookF rfl (by decide) (Nat.le_of_ble_eq_true rfl) ⟨Nat.zero_le _, Nat.zero_le _⟩ rfl dX7_readEntries_137 ?_
            try dsimp only [Nat.reduceAdd, nf_rep1, nf_rep0, nf_d0, nf_t0, nf_s0, nf_ac, nf_an, nf_d1, nf_t1, nf_s1, nf_d2, nf_t2, nf_s2, nf_d3, nf_t3, nf_s3, nf_d4, nf_t4, nf_s4, nf_d5, nf_t5, nf_s5, nf_d6, nf_t6, nf_s6, nf_d7, nf_t7, nf_s7, nf_d8, nf_t8, nf_s8, nf_d9, nf_t9, nf_s9, nf_d10, nf_t10, nf_s10, nf_d11, nf_t11, nf_s11, nf_d12, nf_t12, nf_s12, nf_d13, nf_t13, nf_s13, nf_d14, nf_t14, nf_s14, nf_d15, nf_t15, nf_s15, nf_d16, nf_t16, nf_s16, nf_d17, nf_t17, nf_s17, nf_d18, nf_t18, nf_s18, nf_d19, nf_t19, nf_s19, nf_d20, nf_t20, nf_s20]
            refine v_bipush K (20) dX7_readEntries_140 (by decide) ?_
            refine v_ic_le K 148 dX7_readEntries_142 (by decide) (fun c142 => ?_) (fun c142 => ?_)
            · refine v_aload_n K dX7_readEntries_148 rfl ?_
              refine v_get K 0 rfl hasF_c rfl iX7 9 (by decide) rfl (by decide +kernel) rfl dX7_readEntries_149 ?_
              refine v_aload_n K dX7_readEntries_152 rfl ?_
              refine v_get K 0 rfl hasF_c rfl iX7 5 (by decide) rfl (by decide +kernel) rfl dX7_readEntries_153 ?_
              refine v_callVv K [10, 7] (c_X1_record (XI X) (XB X) _ _ _ _ _ _ _ _ ) rfl gX7_readEntries_X1_record rfl rfl hd_X1_record ⟨rfl, rfl⟩ ⟨by decide, by decide⟩ 10 rfl hiF rfl (by decide) (Nat.le_of_ble_eq_true rfl) ⟨Nat.zero_le _, Nat.zero_le _⟩ rfl dX7_readEntries_156 ?_
              try dsimp only [Nat.reduceAdd, nf_rep1, nf_rep0, nf_d0, nf_t0, nf_s0, nf_ac, nf_an, nf_d1, nf_t1, nf_s1, nf_d2, nf_t2, nf_s2, nf_d3, nf_t3, nf_s3, nf_d4, nf_t4, nf_s4, nf_d5, nf_t5, nf_s5, nf_d6, nf_t6, nf_s6, nf_d7, nf_t7, nf_s7, nf_d8, nf_t8, nf_s8, nf_d9, nf_t9, nf_s9, nf_d10, nf_t10, nf_s10, nf_d11, nf_t11, nf_s11, nf_d12, nf_t12, nf_s12, nf_d13, nf_t13, nf_s13, nf_d14, nf_t14, nf_s14, nf_d15, nf_t15, nf_s15, nf_d16, nf_t16, nf_s16, nf_d17, nf_t17, nf_s17, nf_d18, nf_t18, nf_s18, nf_d19, nf_t19, nf_s19, nf_d20, nf_t20, nf_s20]
              refine v_aload_n K dX7_readEntries_159 rfl ?_
              refine v_get K 0 rfl hasF_c rfl iX7 5 (by decide) rfl (by decide +kernel) rfl dX7_readEntries_160 ?_
              refine v_aload_n K dX7_readEntries_163 rfl ?_
              refine v_get K 0 rfl hasF_c rfl iX7 6 (by decide) rfl (by decide +kernel) rfl dX7_readEntries_164 ?_
              refine v_callVv K [7, 8] (c_X0_copyFrom (XI X) (XB X) _ _ _ _ _ _ _ _ ) rfl gX7_readEntries_X0_copyFrom rfl rfl hd_X0_copyFrom ⟨rfl, rfl⟩ ⟨by decide, by decide⟩ 7 rfl bookF rfl (by decide) (Nat.le_of_ble_eq_true rfl) ⟨Nat.zero_le _, Nat.zero_le _⟩ rfl dX7_readEntries_167 ?_
              try dsimp only [Nat.reduceAdd, nf_rep1, nf_rep0, nf_d0, nf_t0, nf_s0, nf_ac, nf_an, nf_d1, nf_t1, nf_s1, nf_d2, nf_t2, nf_s2, nf_d3, nf_t3, nf_s3, nf_d4, nf_t4, nf_s4, nf_d5, nf_t5, nf_s5, nf_d6, nf_t6, nf_s6, nf_d7, nf_t7, nf_s7, nf_d8, nf_t8, nf_s8, nf_d9, nf_t9, nf_s9, nf_d10, nf_t10, nf_s10, nf_d11, nf_t11, nf_s11, nf_d12, nf_t12, nf_s12, nf_d13, nf_t13, nf_s13, nf_d14, nf_t14, nf_s14, nf_d15, nf_t15, nf_s15, nf_d16, nf_t16, nf_s16, nf_d17, nf_t17, nf_s17, nf_d18, nf_t18, nf_s18, nf_d19, nf_t19, nf_s19, nf_d20, nf_t20, nf_s20]
              refine v_aload_n K dX7_readEntries_170 rfl ?_
              refine v_get K 0 rfl hasF_c rfl iX7 10 (by decide) rfl (by decide +kernel) rfl dX7_readEntries_171 ?_
              refine v_aload_n K dX7_readEntries_174 rfl ?_
              refine v_get K 0 rfl hasF_c rfl iX7 5 (by decide) rfl (by decide +kernel) rfl dX7_readEntries_175 ?_
              refine v_callVv K [11, 7] (c_X6_renew (XI X) (XB X) _ _ _ _ _ _ ) rfl gX7_readEntries_X6_renew rfl rfl hd_X6_renew ⟨rfl, rfl⟩ ⟨by decide, by decide⟩ 11 rfl svF rfl (by decide) (Nat.le_of_ble_eq_true rfl) ⟨Nat.zero_le _, Nat.zero_le _⟩ rfl dX7_readEntries_178 ?_
              try dsimp only [Nat.reduceAdd, nf_rep1, nf_rep0, nf_d0, nf_t0, nf_s0, nf_ac, nf_an, nf_d1, nf_t1, nf_s1, nf_d2, nf_t2, nf_s2, nf_d3, nf_t3, nf_s3, nf_d4, nf_t4, nf_s4, nf_d5, nf_t5, nf_s5, nf_d6, nf_t6, nf_s6, nf_d7, nf_t7, nf_s7, nf_d8, nf_t8, nf_s8, nf_d9, nf_t9, nf_s9, nf_d10, nf_t10, nf_s10, nf_d11, nf_t11, nf_s11, nf_d12, nf_t12, nf_s12, nf_d13, nf_t13, nf_s13, nf_d14, nf_t14, nf_s14, nf_d15, nf_t15, nf_s15, nf_d16, nf_t16, nf_s16, nf_d17, nf_t17, nf_s17, nf_d18, nf_t18, nf_s18, nf_d19, nf_t19, nf_s19, nf_d20, nf_t20, nf_s20]
              refine v_iload_n K dX7_readEntries_181 rfl ?_
              refine v_iret K E dX7_readEntries_182 ?_ (by (simp only [nf_rep1, nf_rep0, nf_d0, nf_t0, nf_s0, nf_ac, nf_an, List.map_cons, List.map_nil, cM_1, rowM_1, rowsM_1, rdM_1, spM_1, bookM_1, svM_1, hiM_1]))
              have hz := (congrArg (sRead2 (ts, cs, S, SS, hn, hs)) (hz0.symm.trans hcv)).trans (sRd_1 rfl (of_decide_eq_true (bI_1 c103)) (bI_1 c115) ⟨Int32.not_lt.mp c130, c142⟩)
              rw [show sRead (ts, cs, S, SS, hn, hs) (e, s, d, k, xs) = _ from hz]
              exact ⟨rfl, (_, _, (_, _, _, _, _), _, _, _), rfl⟩
            · refine v_bipush K (-3) dX7_readEntries_145 (by decide) ?_
              refine v_iret K E dX7_readEntries_147 ?_ (by (simp only [nf_rep1, nf_rep0, nf_d0, nf_t0, nf_s0, nf_ac, nf_an, List.map_cons, List.map_nil, cM_1, rowM_1, rowsM_1, rdM_1, spM_1, bookM_1, svM_1, hiM_1]))
              have hz := (congrArg (sRead2 (ts, cs, S, SS, hn, hs)) (hz0.symm.trans hcv)).trans (sRd_3 rfl (of_decide_eq_true (bI_1 c103)) (bI_1 c115) (fun z => c142 z.2))
              rw [show sRead (ts, cs, S, SS, hn, hs) (e, s, d, k, xs) = _ from hz]
              exact ⟨rfl, (_, _, (_, _, _, _, _), _, _, _), rfl⟩
        · refine v_bipush K (-4) dX7_readEntries_118 (by decide) ?_
          refine v_iret K E dX7_readEntries_120 ?_ (by (simp only [nf_rep1, nf_rep0, nf_d0, nf_t0, nf_s0, nf_ac, nf_an, List.map_cons, List.map_nil, cM_1, rowM_1, rowsM_1, rdM_1, spM_1, bookM_1, svM_1, hiM_1]))
          have hz := (congrArg (sRead2 (ts, cs, S, SS, hn, hs)) (hz0.symm.trans hcv)).trans (sRd_4 rfl (of_decide_eq_true (bI_1 c103)) (bI_0 c115))
          rw [show sRead (ts, cs, S, SS, hn, hs) (e, s, d, k, xs) = _ from hz]
          exact ⟨rfl, (_, _, (_, _, _, _, _), _, _, _), rfl⟩
      · refine v_aload_n K dX7_readEntries_106 rfl ?_
        refine v_get K 0 rfl hasF_c rfl iX7 3 (by decide) rfl (by decide +kernel) rfl dX7_readEntries_107 ?_
        refine v_callVi K [4] (c_X2_fault (XI X) (XB X) _ _ _ _ _ _ _ _ ) rfl gX7_readEntries_X2_fault rfl rfl hd_X2_fault ⟨rfl, rfl⟩ ⟨by decide, by decide⟩ 4 rfl hasF_c rfl (by decide) (Nat.le_of_ble_eq_true rfl) ⟨Nat.zero_le _, Nat.zero_le _⟩ rfl dX7_readEntries_110 ?_
        try dsimp only [Nat.reduceAdd, nf_rep1, nf_rep0, nf_d0, nf_t0, nf_s0, nf_ac, nf_an, nf_d1, nf_t1, nf_s1, nf_d2, nf_t2, nf_s2, nf_d3, nf_t3, nf_s3, nf_d4, nf_t4, nf_s4, nf_d5, nf_t5, nf_s5, nf_d6, nf_t6, nf_s6, nf_d7, nf_t7, nf_s7, nf_d8, nf_t8, nf_s8, nf_d9, nf_t9, nf_s9, nf_d10, nf_t10, nf_s10, nf_d11, nf_t11, nf_s11, nf_d12, nf_t12, nf_s12, nf_d13, nf_t13, nf_s13, nf_d14, nf_t14, nf_s14, nf_d15, nf_t15, nf_s15, nf_d16, nf_t16, nf_s16, nf_d17, nf_t17, nf_s17, nf_d18, nf_t18, nf_s18, nf_d19, nf_t19, nf_s19, nf_d20, nf_t20, nf_s20]
        refine v_iret K E dX7_readEntries_113 ?_ (by (simp only [nf_rep1, nf_rep0, nf_d0, nf_t0, nf_s0, nf_ac, nf_an, List.map_cons, List.map_nil, cM_1, rowM_1, rowsM_1, rdM_1, spM_1, bookM_1, svM_1, hiM_1]))
        have hz := (congrArg (sRead2 (ts, cs, S, SS, hn, hs)) (hz0.symm.trans hcv)).trans (sRd_f2 (of_decide_eq_false (bI_0 c103)))
        rw [show sRead (ts, cs, S, SS, hn, hs) (e, s, d, k, xs) = _ from hz]
        exact ⟨rfl, (_, _, (_, _, _, _, _), _, _, _), rfl⟩
    · have hlt := up_lt rfl (by decide) hk c27
      refine v_aload_n K dX7_readEntries_30 rfl ?_
      refine v_get K 0 rfl hasF_c rfl iX7 3 (by decide) rfl (by decide +kernel) rfl dX7_readEntries_31 ?_
      refine v_callVi K [4, 5, 1] (c_X2_takeEntry (XI X) (XB X) _ _ _ _ _ _ _ _ _ _ _ _ _ ?hc34_0_8) rfl gX7_readEntries_X2_takeEntry rfl rfl hd_X2_takeEntry ⟨rfl, rfl⟩ ⟨by decide, by decide⟩ 4 rfl hasF_c rfl (by decide) (Nat.le_of_ble_eq_true rfl) ⟨Nat.zero_le _, Nat.zero_le _⟩ rfl dX7_readEntries_34 ?_
      case hc34_0_8 => exact hP
      try dsimp only [Nat.reduceAdd, nf_rep1, nf_rep0, nf_d0, nf_t0, nf_s0, nf_ac, nf_an, nf_d1, nf_t1, nf_s1, nf_d2, nf_t2, nf_s2, nf_d3, nf_t3, nf_s3, nf_d4, nf_t4, nf_s4, nf_d5, nf_t5, nf_s5, nf_d6, nf_t6, nf_s6, nf_d7, nf_t7, nf_s7, nf_d8, nf_t8, nf_s8, nf_d9, nf_t9, nf_s9, nf_d10, nf_t10, nf_s10, nf_d11, nf_t11, nf_s11, nf_d12, nf_t12, nf_s12, nf_d13, nf_t13, nf_s13, nf_d14, nf_t14, nf_s14, nf_d15, nf_t15, nf_s15, nf_d16, nf_t16, nf_s16, nf_d17, nf_t17, nf_s17, nf_d18, nf_t18, nf_s18, nf_d19, nf_t19, nf_s19, nf_d20, nf_t20, nf_s20]
      refine v_if_ne K 48 dX7_readEntries_37 (by decide) (fun c37 => ?_) (fun c37 => ?_)
      · refine v_aload_n K dX7_readEntries_48 rfl ?_
        refine v_get K 0 rfl hasF_c rfl iX7 6 (by decide) rfl (by decide +kernel) rfl dX7_readEntries_49 ?_
        refine v_aload_n K dX7_readEntries_52 rfl ?_
        refine v_get K 0 rfl hasF_c rfl iX7 3 (by decide) rfl (by decide +kernel) rfl dX7_readEntries_53 ?_
        refine v_callVi K [8, 4, 5] (c_X0_addEntry (XI X) (XB X) _ _ _ _ _ _ _ _ _ _ _ _ _ _ ) rfl gX7_readEntries_X0_addEntry rfl rfl hd_X0_addEntry ⟨rfl, rfl⟩ ⟨by decide, by decide⟩ 8 rfl bookF rfl (by decide) (Nat.le_of_ble_eq_true rfl) ⟨Nat.zero_le _, Nat.zero_le _⟩ rfl dX7_readEntries_56 ?_
        try dsimp only [Nat.reduceAdd, nf_rep1, nf_rep0, nf_d0, nf_t0, nf_s0, nf_ac, nf_an, nf_d1, nf_t1, nf_s1, nf_d2, nf_t2, nf_s2, nf_d3, nf_t3, nf_s3, nf_d4, nf_t4, nf_s4, nf_d5, nf_t5, nf_s5, nf_d6, nf_t6, nf_s6, nf_d7, nf_t7, nf_s7, nf_d8, nf_t8, nf_s8, nf_d9, nf_t9, nf_s9, nf_d10, nf_t10, nf_s10, nf_d11, nf_t11, nf_s11, nf_d12, nf_t12, nf_s12, nf_d13, nf_t13, nf_s13, nf_d14, nf_t14, nf_s14, nf_d15, nf_t15, nf_s15, nf_d16, nf_t16, nf_s16, nf_d17, nf_t17, nf_s17, nf_d18, nf_t18, nf_s18, nf_d19, nf_t19, nf_s19, nf_d20, nf_t20, nf_s20]
        refine v_if_eq K 70 dX7_readEntries_59 (by decide) (fun c59 => ?_) (fun c59 => ?_)
        · refine v_iconst K (0) dX7_readEntries_70 (by decide) ?_
          have hnw : (newEnt D2 (tEntry ts (P2, e2, s2, d2, k3, xs2)).2.2.2.2.2.2 (tEntry ts (P2, e2, s2, d2, k3, xs2)).2.2.1 (tEntry ts (P2, e2, s2, d2, k3, xs2)).2.2.2.2.1 && nw) = false := and_f1 c59
          refine v_istore_n K dX7_readEntries_71 (by decide) ?_
          refine v_iinc K dX7_readEntries_72 rfl (by decide) iinc_1 ?_
          refine v_aload_n K dX7_readEntries_75 rfl ?_
          refine v_get K 0 rfl hasF_c rfl iX7 3 (by decide) rfl (by decide +kernel) rfl dX7_readEntries_76 ?_
          refine v_bipush K (44) dX7_readEntries_79 (by decide) ?_
          refine v_callVi K [4, 1] (c_X2_take (XI X) (XB X) _ _ _ _ _ _ _ _ _ _ _ _ ?hc81_0_10) rfl gX7_readEntries_X2_take rfl rfl hd_X2_take ⟨rfl, rfl⟩ ⟨by decide, by decide⟩ 4 rfl hasF_c rfl (by decide) (Nat.le_of_ble_eq_true rfl) ⟨Nat.zero_le _, Nat.zero_le _⟩ rfl dX7_readEntries_81 ?_
          case hc81_0_10 => exact tEnt_le hP
          try dsimp only [Nat.reduceAdd, nf_rep1, nf_rep0, nf_d0, nf_t0, nf_s0, nf_ac, nf_an, nf_d1, nf_t1, nf_s1, nf_d2, nf_t2, nf_s2, nf_d3, nf_t3, nf_s3, nf_d4, nf_t4, nf_s4, nf_d5, nf_t5, nf_s5, nf_d6, nf_t6, nf_s6, nf_d7, nf_t7, nf_s7, nf_d8, nf_t8, nf_s8, nf_d9, nf_t9, nf_s9, nf_d10, nf_t10, nf_s10, nf_d11, nf_t11, nf_s11, nf_d12, nf_t12, nf_s12, nf_d13, nf_t13, nf_s13, nf_d14, nf_t14, nf_s14, nf_d15, nf_t15, nf_s15, nf_d16, nf_t16, nf_s16, nf_d17, nf_t17, nf_s17, nf_d18, nf_t18, nf_s18, nf_d19, nf_t19, nf_s19, nf_d20, nf_t20, nf_s20]
          refine v_if_ne K 90 dX7_readEntries_84 (by decide) (fun c84 => ?_) (fun c84 => ?_)
          · refine v_iinc K dX7_readEntries_90 rfl (by decide) iinc_1 ?_
            refine v_goto K 24 dX7_readEntries_93 (by decide) ?_
            exact v_j (ih hlt _ (tkP ts (tEntry ts (P2, e2, s2, d2, k3, xs2)).2.1 44) (tEntry ts (P2, e2, s2, d2, k3, xs2)).2.2.1 (tEntry ts (P2, e2, s2, d2, k3, xs2)).2.2.2.1 (tEntry ts (P2, e2, s2, d2, k3, xs2)).2.2.2.2.1 (tEntry ts (P2, e2, s2, d2, k3, xs2)).2.2.2.2.2.1 (tEntry ts (P2, e2, s2, d2, k3, xs2)).2.2.2.2.2.2 _ (newEnt D2 (tEntry ts (P2, e2, s2, d2, k3, xs2)).2.2.2.2.2.2 (tEntry ts (P2, e2, s2, d2, k3, xs2)).2.2.1 (tEntry ts (P2, e2, s2, d2, k3, xs2)).2.2.2.2.1 && nw) (n + 1) (nI_1 k2) (tk_le (tEnt_le hP) (by decide)) (by rw [← hz0, reF_1 (n := n) (D := D2) (nw := nw) hlt (bI_1 c37) (bI_1 c84)] <;> rfl)) (by rw [hnw, ← nI_1 n] <;> rfl) rfl rfl
          · refine v_goto K 96 dX7_readEntries_87 (by decide) ?_
            have hcv := reF_2 (n := n) (D := D2) (nw := nw) hlt (bI_1 c37) (bI_0 c84)
            refine v_aload_n K dX7_readEntries_96 rfl ?_
            refine v_get K 0 rfl hasF_c rfl iX7 3 (by decide) rfl (by decide +kernel) rfl dX7_readEntries_97 ?_
            refine v_callVi K [4, 1] (c_X2_isAtEnd (XI X) (XB X) _ _ _ _ _ _ _ _ _ _ _ ?hc100_0_11) rfl gX7_readEntries_X2_isAtEnd rfl rfl hd_X2_isAtEnd ⟨rfl, rfl⟩ ⟨by decide, by decide⟩ 4 rfl hasF_c rfl (by decide) (Nat.le_of_ble_eq_true rfl) ⟨Nat.zero_le _, Nat.zero_le _⟩ rfl dX7_readEntries_100 ?_
            case hc100_0_11 => first | exact hP | exact tk_le (tEnt_le hP) (by decide)
            try dsimp only [Nat.reduceAdd, nf_rep1, nf_rep0, nf_d0, nf_t0, nf_s0, nf_ac, nf_an, nf_d1, nf_t1, nf_s1, nf_d2, nf_t2, nf_s2, nf_d3, nf_t3, nf_s3, nf_d4, nf_t4, nf_s4, nf_d5, nf_t5, nf_s5, nf_d6, nf_t6, nf_s6, nf_d7, nf_t7, nf_s7, nf_d8, nf_t8, nf_s8, nf_d9, nf_t9, nf_s9, nf_d10, nf_t10, nf_s10, nf_d11, nf_t11, nf_s11, nf_d12, nf_t12, nf_s12, nf_d13, nf_t13, nf_s13, nf_d14, nf_t14, nf_s14, nf_d15, nf_t15, nf_s15, nf_d16, nf_t16, nf_s16, nf_d17, nf_t17, nf_s17, nf_d18, nf_t18, nf_s18, nf_d19, nf_t19, nf_s19, nf_d20, nf_t20, nf_s20]
            refine v_if_ne K 114 dX7_readEntries_103 (by decide) (fun c103 => ?_) (fun c103 => ?_)
            · refine v_iload_n K dX7_readEntries_114 rfl ?_
              refine v_if_ne K 121 dX7_readEntries_115 (by decide) (fun c => absurd rfl c) (fun _ => ?_)
              refine v_bipush K (-4) dX7_readEntries_118 (by decide) ?_
              refine v_iret K E dX7_readEntries_120 ?_ (by (simp only [nf_rep1, nf_rep0, nf_d0, nf_t0, nf_s0, nf_ac, nf_an, List.map_cons, List.map_nil, cM_1, rowM_1, rowsM_1, rdM_1, spM_1, bookM_1, svM_1, hiM_1]))
              have hz := (congrArg (sRead2 (ts, cs, S, SS, hn, hs)) (hz0.symm.trans hcv)).trans (sRd_4 rfl (of_decide_eq_true (bI_1 c103)) hnw)
              rw [show sRead (ts, cs, S, SS, hn, hs) (e, s, d, k, xs) = _ from hz]
              exact ⟨rfl, (_, _, (_, _, _, _, _), _, _, _), rfl⟩
            · refine v_aload_n K dX7_readEntries_106 rfl ?_
              refine v_get K 0 rfl hasF_c rfl iX7 3 (by decide) rfl (by decide +kernel) rfl dX7_readEntries_107 ?_
              refine v_callVi K [4] (c_X2_fault (XI X) (XB X) _ _ _ _ _ _ _ _ ) rfl gX7_readEntries_X2_fault rfl rfl hd_X2_fault ⟨rfl, rfl⟩ ⟨by decide, by decide⟩ 4 rfl hasF_c rfl (by decide) (Nat.le_of_ble_eq_true rfl) ⟨Nat.zero_le _, Nat.zero_le _⟩ rfl dX7_readEntries_110 ?_
              try dsimp only [Nat.reduceAdd, nf_rep1, nf_rep0, nf_d0, nf_t0, nf_s0, nf_ac, nf_an, nf_d1, nf_t1, nf_s1, nf_d2, nf_t2, nf_s2, nf_d3, nf_t3, nf_s3, nf_d4, nf_t4, nf_s4, nf_d5, nf_t5, nf_s5, nf_d6, nf_t6, nf_s6, nf_d7, nf_t7, nf_s7, nf_d8, nf_t8, nf_s8, nf_d9, nf_t9, nf_s9, nf_d10, nf_t10, nf_s10, nf_d11, nf_t11, nf_s11, nf_d12, nf_t12, nf_s12, nf_d13, nf_t13, nf_s13, nf_d14, nf_t14, nf_s14, nf_d15, nf_t15, nf_s15, nf_d16, nf_t16, nf_s16, nf_d17, nf_t17, nf_s17, nf_d18, nf_t18, nf_s18, nf_d19, nf_t19, nf_s19, nf_d20, nf_t20, nf_s20]
              refine v_iret K E dX7_readEntries_113 ?_ (by (simp only [nf_rep1, nf_rep0, nf_d0, nf_t0, nf_s0, nf_ac, nf_an, List.map_cons, List.map_nil, cM_1, rowM_1, rowsM_1, rdM_1, spM_1, bookM_1, svM_1, hiM_1]))
              have hz := (congrArg (sRead2 (ts, cs, S, SS, hn, hs)) (hz0.symm.trans hcv)).trans (sRd_f2 (of_decide_eq_false (bI_0 c103)))
              rw [show sRead (ts, cs, S, SS, hn, hs) (e, s, d, k, xs) = _ from hz]
              exact ⟨rfl, (_, _, (_, _, _, _, _), _, _, _), rfl⟩
        · refine v_iload_n K dX7_readEntries_62 rfl ?_
          refine v_if_eq K 70 dX7_readEntries_63 (by decide) (fun c63 => ?_) (fun c63 => ?_)
          · refine v_iconst K (0) dX7_readEntries_70 (by decide) ?_
            have hnw : (newEnt D2 (tEntry ts (P2, e2, s2, d2, k3, xs2)).2.2.2.2.2.2 (tEntry ts (P2, e2, s2, d2, k3, xs2)).2.2.1 (tEntry ts (P2, e2, s2, d2, k3, xs2)).2.2.2.2.1 && nw) = false := and_f2 c63
            refine v_istore_n K dX7_readEntries_71 (by decide) ?_
            refine v_iinc K dX7_readEntries_72 rfl (by decide) iinc_1 ?_
            refine v_aload_n K dX7_readEntries_75 rfl ?_
            refine v_get K 0 rfl hasF_c rfl iX7 3 (by decide) rfl (by decide +kernel) rfl dX7_readEntries_76 ?_
            refine v_bipush K (44) dX7_readEntries_79 (by decide) ?_
            refine v_callVi K [4, 1] (c_X2_take (XI X) (XB X) _ _ _ _ _ _ _ _ _ _ _ _ ?hc81_0_13) rfl gX7_readEntries_X2_take rfl rfl hd_X2_take ⟨rfl, rfl⟩ ⟨by decide, by decide⟩ 4 rfl hasF_c rfl (by decide) (Nat.le_of_ble_eq_true rfl) ⟨Nat.zero_le _, Nat.zero_le _⟩ rfl dX7_readEntries_81 ?_
            case hc81_0_13 => exact tEnt_le hP
            try dsimp only [Nat.reduceAdd, nf_rep1, nf_rep0, nf_d0, nf_t0, nf_s0, nf_ac, nf_an, nf_d1, nf_t1, nf_s1, nf_d2, nf_t2, nf_s2, nf_d3, nf_t3, nf_s3, nf_d4, nf_t4, nf_s4, nf_d5, nf_t5, nf_s5, nf_d6, nf_t6, nf_s6, nf_d7, nf_t7, nf_s7, nf_d8, nf_t8, nf_s8, nf_d9, nf_t9, nf_s9, nf_d10, nf_t10, nf_s10, nf_d11, nf_t11, nf_s11, nf_d12, nf_t12, nf_s12, nf_d13, nf_t13, nf_s13, nf_d14, nf_t14, nf_s14, nf_d15, nf_t15, nf_s15, nf_d16, nf_t16, nf_s16, nf_d17, nf_t17, nf_s17, nf_d18, nf_t18, nf_s18, nf_d19, nf_t19, nf_s19, nf_d20, nf_t20, nf_s20]
            refine v_if_ne K 90 dX7_readEntries_84 (by decide) (fun c84 => ?_) (fun c84 => ?_)
            · refine v_iinc K dX7_readEntries_90 rfl (by decide) iinc_1 ?_
              refine v_goto K 24 dX7_readEntries_93 (by decide) ?_
              exact v_j (ih hlt _ (tkP ts (tEntry ts (P2, e2, s2, d2, k3, xs2)).2.1 44) (tEntry ts (P2, e2, s2, d2, k3, xs2)).2.2.1 (tEntry ts (P2, e2, s2, d2, k3, xs2)).2.2.2.1 (tEntry ts (P2, e2, s2, d2, k3, xs2)).2.2.2.2.1 (tEntry ts (P2, e2, s2, d2, k3, xs2)).2.2.2.2.2.1 (tEntry ts (P2, e2, s2, d2, k3, xs2)).2.2.2.2.2.2 _ (newEnt D2 (tEntry ts (P2, e2, s2, d2, k3, xs2)).2.2.2.2.2.2 (tEntry ts (P2, e2, s2, d2, k3, xs2)).2.2.1 (tEntry ts (P2, e2, s2, d2, k3, xs2)).2.2.2.2.1 && nw) (n + 1) (nI_1 k2) (tk_le (tEnt_le hP) (by decide)) (by rw [← hz0, reF_1 (n := n) (D := D2) (nw := nw) hlt (bI_1 c37) (bI_1 c84)] <;> rfl)) (by rw [hnw, ← nI_1 n] <;> rfl) rfl rfl
            · refine v_goto K 96 dX7_readEntries_87 (by decide) ?_
              have hcv := reF_2 (n := n) (D := D2) (nw := nw) hlt (bI_1 c37) (bI_0 c84)
              refine v_aload_n K dX7_readEntries_96 rfl ?_
              refine v_get K 0 rfl hasF_c rfl iX7 3 (by decide) rfl (by decide +kernel) rfl dX7_readEntries_97 ?_
              refine v_callVi K [4, 1] (c_X2_isAtEnd (XI X) (XB X) _ _ _ _ _ _ _ _ _ _ _ ?hc100_0_14) rfl gX7_readEntries_X2_isAtEnd rfl rfl hd_X2_isAtEnd ⟨rfl, rfl⟩ ⟨by decide, by decide⟩ 4 rfl hasF_c rfl (by decide) (Nat.le_of_ble_eq_true rfl) ⟨Nat.zero_le _, Nat.zero_le _⟩ rfl dX7_readEntries_100 ?_
              case hc100_0_14 => first | exact hP | exact tk_le (tEnt_le hP) (by decide)
              try dsimp only [Nat.reduceAdd, nf_rep1, nf_rep0, nf_d0, nf_t0, nf_s0, nf_ac, nf_an, nf_d1, nf_t1, nf_s1, nf_d2, nf_t2, nf_s2, nf_d3, nf_t3, nf_s3, nf_d4, nf_t4, nf_s4, nf_d5, nf_t5, nf_s5, nf_d6, nf_t6, nf_s6, nf_d7, nf_t7, nf_s7, nf_d8, nf_t8, nf_s8, nf_d9, nf_t9, nf_s9, nf_d10, nf_t10, nf_s10, nf_d11, nf_t11, nf_s11, nf_d12, nf_t12, nf_s12, nf_d13, nf_t13, nf_s13, nf_d14, nf_t14, nf_s14, nf_d15, nf_t15, nf_s15, nf_d16, nf_t16, nf_s16, nf_d17, nf_t17, nf_s17, nf_d18, nf_t18, nf_s18, nf_d19, nf_t19, nf_s19, nf_d20, nf_t20, nf_s20]
              refine v_if_ne K 114 dX7_readEntries_103 (by decide) (fun c103 => ?_) (fun c103 => ?_)
              · refine v_iload_n K dX7_readEntries_114 rfl ?_
                refine v_if_ne K 121 dX7_readEntries_115 (by decide) (fun c => absurd rfl c) (fun _ => ?_)
                refine v_bipush K (-4) dX7_readEntries_118 (by decide) ?_
                refine v_iret K E dX7_readEntries_120 ?_ (by (simp only [nf_rep1, nf_rep0, nf_d0, nf_t0, nf_s0, nf_ac, nf_an, List.map_cons, List.map_nil, cM_1, rowM_1, rowsM_1, rdM_1, spM_1, bookM_1, svM_1, hiM_1]))
                have hz := (congrArg (sRead2 (ts, cs, S, SS, hn, hs)) (hz0.symm.trans hcv)).trans (sRd_4 rfl (of_decide_eq_true (bI_1 c103)) hnw)
                rw [show sRead (ts, cs, S, SS, hn, hs) (e, s, d, k, xs) = _ from hz]
                exact ⟨rfl, (_, _, (_, _, _, _, _), _, _, _), rfl⟩
              · refine v_aload_n K dX7_readEntries_106 rfl ?_
                refine v_get K 0 rfl hasF_c rfl iX7 3 (by decide) rfl (by decide +kernel) rfl dX7_readEntries_107 ?_
                refine v_callVi K [4] (c_X2_fault (XI X) (XB X) _ _ _ _ _ _ _ _ ) rfl gX7_readEntries_X2_fault rfl rfl hd_X2_fault ⟨rfl, rfl⟩ ⟨by decide, by decide⟩ 4 rfl hasF_c rfl (by decide) (Nat.le_of_ble_eq_true rfl) ⟨Nat.zero_le _, Nat.zero_le _⟩ rfl dX7_readEntries_110 ?_
                try dsimp only [Nat.reduceAdd, nf_rep1, nf_rep0, nf_d0, nf_t0, nf_s0, nf_ac, nf_an, nf_d1, nf_t1, nf_s1, nf_d2, nf_t2, nf_s2, nf_d3, nf_t3, nf_s3, nf_d4, nf_t4, nf_s4, nf_d5, nf_t5, nf_s5, nf_d6, nf_t6, nf_s6, nf_d7, nf_t7, nf_s7, nf_d8, nf_t8, nf_s8, nf_d9, nf_t9, nf_s9, nf_d10, nf_t10, nf_s10, nf_d11, nf_t11, nf_s11, nf_d12, nf_t12, nf_s12, nf_d13, nf_t13, nf_s13, nf_d14, nf_t14, nf_s14, nf_d15, nf_t15, nf_s15, nf_d16, nf_t16, nf_s16, nf_d17, nf_t17, nf_s17, nf_d18, nf_t18, nf_s18, nf_d19, nf_t19, nf_s19, nf_d20, nf_t20, nf_s20]
                refine v_iret K E dX7_readEntries_113 ?_ (by (simp only [nf_rep1, nf_rep0, nf_d0, nf_t0, nf_s0, nf_ac, nf_an, List.map_cons, List.map_nil, cM_1, rowM_1, rowsM_1, rdM_1, spM_1, bookM_1, svM_1, hiM_1]))
                have hz := (congrArg (sRead2 (ts, cs, S, SS, hn, hs)) (hz0.symm.trans hcv)).trans (sRd_f2 (of_decide_eq_false (bI_0 c103)))
                rw [show sRead (ts, cs, S, SS, hn, hs) (e, s, d, k, xs) = _ from hz]
                exact ⟨rfl, (_, _, (_, _, _, _, _), _, _, _), rfl⟩
          · refine v_iconst K (1) dX7_readEntries_66 (by decide) ?_
            refine v_goto K 71 dX7_readEntries_67 (by decide) ?_
            have hnw : (newEnt D2 (tEntry ts (P2, e2, s2, d2, k3, xs2)).2.2.2.2.2.2 (tEntry ts (P2, e2, s2, d2, k3, xs2)).2.2.1 (tEntry ts (P2, e2, s2, d2, k3, xs2)).2.2.2.2.1 && nw) = true := and_t c59 c63
            refine v_istore_n K dX7_readEntries_71 (by decide) ?_
            refine v_iinc K dX7_readEntries_72 rfl (by decide) iinc_1 ?_
            refine v_aload_n K dX7_readEntries_75 rfl ?_
            refine v_get K 0 rfl hasF_c rfl iX7 3 (by decide) rfl (by decide +kernel) rfl dX7_readEntries_76 ?_
            refine v_bipush K (44) dX7_readEntries_79 (by decide) ?_
            refine v_callVi K [4, 1] (c_X2_take (XI X) (XB X) _ _ _ _ _ _ _ _ _ _ _ _ ?hc81_0_16) rfl gX7_readEntries_X2_take rfl rfl hd_X2_take ⟨rfl, rfl⟩ ⟨by decide, by decide⟩ 4 rfl hasF_c rfl (by decide) (Nat.le_of_ble_eq_true rfl) ⟨Nat.zero_le _, Nat.zero_le _⟩ rfl dX7_readEntries_81 ?_
            case hc81_0_16 => exact tEnt_le hP
            try dsimp only [Nat.reduceAdd, nf_rep1, nf_rep0, nf_d0, nf_t0, nf_s0, nf_ac, nf_an, nf_d1, nf_t1, nf_s1, nf_d2, nf_t2, nf_s2, nf_d3, nf_t3, nf_s3, nf_d4, nf_t4, nf_s4, nf_d5, nf_t5, nf_s5, nf_d6, nf_t6, nf_s6, nf_d7, nf_t7, nf_s7, nf_d8, nf_t8, nf_s8, nf_d9, nf_t9, nf_s9, nf_d10, nf_t10, nf_s10, nf_d11, nf_t11, nf_s11, nf_d12, nf_t12, nf_s12, nf_d13, nf_t13, nf_s13, nf_d14, nf_t14, nf_s14, nf_d15, nf_t15, nf_s15, nf_d16, nf_t16, nf_s16, nf_d17, nf_t17, nf_s17, nf_d18, nf_t18, nf_s18, nf_d19, nf_t19, nf_s19, nf_d20, nf_t20, nf_s20]
            refine v_if_ne K 90 dX7_readEntries_84 (by decide) (fun c84 => ?_) (fun c84 => ?_)
            · refine v_iinc K dX7_readEntries_90 rfl (by decide) iinc_1 ?_
              refine v_goto K 24 dX7_readEntries_93 (by decide) ?_
              exact v_j (ih hlt _ (tkP ts (tEntry ts (P2, e2, s2, d2, k3, xs2)).2.1 44) (tEntry ts (P2, e2, s2, d2, k3, xs2)).2.2.1 (tEntry ts (P2, e2, s2, d2, k3, xs2)).2.2.2.1 (tEntry ts (P2, e2, s2, d2, k3, xs2)).2.2.2.2.1 (tEntry ts (P2, e2, s2, d2, k3, xs2)).2.2.2.2.2.1 (tEntry ts (P2, e2, s2, d2, k3, xs2)).2.2.2.2.2.2 _ (newEnt D2 (tEntry ts (P2, e2, s2, d2, k3, xs2)).2.2.2.2.2.2 (tEntry ts (P2, e2, s2, d2, k3, xs2)).2.2.1 (tEntry ts (P2, e2, s2, d2, k3, xs2)).2.2.2.2.1 && nw) (n + 1) (nI_1 k2) (tk_le (tEnt_le hP) (by decide)) (by rw [← hz0, reF_1 (n := n) (D := D2) (nw := nw) hlt (bI_1 c37) (bI_1 c84)] <;> rfl)) (by rw [hnw, ← nI_1 n] <;> rfl) rfl rfl
            · refine v_goto K 96 dX7_readEntries_87 (by decide) ?_
              have hcv := reF_2 (n := n) (D := D2) (nw := nw) hlt (bI_1 c37) (bI_0 c84)
              refine v_aload_n K dX7_readEntries_96 rfl ?_
              refine v_get K 0 rfl hasF_c rfl iX7 3 (by decide) rfl (by decide +kernel) rfl dX7_readEntries_97 ?_
              refine v_callVi K [4, 1] (c_X2_isAtEnd (XI X) (XB X) _ _ _ _ _ _ _ _ _ _ _ ?hc100_0_17) rfl gX7_readEntries_X2_isAtEnd rfl rfl hd_X2_isAtEnd ⟨rfl, rfl⟩ ⟨by decide, by decide⟩ 4 rfl hasF_c rfl (by decide) (Nat.le_of_ble_eq_true rfl) ⟨Nat.zero_le _, Nat.zero_le _⟩ rfl dX7_readEntries_100 ?_
              case hc100_0_17 => first | exact hP | exact tk_le (tEnt_le hP) (by decide)
              try dsimp only [Nat.reduceAdd, nf_rep1, nf_rep0, nf_d0, nf_t0, nf_s0, nf_ac, nf_an, nf_d1, nf_t1, nf_s1, nf_d2, nf_t2, nf_s2, nf_d3, nf_t3, nf_s3, nf_d4, nf_t4, nf_s4, nf_d5, nf_t5, nf_s5, nf_d6, nf_t6, nf_s6, nf_d7, nf_t7, nf_s7, nf_d8, nf_t8, nf_s8, nf_d9, nf_t9, nf_s9, nf_d10, nf_t10, nf_s10, nf_d11, nf_t11, nf_s11, nf_d12, nf_t12, nf_s12, nf_d13, nf_t13, nf_s13, nf_d14, nf_t14, nf_s14, nf_d15, nf_t15, nf_s15, nf_d16, nf_t16, nf_s16, nf_d17, nf_t17, nf_s17, nf_d18, nf_t18, nf_s18, nf_d19, nf_t19, nf_s19, nf_d20, nf_t20, nf_s20]
              refine v_if_ne K 114 dX7_readEntries_103 (by decide) (fun c103 => ?_) (fun c103 => ?_)
              · refine v_iload_n K dX7_readEntries_114 rfl ?_
                refine v_if_ne K 121 dX7_readEntries_115 (by decide) (fun _ => ?_) (fun c => absurd c (by decide))
                refine v_aload_n K dX7_readEntries_121 rfl ?_
                refine v_get K 0 rfl hasF_c rfl iX7 6 (by decide) rfl (by decide +kernel) rfl dX7_readEntries_122 ?_
                refine v_callVi K [8] (c_X0_rules (XI X) (XB X) _ _ _ _ ) rfl gX7_readEntries_X0_rules rfl rfl hd_X0_rules ⟨rfl, rfl⟩ ⟨by decide, by decide⟩ 8 rfl bookF rfl (by decide) (Nat.le_of_ble_eq_true rfl) ⟨Nat.zero_le _, Nat.zero_le _⟩ rfl dX7_readEntries_125 ?_
                try dsimp only [Nat.reduceAdd, nf_rep1, nf_rep0, nf_d0, nf_t0, nf_s0, nf_ac, nf_an, nf_d1, nf_t1, nf_s1, nf_d2, nf_t2, nf_s2, nf_d3, nf_t3, nf_s3, nf_d4, nf_t4, nf_s4, nf_d5, nf_t5, nf_s5, nf_d6, nf_t6, nf_s6, nf_d7, nf_t7, nf_s7, nf_d8, nf_t8, nf_s8, nf_d9, nf_t9, nf_s9, nf_d10, nf_t10, nf_s10, nf_d11, nf_t11, nf_s11, nf_d12, nf_t12, nf_s12, nf_d13, nf_t13, nf_s13, nf_d14, nf_t14, nf_s14, nf_d15, nf_t15, nf_s15, nf_d16, nf_t16, nf_s16, nf_d17, nf_t17, nf_s17, nf_d18, nf_t18, nf_s18, nf_d19, nf_t19, nf_s19, nf_d20, nf_t20, nf_s20]
                refine v_bipush K (30) dX7_readEntries_128 (by decide) ?_
                refine v_ic_gt K 145 dX7_readEntries_130 (by decide) (fun c130 => ?_) (fun c130 => ?_)
                · refine v_bipush K (-3) dX7_readEntries_145 (by decide) ?_
                  refine v_iret K E dX7_readEntries_147 ?_ (by (simp only [nf_rep1, nf_rep0, nf_d0, nf_t0, nf_s0, nf_ac, nf_an, List.map_cons, List.map_nil, cM_1, rowM_1, rowsM_1, rdM_1, spM_1, bookM_1, svM_1, hiM_1]))
                  have hz := (congrArg (sRead2 (ts, cs, S, SS, hn, hs)) (hz0.symm.trans hcv)).trans (sRd_3 rfl (of_decide_eq_true (bI_1 c103)) hnw (fun z => Int32.not_le.mpr c130 z.1))
                  rw [show sRead (ts, cs, S, SS, hn, hs) (e, s, d, k, xs) = _ from hz]
                  exact ⟨rfl, (_, _, (_, _, _, _, _), _, _, _), rfl⟩
                · refine v_aload_n K dX7_readEntries_133 rfl ?_
                  refine v_get K 0 rfl hasF_c rfl iX7 6 (by decide) rfl (by decide +kernel) rfl dX7_readEntries_134 ?_
                  refine v_callVi K [8] (c_X0_words (XI X) (XB X) _ _ _ _ ) rfl gX7_readEntries_X0_words rfl rfl hd_X0_words ⟨rfl, rfl⟩ ⟨by decide, by decide⟩ 8 rfl bookF rfl (by decide) (Nat.le_of_ble_eq_true rfl) ⟨Nat.zero_le _, Nat.zero_le _⟩ rfl dX7_readEntries_137 ?_
                  try dsimp only [Nat.reduceAdd, nf_rep1, nf_rep0, nf_d0, nf_t0, nf_s0, nf_ac, nf_an, nf_d1, nf_t1, nf_s1, nf_d2, nf_t2, nf_s2, nf_d3, nf_t3, nf_s3, nf_d4, nf_t4, nf_s4, nf_d5, nf_t5, nf_s5, nf_d6, nf_t6, nf_s6, nf_d7, nf_t7, nf_s7, nf_d8, nf_t8, nf_s8, nf_d9, nf_t9, nf_s9, nf_d10, nf_t10, nf_s10, nf_d11, nf_t11, nf_s11, nf_d12, nf_t12, nf_s12, nf_d13, nf_t13, nf_s13, nf_d14, nf_t14, nf_s14, nf_d15, nf_t15, nf_s15, nf_d16, nf_t16, nf_s16, nf_d17, nf_t17, nf_s17, nf_d18, nf_t18, nf_s18, nf_d19, nf_t19, nf_s19, nf_d20, nf_t20, nf_s20]
                  refine v_bipush K (20) dX7_readEntries_140 (by decide) ?_
                  refine v_ic_le K 148 dX7_readEntries_142 (by decide) (fun c142 => ?_) (fun c142 => ?_)
                  · refine v_aload_n K dX7_readEntries_148 rfl ?_
                    refine v_get K 0 rfl hasF_c rfl iX7 9 (by decide) rfl (by decide +kernel) rfl dX7_readEntries_149 ?_
                    refine v_aload_n K dX7_readEntries_152 rfl ?_
                    refine v_get K 0 rfl hasF_c rfl iX7 5 (by decide) rfl (by decide +kernel) rfl dX7_readEntries_153 ?_
                    refine v_callVv K [10, 7] (c_X1_record (XI X) (XB X) _ _ _ _ _ _ _ _ ) rfl gX7_readEntries_X1_record rfl rfl hd_X1_record ⟨rfl, rfl⟩ ⟨by decide, by decide⟩ 10 rfl hiF rfl (by decide) (Nat.le_of_ble_eq_true rfl) ⟨Nat.zero_le _, Nat.zero_le _⟩ rfl dX7_readEntries_156 ?_
                    try dsimp only [Nat.reduceAdd, nf_rep1, nf_rep0, nf_d0, nf_t0, nf_s0, nf_ac, nf_an, nf_d1, nf_t1, nf_s1, nf_d2, nf_t2, nf_s2, nf_d3, nf_t3, nf_s3, nf_d4, nf_t4, nf_s4, nf_d5, nf_t5, nf_s5, nf_d6, nf_t6, nf_s6, nf_d7, nf_t7, nf_s7, nf_d8, nf_t8, nf_s8, nf_d9, nf_t9, nf_s9, nf_d10, nf_t10, nf_s10, nf_d11, nf_t11, nf_s11, nf_d12, nf_t12, nf_s12, nf_d13, nf_t13, nf_s13, nf_d14, nf_t14, nf_s14, nf_d15, nf_t15, nf_s15, nf_d16, nf_t16, nf_s16, nf_d17, nf_t17, nf_s17, nf_d18, nf_t18, nf_s18, nf_d19, nf_t19, nf_s19, nf_d20, nf_t20, nf_s20]
                    refine v_aload_n K dX7_readEntries_159 rfl ?_
                    refine v_get K 0 rfl hasF_c rfl iX7 5 (by decide) rfl (by decide +kernel) rfl dX7_readEntries_160 ?_
                    refine v_aload_n K dX7_readEntries_163 rfl ?_
                    refine v_get K 0 rfl hasF_c rfl iX7 6 (by decide) rfl (by decide +kernel) rfl dX7_readEntries_164 ?_
                    refine v_callVv K [7, 8] (c_X0_copyFrom (XI X) (XB X) _ _ _ _ _ _ _ _ ) rfl gX7_readEntries_X0_copyFrom rfl rfl hd_X0_copyFrom ⟨rfl, rfl⟩ ⟨by decide, by decide⟩ 7 rfl bookF rfl (by decide) (Nat.le_of_ble_eq_true rfl) ⟨Nat.zero_le _, Nat.zero_le _⟩ rfl dX7_readEntries_167 ?_
                    try dsimp only [Nat.reduceAdd, nf_rep1, nf_rep0, nf_d0, nf_t0, nf_s0, nf_ac, nf_an, nf_d1, nf_t1, nf_s1, nf_d2, nf_t2, nf_s2, nf_d3, nf_t3, nf_s3, nf_d4, nf_t4, nf_s4, nf_d5, nf_t5, nf_s5, nf_d6, nf_t6, nf_s6, nf_d7, nf_t7, nf_s7, nf_d8, nf_t8, nf_s8, nf_d9, nf_t9, nf_s9, nf_d10, nf_t10, nf_s10, nf_d11, nf_t11, nf_s11, nf_d12, nf_t12, nf_s12, nf_d13, nf_t13, nf_s13, nf_d14, nf_t14, nf_s14, nf_d15, nf_t15, nf_s15, nf_d16, nf_t16, nf_s16, nf_d17, nf_t17, nf_s17, nf_d18, nf_t18, nf_s18, nf_d19, nf_t19, nf_s19, nf_d20, nf_t20, nf_s20]
                    refine v_aload_n K dX7_readEntries_170 rfl ?_
                    refine v_get K 0 rfl hasF_c rfl iX7 10 (by decide) rfl (by decide +kernel) rfl dX7_readEntries_171 ?_
                    refine v_aload_n K dX7_readEntries_174 rfl ?_
                    refine v_get K 0 rfl hasF_c rfl iX7 5 (by decide) rfl (by decide +kernel) rfl dX7_readEntries_175 ?_
                    refine v_callVv K [11, 7] (c_X6_renew (XI X) (XB X) _ _ _ _ _ _ ) rfl gX7_readEntries_X6_renew rfl rfl hd_X6_renew ⟨rfl, rfl⟩ ⟨by decide, by decide⟩ 11 rfl svF rfl (by decide) (Nat.le_of_ble_eq_true rfl) ⟨Nat.zero_le _, Nat.zero_le _⟩ rfl dX7_readEntries_178 ?_
                    try dsimp only [Nat.reduceAdd, nf_rep1, nf_rep0, nf_d0, nf_t0, nf_s0, nf_ac, nf_an, nf_d1, nf_t1, nf_s1, nf_d2, nf_t2, nf_s2, nf_d3, nf_t3, nf_s3, nf_d4, nf_t4, nf_s4, nf_d5, nf_t5, nf_s5, nf_d6, nf_t6, nf_s6, nf_d7, nf_t7, nf_s7, nf_d8, nf_t8, nf_s8, nf_d9, nf_t9, nf_s9, nf_d10, nf_t10, nf_s10, nf_d11, nf_t11, nf_s11, nf_d12, nf_t12, nf_s12, nf_d13, nf_t13, nf_s13, nf_d14, nf_t14, nf_s14, nf_d15, nf_t15, nf_s15, nf_d16, nf_t16, nf_s16, nf_d17, nf_t17, nf_s17, nf_d18, nf_t18, nf_s18, nf_d19, nf_t19, nf_s19, nf_d20, nf_t20, nf_s20]
                    refine v_iload_n K dX7_readEntries_181 rfl ?_
                    refine v_iret K E dX7_readEntries_182 ?_ (by (simp only [nf_rep1, nf_rep0, nf_d0, nf_t0, nf_s0, nf_ac, nf_an, List.map_cons, List.map_nil, cM_1, rowM_1, rowsM_1, rdM_1, spM_1, bookM_1, svM_1, hiM_1]))
                    have hz := (congrArg (sRead2 (ts, cs, S, SS, hn, hs)) (hz0.symm.trans hcv)).trans (sRd_1 rfl (of_decide_eq_true (bI_1 c103)) hnw ⟨Int32.not_lt.mp c130, c142⟩)
                    rw [show sRead (ts, cs, S, SS, hn, hs) (e, s, d, k, xs) = _ from hz]
                    exact ⟨congrArg (fun q => some (Value.int q)) (nI_1 n), (_, _, (_, _, _, _, _), _, _, _), rfl⟩
                  · refine v_bipush K (-3) dX7_readEntries_145 (by decide) ?_
                    refine v_iret K E dX7_readEntries_147 ?_ (by (simp only [nf_rep1, nf_rep0, nf_d0, nf_t0, nf_s0, nf_ac, nf_an, List.map_cons, List.map_nil, cM_1, rowM_1, rowsM_1, rdM_1, spM_1, bookM_1, svM_1, hiM_1]))
                    have hz := (congrArg (sRead2 (ts, cs, S, SS, hn, hs)) (hz0.symm.trans hcv)).trans (sRd_3 rfl (of_decide_eq_true (bI_1 c103)) hnw (fun z => c142 z.2))
                    rw [show sRead (ts, cs, S, SS, hn, hs) (e, s, d, k, xs) = _ from hz]
                    exact ⟨rfl, (_, _, (_, _, _, _, _), _, _, _), rfl⟩
              · refine v_aload_n K dX7_readEntries_106 rfl ?_
                refine v_get K 0 rfl hasF_c rfl iX7 3 (by decide) rfl (by decide +kernel) rfl dX7_readEntries_107 ?_
                refine v_callVi K [4] (c_X2_fault (XI X) (XB X) _ _ _ _ _ _ _ _ ) rfl gX7_readEntries_X2_fault rfl rfl hd_X2_fault ⟨rfl, rfl⟩ ⟨by decide, by decide⟩ 4 rfl hasF_c rfl (by decide) (Nat.le_of_ble_eq_true rfl) ⟨Nat.zero_le _, Nat.zero_le _⟩ rfl dX7_readEntries_110 ?_
                try dsimp only [Nat.reduceAdd, nf_rep1, nf_rep0, nf_d0, nf_t0, nf_s0, nf_ac, nf_an, nf_d1, nf_t1, nf_s1, nf_d2, nf_t2, nf_s2, nf_d3, nf_t3, nf_s3, nf_d4, nf_t4, nf_s4, nf_d5, nf_t5, nf_s5, nf_d6, nf_t6, nf_s6, nf_d7, nf_t7, nf_s7, nf_d8, nf_t8, nf_s8, nf_d9, nf_t9, nf_s9, nf_d10, nf_t10, nf_s10, nf_d11, nf_t11, nf_s11, nf_d12, nf_t12, nf_s12, nf_d13, nf_t13, nf_s13, nf_d14, nf_t14, nf_s14, nf_d15, nf_t15, nf_s15, nf_d16, nf_t16, nf_s16, nf_d17, nf_t17, nf_s17, nf_d18, nf_t18, nf_s18, nf_d19, nf_t19, nf_s19, nf_d20, nf_t20, nf_s20]
                refine v_iret K E dX7_readEntries_113 ?_ (by (simp only [nf_rep1, nf_rep0, nf_d0, nf_t0, nf_s0, nf_ac, nf_an, List.map_cons, List.map_nil, cM_1, rowM_1, rowsM_1, rdM_1, spM_1, bookM_1, svM_1, hiM_1]))
                have hz := (congrArg (sRead2 (ts, cs, S, SS, hn, hs)) (hz0.symm.trans hcv)).trans (sRd_f2 (of_decide_eq_false (bI_0 c103)))
                rw [show sRead (ts, cs, S, SS, hn, hs) (e, s, d, k, xs) = _ from hz]
                exact ⟨rfl, (_, _, (_, _, _, _, _), _, _, _), rfl⟩
      · have hcv := reF_0 (n := n) (D := D2) (nw := nw) hlt (bI_0 c37)
        refine v_aload_n K dX7_readEntries_40 rfl ?_
        refine v_get K 0 rfl hasF_c rfl iX7 3 (by decide) rfl (by decide +kernel) rfl dX7_readEntries_41 ?_
        refine v_callVi K [4] (c_X2_fault (XI X) (XB X) _ _ _ _ _ _ _ _ ) rfl gX7_readEntries_X2_fault rfl rfl hd_X2_fault ⟨rfl, rfl⟩ ⟨by decide, by decide⟩ 4 rfl hasF_c rfl (by decide) (Nat.le_of_ble_eq_true rfl) ⟨Nat.zero_le _, Nat.zero_le _⟩ rfl dX7_readEntries_44 ?_
        try dsimp only [Nat.reduceAdd, nf_rep1, nf_rep0, nf_d0, nf_t0, nf_s0, nf_ac, nf_an, nf_d1, nf_t1, nf_s1, nf_d2, nf_t2, nf_s2, nf_d3, nf_t3, nf_s3, nf_d4, nf_t4, nf_s4, nf_d5, nf_t5, nf_s5, nf_d6, nf_t6, nf_s6, nf_d7, nf_t7, nf_s7, nf_d8, nf_t8, nf_s8, nf_d9, nf_t9, nf_s9, nf_d10, nf_t10, nf_s10, nf_d11, nf_t11, nf_s11, nf_d12, nf_t12, nf_s12, nf_d13, nf_t13, nf_s13, nf_d14, nf_t14, nf_s14, nf_d15, nf_t15, nf_s15, nf_d16, nf_t16, nf_s16, nf_d17, nf_t17, nf_s17, nf_d18, nf_t18, nf_s18, nf_d19, nf_t19, nf_s19, nf_d20, nf_t20, nf_s20]
        refine v_iret K E dX7_readEntries_47 ?_ (by (simp only [nf_rep1, nf_rep0, nf_d0, nf_t0, nf_s0, nf_ac, nf_an, List.map_cons, List.map_nil, cM_1, rowM_1, rowsM_1, rdM_1, spM_1, bookM_1, svM_1, hiM_1]))
        have hz := (congrArg (sRead2 (ts, cs, S, SS, hn, hs)) (hz0.symm.trans hcv)).trans (sRd_f1 rfl)
        rw [show sRead (ts, cs, S, SS, hn, hs) (e, s, d, k, xs) = _ from hz]
        exact ⟨rfl, (_, _, (_, _, _, _, _), _, _, _), rfl⟩
  refine v_aload_n K dX7_readEntries_0 rfl ?_
  refine v_get K 0 rfl hasF_c rfl iX7 6 (by decide) rfl (by decide +kernel) rfl dX7_readEntries_1 ?_
  refine v_aload_n K dX7_readEntries_4 rfl ?_
  refine v_get K 0 rfl hasF_c rfl iX7 5 (by decide) rfl (by decide +kernel) rfl dX7_readEntries_5 ?_
  refine v_callVv K [8, 7] (c_X0_copyFrom (XI X) (XB X) _ _ _ _ _ _ _ _ ) rfl gX7_readEntries_X0_copyFrom rfl rfl hd_X0_copyFrom ⟨rfl, rfl⟩ ⟨by decide, by decide⟩ 8 rfl bookF rfl (by decide) (Nat.le_of_ble_eq_true rfl) ⟨Nat.zero_le _, Nat.zero_le _⟩ rfl dX7_readEntries_8 ?_
  try dsimp only [Nat.reduceAdd, nf_rep1, nf_rep0, nf_d0, nf_t0, nf_s0, nf_ac, nf_an, nf_d1, nf_t1, nf_s1, nf_d2, nf_t2, nf_s2, nf_d3, nf_t3, nf_s3, nf_d4, nf_t4, nf_s4, nf_d5, nf_t5, nf_s5, nf_d6, nf_t6, nf_s6, nf_d7, nf_t7, nf_s7, nf_d8, nf_t8, nf_s8, nf_d9, nf_t9, nf_s9, nf_d10, nf_t10, nf_s10, nf_d11, nf_t11, nf_s11, nf_d12, nf_t12, nf_s12, nf_d13, nf_t13, nf_s13, nf_d14, nf_t14, nf_s14, nf_d15, nf_t15, nf_s15, nf_d16, nf_t16, nf_s16, nf_d17, nf_t17, nf_s17, nf_d18, nf_t18, nf_s18, nf_d19, nf_t19, nf_s19, nf_d20, nf_t20, nf_s20]
  refine v_aload_n K dX7_readEntries_11 rfl ?_
  refine v_get K 0 rfl hasF_c rfl iX7 3 (by decide) rfl (by decide +kernel) rfl dX7_readEntries_12 ?_
  refine v_callVv K [4] (c_X2_begin (XI X) (XB X) _ _ _ _ _ _ _ _ ) rfl gX7_readEntries_X2_begin rfl rfl hd_X2_begin ⟨rfl, rfl⟩ ⟨by decide, by decide⟩ 4 rfl hasF_c rfl (by decide) (Nat.le_of_ble_eq_true rfl) ⟨Nat.zero_le _, Nat.zero_le _⟩ rfl dX7_readEntries_15 ?_
  try dsimp only [Nat.reduceAdd, nf_rep1, nf_rep0, nf_d0, nf_t0, nf_s0, nf_ac, nf_an, nf_d1, nf_t1, nf_s1, nf_d2, nf_t2, nf_s2, nf_d3, nf_t3, nf_s3, nf_d4, nf_t4, nf_s4, nf_d5, nf_t5, nf_s5, nf_d6, nf_t6, nf_s6, nf_d7, nf_t7, nf_s7, nf_d8, nf_t8, nf_s8, nf_d9, nf_t9, nf_s9, nf_d10, nf_t10, nf_s10, nf_d11, nf_t11, nf_s11, nf_d12, nf_t12, nf_s12, nf_d13, nf_t13, nf_s13, nf_d14, nf_t14, nf_s14, nf_d15, nf_t15, nf_s15, nf_d16, nf_t16, nf_s16, nf_d17, nf_t17, nf_s17, nf_d18, nf_t18, nf_s18, nf_d19, nf_t19, nf_s19, nf_d20, nf_t20, nf_s20]
  refine v_iconst K (1) dX7_readEntries_18 (by decide) ?_
  refine v_istore_n K dX7_readEntries_19 (by decide) ?_
  refine v_iconst K (0) dX7_readEntries_20 (by decide) ?_
  refine v_istore_n K dX7_readEntries_21 (by decide) ?_
  refine v_iconst K (0) dX7_readEntries_22 (by decide) ?_
  refine v_istore_n K dX7_readEntries_23 (by decide) ?_
  exact v_j (lp 0 (Nat.zero_le _) 0 0 e s d k xs (cpB 60 50 S) true 0 rfl (Nat.zero_le _) rfl) rfl rfl rfl
