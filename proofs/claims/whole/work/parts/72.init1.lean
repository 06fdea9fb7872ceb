theorem hdi_X3 : yX3_init.cls ≠ "java/lang/invoke/MethodHandle" ∧ yX3_init.cls ≠ "java/lang/invoke/VarHandle" ∧ (parseMethodDescriptor yX3_init.desc).map (fun d => d.parameters.length) = some 1 := by decide +kernel
set_option maxHeartbeats 4000000 in
set_option maxRecDepth 100000 in
theorem c_X3_init (cI cB : ClassId) (r N : Nat) (hN : N < 100000000) : CtA cI cB yX3_init wsX3_init { frames := 1, cells := 1, slots := N, locals := 24 } (1) (N) [.ref r, .int (nI N)] [cM r (.inr (3, [.null, .int 0]))] (fun M => ∃ a, M = [rowM cI r a N []]) := by
  refine ct_ofA (cc := cX3_init) (maxL := 2) (by decide) rfl (Nat.le_of_ble_eq_true rfl) [(0, .ref r), (1, .int (nI N))] rfl rfl ?_
  intro X hI hB K O I E
  subst hI
  subst hB
  have iX3 : ∀ w ∈ u_ws RX3 TX3 2, w ∈ wsX3_init := by decide +kernel
  refine v_aload_n K dX3_init_0 rfl ?_
  refine v_obj K (by decide +kernel) (by decide +kernel) (by decide +kernel) (Nat.le_of_ble_eq_true rfl) (Nat.le_of_ble_eq_true rfl) dX3_init_1 ?_
  refine v_aload_n K dX3_init_4 rfl ?_
  refine v_iload_n K dX3_init_5 rfl ?_
  refine v_iconst K (0) dX3_init_6 (by decide) ?_
  refine v_mmax K (by decide +kernel) (by decide +kernel) (by decide +kernel) (by decide +kernel) (Nat.le_of_ble_eq_true rfl) (Nat.le_of_ble_eq_true rfl) ⟨by show 0 ≤ 1; omega, by show 0 ≤ N; omega⟩ dX3_init_7 ?_
  rw [show (if nI N < 0 then (0 : Int32) else nI N) = nI N from if_neg (nI_pos (by omega))]
  refine v_newa K (by decide +kernel) (N) rfl (by omega) ⟨by show 0 + 1 ≤ 1; omega, by show 0 + (N) ≤ N; omega⟩ dX3_init_10 (fun q10 => ?_)
  try dsimp only [Nat.reduceAdd, pk_t, pk_f, pk_n, nf_rep1, nf_rep0, nf_d0, nf_t0, nf_s0, nf_ac, nf_an, nf_d1, nf_t1, nf_s1, nf_d2, nf_t2, nf_s2, nf_d3, nf_t3, nf_s3, nf_d4, nf_t4, nf_s4, nf_d5, nf_t5, nf_s5, nf_d6, nf_t6, nf_s6, nf_d7, nf_t7, nf_s7, nf_d8, nf_t8, nf_s8, nf_d9, nf_t9, nf_s9, nf_d10, nf_t10, nf_s10, nf_d11, nf_t11, nf_s11, nf_d12, nf_t12, nf_s12, nf_d13, nf_t13, nf_s13, nf_d14, nf_t14, nf_s14, nf_d15, nf_t15, nf_s15, nf_d16, nf_t16, nf_s16, nf_d17, nf_t17, nf_s17, nf_d18, nf_t18, nf_s18, nf_d19, nf_t19, nf_s19, nf_d20, nf_t20, nf_s20, List.set_cons_zero, List.set_cons_succ]
  refine v_putF K I 0 rfl rfl iX3 tyX3 tyX3_ok nmX3 0 (by decide) rfl (by decide +kernel) rfl rfl (Nat.le_of_ble_eq_true rfl) dX3_init_12 ?_
  refine v_crow (xs := []) ⟨Nat.zero_le _, by omega, fun k h => absurd h (Nat.not_lt_zero k)⟩ rfl ?_
  refine v_wide (k1' := 1) (k2' := N) (by omega) (by omega) ?_
  refine v_retA K E dX3_init_15 ?_
  exact ⟨_, rfl⟩

theorem hdi_X4 : yX4_init.cls ≠ "java/lang/invoke/MethodHandle" ∧ yX4_init.cls ≠ "java/lang/invoke/VarHandle" ∧ (parseMethodDescriptor yX4_init.desc).map (fun d => d.parameters.length) = some 2 := by decide +kernel
set_option maxHeartbeats 4000000 in
set_option maxRecDepth 100000 in
theorem c_X4_init (cI cB : ClassId) (rs most wd0 : Nat) (hN : most < 100000000 ∧ wd0 < 100000000 ∧ most * wd0 < 100000000) : CtA cI cB yX4_init wsX4_init { frames := 2, cells := 4, slots := 2 + most * wd0 + 2 + most, locals := 45 } (4) (2 + most * wd0 + 2 + most) [.ref rs, .int (nI most), .int (nI wd0)] [cM rs (.inr (4, [.int 0, .null, .null]))] (fun M => ∃ c ca l la, M = [rowsM cI rs c ca l la most wd0 []]) := by
  refine ct_ofA (cc := cX4_init) (maxL := 3) (by decide) rfl (Nat.le_of_ble_eq_true rfl) [(0, .ref rs), (1, .int (nI most)), (2, .int (nI wd0))] rfl rfl ?_
  intro X hI hB K O I E
  subst hI
  subst hB
  have iX3 : ∀ w ∈ u_ws RX3 TX3 2, w ∈ wsX4_init := by decide +kernel
  have iX4 : ∀ w ∈ u_ws RX4 TX4 3, w ∈ wsX4_init := by decide +kernel
  refine v_aload_n K dX4_init_0 rfl ?_
  refine v_obj K (by decide +kernel) (by decide +kernel) (by decide +kernel) (Nat.le_of_ble_eq_true rfl) (Nat.le_of_ble_eq_true rfl) dX4_init_1 ?_
  refine v_aload_n K dX4_init_4 rfl ?_
  refine v_iload_n K dX4_init_5 rfl ?_
  refine v_putF K I 0 rfl rfl iX4 tyX4 tyX4_ok nmX4 0 (by decide) rfl (by decide +kernel) rfl rfl (Nat.le_of_ble_eq_true rfl) dX4_init_6 ?_
  refine v_aload_n K dX4_init_9 rfl ?_
  refine v_new (ci := 3) (fs := [.null, .int 0]) K rfl iX3 tyX3 tyX3_ok (by decide +kernel) (by decide +kernel) (by decide +kernel) (fun j hj => by rcases (show j = 0 ∨ j = 1 by omega) with rfl | rfl <;> rfl) ⟨by show 0 + 1 ≤ 4; omega, by show 0 + 2 ≤ 2 + most * wd0 + 2 + most; omega⟩ dX4_init_10 (fun q10 => ?_)
  try dsimp only [Nat.reduceAdd, pk_t, pk_f, pk_n, nf_rep1, nf_rep0, nf_d0, nf_t0, nf_s0, nf_ac, nf_an, nf_d1, nf_t1, nf_s1, nf_d2, nf_t2, nf_s2, nf_d3, nf_t3, nf_s3, nf_d4, nf_t4, nf_s4, nf_d5, nf_t5, nf_s5, nf_d6, nf_t6, nf_s6, nf_d7, nf_t7, nf_s7, nf_d8, nf_t8, nf_s8, nf_d9, nf_t9, nf_s9, nf_d10, nf_t10, nf_s10, nf_d11, nf_t11, nf_s11, nf_d12, nf_t12, nf_s12, nf_d13, nf_t13, nf_s13, nf_d14, nf_t14, nf_s14, nf_d15, nf_t15, nf_s15, nf_d16, nf_t16, nf_s16, nf_d17, nf_t17, nf_s17, nf_d18, nf_t18, nf_s18, nf_d19, nf_t19, nf_s19, nf_d20, nf_t20, nf_s20, List.set_cons_zero, List.set_cons_succ]
  refine v_dup K dX4_init_13 rfl ?_
  refine v_iload_n K dX4_init_14 rfl ?_
  refine v_iload_n K dX4_init_15 rfl ?_
  refine v_imul K dX4_init_16 ?_
  rw [pk_mul]
  refine v_callI K O [1] [0] [true, false] (c_X3_init (XI X) (XB X) _ (most * wd0) ?hc17_0_1) rfl rfl ⟨by decide, by decide, by decide⟩ gX4_init_X3_init rfl rfl (by decide +kernel) (by decide +kernel) (by decide +kernel) rfl hdi_X3 ⟨rfl, rfl⟩ ⟨Nat.le_of_ble_eq_true rfl, Nat.le_of_ble_eq_true rfl⟩ (Nat.le_of_ble_eq_true rfl) ⟨by show (0 + 1) + (1) ≤ 4; omega, by show (0 + 2) + ((most * wd0)) ≤ 2 + most * wd0 + 2 + most; omega⟩ rfl dX4_init_17 (fun Mc1 hpo => ?_)
  case hc17_0_1 => omega
  obtain ⟨a17, rfl⟩ := hpo
  try dsimp only [Nat.reduceAdd, pk_t, pk_f, pk_n, nf_rep1, nf_rep0, nf_d0, nf_t0, nf_s0, nf_ac, nf_an, nf_d1, nf_t1, nf_s1, nf_d2, nf_t2, nf_s2, nf_d3, nf_t3, nf_s3, nf_d4, nf_t4, nf_s4, nf_d5, nf_t5, nf_s5, nf_d6, nf_t6, nf_s6, nf_d7, nf_t7, nf_s7, nf_d8, nf_t8, nf_s8, nf_d9, nf_t9, nf_s9, nf_d10, nf_t10, nf_s10, nf_d11, nf_t11, nf_s11, nf_d12, nf_t12, nf_s12, nf_d13, nf_t13, nf_s13, nf_d14, nf_t14, nf_s14, nf_d15, nf_t15, nf_s15, nf_d16, nf_t16, nf_s16, nf_d17, nf_t17, nf_s17, nf_d18, nf_t18, nf_s18, nf_d19, nf_t19, nf_s19, nf_d20, nf_t20, nf_s20, List.set_cons_zero, List.set_cons_succ]
  refine v_putF K I 0 rfl rfl iX4 tyX4 tyX4_ok nmX4 1 (by decide) rfl (by decide +kernel) rfl rfl (Nat.le_of_ble_eq_true rfl) dX4_init_20 ?_
  refine v_aload_n K dX4_init_23 rfl ?_
  refine v_get K 0 rfl hasF_c rfl iX4 1 (by decide) rfl (by decide +kernel) rfl dX4_init_24 ?_
  refine v_iconst K (0) dX4_init_27 (by decide) ?_
  refine v_iload_n K dX4_init_28 rfl ?_
  refine v_iload_n K dX4_init_29 rfl ?_
  refine v_imul K dX4_init_30 ?_
  rw [pk_mul]
  refine v_callVv K [1] (c_X3_addMany (XI X) (XB X) _ _ _ _ _ (most * wd0) ?hc31_0_2) rfl gX4_init_X3_addMany rfl rfl hd_X3_addMany ⟨rfl, rfl⟩ ⟨Nat.le_of_ble_eq_true rfl, Nat.le_of_ble_eq_true rfl⟩ 1 rfl rowF rfl (by decide) (Nat.le_of_ble_eq_true rfl) ⟨by show ((0 + 1) + 1) ≤ 4; omega, by show ((0 + 2) + ((most * wd0))) ≤ 2 + most * wd0 + 2 + most; omega⟩ rfl dX4_init_31 ?_
  case hc31_0_2 => omega
  try dsimp only [Nat.reduceAdd, pk_t, pk_f, pk_n, nf_rep1, nf_rep0, nf_d0, nf_t0, nf_s0, nf_ac, nf_an, nf_d1, nf_t1, nf_s1, nf_d2, nf_t2, nf_s2, nf_d3, nf_t3, nf_s3, nf_d4, nf_t4, nf_s4, nf_d5, nf_t5, nf_s5, nf_d6, nf_t6, nf_s6, nf_d7, nf_t7, nf_s7, nf_d8, nf_t8, nf_s8, nf_d9, nf_t9, nf_s9, nf_d10, nf_t10, nf_s10, nf_d11, nf_t11, nf_s11, nf_d12, nf_t12, nf_s12, nf_d13, nf_t13, nf_s13, nf_d14, nf_t14, nf_s14, nf_d15, nf_t15, nf_s15, nf_d16, nf_t16, nf_s16, nf_d17, nf_t17, nf_s17, nf_d18, nf_t18, nf_s18, nf_d19, nf_t19, nf_s19, nf_d20, nf_t20, nf_s20, List.set_cons_zero, List.set_cons_succ]
  refine v_aload_n K dX4_init_34 rfl ?_
  refine v_new (ci := 3) (fs := [.null, .int 0]) K rfl iX3 tyX3 tyX3_ok (by decide +kernel) (by decide +kernel) (by decide +kernel) (fun j hj => by rcases (show j = 0 ∨ j = 1 by omega) with rfl | rfl <;> rfl) ⟨by show ((0 + 1) + 1) + 1 ≤ 4; omega, by show ((0 + 2) + ((most * wd0))) + 2 ≤ 2 + most * wd0 + 2 + most; omega⟩ dX4_init_35 (fun q35 => ?_)
  try dsimp only [Nat.reduceAdd, pk_t, pk_f, pk_n, nf_rep1, nf_rep0, nf_d0, nf_t0, nf_s0, nf_ac, nf_an, nf_d1, nf_t1, nf_s1, nf_d2, nf_t2, nf_s2, nf_d3, nf_t3, nf_s3, nf_d4, nf_t4, nf_s4, nf_d5, nf_t5, nf_s5, nf_d6, nf_t6, nf_s6, nf_d7, nf_t7, nf_s7, nf_d8, nf_t8, nf_s8, nf_d9, nf_t9, nf_s9, nf_d10, nf_t10, nf_s10, nf_d11, nf_t11, nf_s11, nf_d12, nf_t12, nf_s12, nf_d13, nf_t13, nf_s13, nf_d14, nf_t14, nf_s14, nf_d15, nf_t15, nf_s15, nf_d16, nf_t16, nf_s16, nf_d17, nf_t17, nf_s17, nf_d18, nf_t18, nf_s18, nf_d19, nf_t19, nf_s19, nf_d20, nf_t20, nf_s20, List.set_cons_zero, List.set_cons_succ]
  refine v_dup K dX4_init_38 rfl ?_
  refine v_iload_n K dX4_init_39 rfl ?_
  refine v_callI K O [2] [0, 1] [true, true, false] (c_X3_init (XI X) (XB X) _ most ?hc40_0_3) rfl rfl ⟨by decide, by decide, by decide⟩ gX4_init_X3_init rfl rfl (by decide +kernel) (by decide +kernel) (by decide +kernel) rfl hdi_X3 ⟨rfl, rfl⟩ ⟨Nat.le_of_ble_eq_true rfl, Nat.le_of_ble_eq_true rfl⟩ (Nat.le_of_ble_eq_true rfl) ⟨by show (((0 + 1) + 1) + 1) + (1) ≤ 4; omega, by show (((0 + 2) + ((most * wd0))) + 2) + (most) ≤ 2 + most * wd0 + 2 + most; omega⟩ rfl dX4_init_40 (fun Mc1 hpo => ?_)
  case hc40_0_3 => omega
  obtain ⟨a40, rfl⟩ := hpo
  try dsimp only [Nat.reduceAdd, pk_t, pk_f, pk_n, nf_rep1, nf_rep0, nf_d0, nf_t0, nf_s0, nf_ac, nf_an, nf_d1, nf_t1, nf_s1, nf_d2, nf_t2, nf_s2, nf_d3, nf_t3, nf_s3, nf_d4, nf_t4, nf_s4, nf_d5, nf_t5, nf_s5, nf_d6, nf_t6, nf_s6, nf_d7, nf_t7, nf_s7, nf_d8, nf_t8, nf_s8, nf_d9, nf_t9, nf_s9, nf_d10, nf_t10, nf_s10, nf_d11, nf_t11, nf_s11, nf_d12, nf_t12, nf_s12, nf_d13, nf_t13, nf_s13, nf_d14, nf_t14, nf_s14, nf_d15, nf_t15, nf_s15, nf_d16, nf_t16, nf_s16, nf_d17, nf_t17, nf_s17, nf_d18, nf_t18, nf_s18, nf_d19, nf_t19, nf_s19, nf_d20, nf_t20, nf_s20, List.set_cons_zero, List.set_cons_succ]
  refine v_putF K I 0 rfl rfl iX4 tyX4 tyX4_ok nmX4 2 (by decide) rfl (by decide +kernel) rfl rfl (Nat.le_of_ble_eq_true rfl) dX4_init_43 ?_
  refine v_crows (mw := most * wd0) 0 [] rfl rfl ⟨⟨by omega, by omega, by omega⟩, by rw [amL_rep _ _ (by simp)]; simp, Nat.zero_le _, fun i x h => by simp at h⟩ rfl ?_
  refine v_wide (k1' := 4) (k2' := 2 + most * wd0 + 2 + most) (by omega) (by omega) ?_
  refine v_retA K E dX4_init_46 ?_
  exact ⟨_, _, _, _, rfl⟩

theorem hdi_X0 : yX0_init.cls ≠ "java/lang/invoke/MethodHandle" ∧ yX0_init.cls ≠ "java/lang/invoke/VarHandle" ∧ (parseMethodDescriptor yX0_init.desc).map (fun d => d.parameters.length) = some 2 := by decide +kernel
set_option maxHeartbeats 4000000 in
set_option maxRecDepth 100000 in
theorem c_X0_init (cI cB : ClassId) (b0 nr nw : Nat) (hN : nr < 1000 ∧ nw < 1000) : CtA cI cB yX0_init wsX0_init { frames := 4, cells := 23, slots := 108 + 7 * nr + 14 * nw, locals := 86 } (23) (108 + 7 * nr + 14 * nw) [.ref b0, .int (nI nr), .int (nI nw)] [cM b0 (.inr (0, [.null, .null, .null, .null, .null, .null]))] (fun M => ∃ A : Nat → Nat, A 0 = b0 ∧ M = [bookM cI A nr nw bkI]) := by
  refine ct_ofA (cc := cX0_init) (maxL := 5) (by decide) rfl (Nat.le_of_ble_eq_true rfl) [(0, .ref b0), (1, .int (nI nr)), (2, .int (nI nw))] rfl rfl ?_
  intro X hI hB K O I E
  subst hI
  subst hB
  have iX0 : ∀ w ∈ u_ws RX0 TX0 6, w ∈ wsX0_init := by decide +kernel
  have iX3 : ∀ w ∈ u_ws RX3 TX3 2, w ∈ wsX0_init := by decide +kernel
  have iX4 : ∀ w ∈ u_ws RX4 TX4 3, w ∈ wsX0_init := by decide +kernel
  refine v_aload_n K dX0_init_0 rfl ?_
  refine v_obj K (by decide +kernel) (by decide +kernel) (by decide +kernel) (Nat.le_of_ble_eq_true rfl) (Nat.le_of_ble_eq_true rfl) dX0_init_1 ?_
  refine v_aload_n K dX0_init_4 rfl ?_
  refine v_new (ci := 4) (fs := [.int 0, .null, .null]) K rfl iX4 tyX4 tyX4_ok (by decide +kernel) (by decide +kernel) (by decide +kernel) (fun j hj => by rcases (show j = 0 ∨ j = 1 ∨ j = 2 by omega) with rfl | rfl | rfl <;> rfl) ⟨by show 0 + 1 ≤ 23; omega, by show 0 + 3 ≤ 108 + 7 * nr + 14 * nw; omega⟩ dX0_init_5 (fun q5 => ?_)
  try dsimp only [Nat.reduceAdd, pk_t, pk_f, pk_n, nf_rep1, nf_rep0, nf_d0, nf_t0, nf_s0, nf_ac, nf_an, nf_d1, nf_t1, nf_s1, nf_d2, nf_t2, nf_s2, nf_d3, nf_t3, nf_s3, nf_d4, nf_t4, nf_s4, nf_d5, nf_t5, nf_s5, nf_d6, nf_t6, nf_s6, nf_d7, nf_t7, nf_s7, nf_d8, nf_t8, nf_s8, nf_d9, nf_t9, nf_s9, nf_d10, nf_t10, nf_s10, nf_d11, nf_t11, nf_s11, nf_d12, nf_t12, nf_s12, nf_d13, nf_t13, nf_s13, nf_d14, nf_t14, nf_s14, nf_d15, nf_t15, nf_s15, nf_d16, nf_t16, nf_s16, nf_d17, nf_t17, nf_s17, nf_d18, nf_t18, nf_s18, nf_d19, nf_t19, nf_s19, nf_d20, nf_t20, nf_s20, List.set_cons_zero, List.set_cons_succ]
  refine v_dup K dX0_init_8 rfl ?_
  refine v_iload_n K dX0_init_9 rfl ?_
  refine v_iconst K (4) dX0_init_10 (by decide) ?_
  refine v_callI K O [1] [0] [true, false] (c_X4_init (XI X) (XB X) _ nr 4 ?hc11_0_1) rfl rfl ⟨by decide, by decide, by decide⟩ gX0_init_X4_init rfl rfl (by decide +kernel) (by decide +kernel) (by decide +kernel) rfl hdi_X4 ⟨rfl, rfl⟩ ⟨Nat.le_of_ble_eq_true rfl, Nat.le_of_ble_eq_true rfl⟩ (Nat.le_of_ble_eq_true rfl) ⟨by show (0 + 1) + (4) ≤ 23; omega, by show (0 + 3) + (2 + nr * 4 + 2 + nr) ≤ 108 + 7 * nr + 14 * nw; omega⟩ rfl dX0_init_11 (fun Mc1 hpo => ?_)
  case hc11_0_1 => omega
  obtain ⟨c11, ca11, l11, la11, rfl⟩ := hpo
  try dsimp only [Nat.reduceAdd, pk_t, pk_f, pk_n, nf_rep1, nf_rep0, nf_d0, nf_t0, nf_s0, nf_ac, nf_an, nf_d1, nf_t1, nf_s1, nf_d2, nf_t2, nf_s2, nf_d3, nf_t3, nf_s3, nf_d4, nf_t4, nf_s4, nf_d5, nf_t5, nf_s5, nf_d6, nf_t6, nf_s6, nf_d7, nf_t7, nf_s7, nf_d8, nf_t8, nf_s8, nf_d9, nf_t9, nf_s9, nf_d10, nf_t10, nf_s10, nf_d11, nf_t11, nf_s11, nf_d12, nf_t12, nf_s12, nf_d13, nf_t13, nf_s13, nf_d14, nf_t14, nf_s14, nf_d15, nf_t15, nf_s15, nf_d16, nf_t16, nf_s16, nf_d17, nf_t17, nf_s17, nf_d18, nf_t18, nf_s18, nf_d19, nf_t19, nf_s19, nf_d20, nf_t20, nf_s20, List.set_cons_zero, List.set_cons_succ]
  refine v_putF K I 0 rfl rfl iX0 tyX0 tyX0_ok nmX0 0 (by decide) rfl (by decide +kernel) rfl rfl (Nat.le_of_ble_eq_true rfl) dX0_init_14 ?_
  refine v_aload_n K dX0_init_17 rfl ?_
  refine v_new (ci := 3) (fs := [.null, .int 0]) K rfl iX3 tyX3 tyX3_ok (by decide +kernel) (by decide +kernel) (by decide +kernel) (fun j hj => by rcases (show j = 0 ∨ j = 1 by omega) with rfl | rfl <;> rfl) ⟨by show ((0 + 1) + 4) + 1 ≤ 23; omega, by show ((0 + 3) + (2 + nr * 4 + 2 + nr)) + 2 ≤ 108 + 7 * nr + 14 * nw; omega⟩ dX0_init_18 (fun q18 => ?_)
  try dsimp only [Nat.reduceAdd, pk_t, pk_f, pk_n, nf_rep1, nf_rep0, nf_d0, nf_t0, nf_s0, nf_ac, nf_an, nf_d1, nf_t1, nf_s1, nf_d2, nf_t2, nf_s2, nf_d3, nf_t3, nf_s3, nf_d4, nf_t4, nf_s4, nf_d5, nf_t5, nf_s5, nf_d6, nf_t6, nf_s6, nf_d7, nf_t7, nf_s7, nf_d8, nf_t8, nf_s8, nf_d9, nf_t9, nf_s9, nf_d10, nf_t10, nf_s10, nf_d11, nf_t11, nf_s11, nf_d12, nf_t12, nf_s12, nf_d13, nf_t13, nf_s13, nf_d14, nf_t14, nf_s14, nf_d15, nf_t15, nf_s15, nf_d16, nf_t16, nf_s16, nf_d17, nf_t17, nf_s17, nf_d18, nf_t18, nf_s18, nf_d19, nf_t19, nf_s19, nf_d20, nf_t20, nf_s20, List.set_cons_zero, List.set_cons_succ]
  refine v_dup K dX0_init_21 rfl ?_
  refine v_iload_n K dX0_init_22 rfl ?_
  refine v_callI K O [2] [0, 1] [true, true, false] (c_X3_init (XI X) (XB X) _ nr ?hc23_0_2) rfl rfl ⟨by decide, by decide, by decide⟩ gX0_init_X3_init rfl rfl (by decide +kernel) (by decide +kernel) (by decide +kernel) rfl hdi_X3 ⟨rfl, rfl⟩ ⟨Nat.le_of_ble_eq_true rfl, Nat.le_of_ble_eq_true rfl⟩ (Nat.le_of_ble_eq_true rfl) ⟨by show (((0 + 1) + 4) + 1) + (1) ≤ 23; omega, by show (((0 + 3) + (2 + nr * 4 + 2 + nr)) + 2) + (nr) ≤ 108 + 7 * nr + 14 * nw; omega⟩ rfl dX0_init_23 (fun Mc1 hpo => ?_)
  case hc23_0_2 => omega
  obtain ⟨a23, rfl⟩ := hpo
  try dsimp only [Nat.reduceAdd, pk_t, pk_f, pk_n, nf_rep1, nf_rep0, nf_d0, nf_t0, nf_s0, nf_ac, nf_an, nf_d1, nf_t1, nf_s1, nf_d2, nf_t2, nf_s2, nf_d3, nf_t3, nf_s3, nf_d4, nf_t4, nf_s4, nf_d5, nf_t5, nf_s5, nf_d6, nf_t6, nf_s6, nf_d7, nf_t7, nf_s7, nf_d8, nf_t8, nf_s8, nf_d9, nf_t9, nf_s9, nf_d10, nf_t10, nf_s10, nf_d11, nf_t11, nf_s11, nf_d12, nf_t12, nf_s12, nf_d13, nf_t13, nf_s13, nf_d14, nf_t14, nf_s14, nf_d15, nf_t15, nf_s15, nf_d16, nf_t16, nf_s16, nf_d17, nf_t17, nf_s17, nf_d18, nf_t18, nf_s18, nf_d19, nf_t19, nf_s19, nf_d20, nf_t20, nf_s20, List.set_cons_zero, List.set_cons_succ]
  refine v_putF K I 0 rfl rfl iX0 tyX0 tyX0_ok nmX0 1 (by decide) rfl (by decide +kernel) rfl rfl (Nat.le_of_ble_eq_true rfl) dX0_init_26 ?_
  refine v_aload_n K dX0_init_29 rfl ?_
  refine v_new (ci := 3) (fs := [.null, .int 0]) K rfl iX3 tyX3 tyX3_ok (by decide +kernel) (by decide +kernel) (by decide +kernel) (fun j hj => by rcases (show j = 0 ∨ j = 1 by omega) with rfl | rfl <;> rfl) ⟨by show ((((0 + 1) + 4) + 1) + 1) + 1 ≤ 23; omega, by show ((((0 + 3) + (2 + nr * 4 + 2 + nr)) + 2) + (nr)) + 2 ≤ 108 + 7 * nr + 14 * nw; omega⟩ dX0_init_30 (fun q30 => ?_)
  try dsimp only [Nat.reduceAdd, pk_t, pk_f, pk_n, nf_rep1, nf_rep0, nf_d0, nf_t0, nf_s0, nf_ac, nf_an, nf_d1, nf_t1, nf_s1, nf_d2, nf_t2, nf_s2, nf_d3, nf_t3, nf_s3, nf_d4, nf_t4, nf_s4, nf_d5, nf_t5, nf_s5, nf_d6, nf_t6, nf_s6, nf_d7, nf_t7, nf_s7, nf_d8, nf_t8, nf_s8, nf_d9, nf_t9, nf_s9, nf_d10, nf_t10, nf_s10, nf_d11, nf_t11, nf_s11, nf_d12, nf_t12, nf_s12, nf_d13, nf_t13, nf_s13, nf_d14, nf_t14, nf_s14, nf_d15, nf_t15, nf_s15, nf_d16, nf_t16, nf_s16, nf_d17, nf_t17, nf_s17, nf_d18, nf_t18, nf_s18, nf_d19, nf_t19, nf_s19, nf_d20, nf_t20, nf_s20, List.set_cons_zero, List.set_cons_succ]
  refine v_dup K dX0_init_33 rfl ?_
  refine v_iload_n K dX0_init_34 rfl ?_
  refine v_callI K O [3] [0, 1, 2] [true, true, true, false] (c_X3_init (XI X) (XB X) _ nr ?hc35_0_3) rfl rfl ⟨by decide, by decide, by decide⟩ gX0_init_X3_init rfl rfl (by decide +kernel) (by decide +kernel) (by decide +kernel) rfl hdi_X3 ⟨rfl, rfl⟩ ⟨Nat.le_of_ble_eq_true rfl, Nat.le_of_ble_eq_true rfl⟩ (Nat.le_of_ble_eq_true rfl) ⟨by show (((((0 + 1) + 4) + 1) + 1) + 1) + (1) ≤ 23; omega, by show (((((0 + 3) + (2 + nr * 4 + 2 + nr)) + 2) + (nr)) + 2) + (nr) ≤ 108 + 7 * nr + 14 * nw; omega⟩ rfl dX0_init_35 (fun Mc1 hpo => ?_)
  case hc35_0_3 => omega
  obtain ⟨a35, rfl⟩ := hpo
  try dsimp only [Nat.reduceAdd, pk_t, pk_f, pk_n, nf_rep1, nf_rep0, nf_d0, nf_t0, nf_s0, nf_ac, nf_an, nf_d1, nf_t1, nf_s1, nf_d2, nf_t2, nf_s2, nf_d3, nf_t3, nf_s3, nf_d4, nf_t4, nf_s4, nf_d5, nf_t5, nf_s5, nf_d6, nf_t6, nf_s6, nf_d7, nf_t7, nf_s7, nf_d8, nf_t8, nf_s8, nf_d9, nf_t9, nf_s9, nf_d10, nf_t10, nf_s10, nf_d11, nf_t11, nf_s11, nf_d12, nf_t12, nf_s12, nf_d13, nf_t13, nf_s13, nf_d14, nf_t14, nf_s14, nf_d15, nf_t15, nf_s15, nf_d16, nf_t16, nf_s16, nf_d17, nf_t17, nf_s17, nf_d18, nf_t18, nf_s18, nf_d19, nf_t19, nf_s19, nf_d20, nf_t20, nf_s20, List.set_cons_zero, List.set_cons_succ]
  refine v_putF K I 0 rfl rfl iX0 tyX0 tyX0_ok nmX0 2 (by decide) rfl (by decide +kernel) rfl rfl (Nat.le_of_ble_eq_true rfl) dX0_init_38 ?_
  refine v_aload_n K dX0_init_41 rfl ?_
  refine v_new (ci := 4) (fs := [.int 0, .null, .null]) K rfl iX4 tyX4 tyX4_ok (by decide +kernel) (by decide +kernel) (by decide +kernel) (fun j hj => by rcases (show j = 0 ∨ j = 1 ∨ j = 2 by omega) with rfl | rfl | rfl <;> rfl) ⟨by show ((((((0 + 1) + 4) + 1) + 1) + 1) + 1) + 1 ≤ 23; omega, by show ((((((0 + 3) + (2 + nr * 4 + 2 + nr)) + 2) + (nr)) + 2) + (nr)) + 3 ≤ 108 + 7 * nr + 14 * nw; omega⟩ dX0_init_42 (fun q42 => ?_)
  try dsimp only [Nat.reduceAdd, pk_t, pk_f, pk_n, nf_rep1, nf_rep0, nf_d0, nf_t0, nf_s0, nf_ac, nf_an, nf_d1, nf_t1, nf_s1, nf_d2, nf_t2, nf_s2, nf_d3, nf_t3, nf_s3, nf_d4, nf_t4, nf_s4, nf_d5, nf_t5, nf_s5, nf_d6, nf_t6, nf_s6, nf_d7, nf_t7, nf_s7, nf_d8, nf_t8, nf_s8, nf_d9, nf_t9, nf_s9, nf_d10, nf_t10, nf_s10, nf_d11, nf_t11, nf_s11, nf_d12, nf_t12, nf_s12, nf_d13, nf_t13, nf_s13, nf_d14, nf_t14, nf_s14, nf_d15, nf_t15, nf_s15, nf_d16, nf_t16, nf_s16, nf_d17, nf_t17, nf_s17, nf_d18, nf_t18, nf_s18, nf_d19, nf_t19, nf_s19, nf_d20, nf_t20, nf_s20, List.set_cons_zero, List.set_cons_succ]
  refine v_dup K dX0_init_45 rfl ?_
  refine v_bipush K (26) dX0_init_46 (by decide) ?_
  refine v_iconst K (2) dX0_init_48 (by decide) ?_
  refine v_callI K O [4] [0, 1, 2, 3] [true, true, true, true, false] (c_X4_init (XI X) (XB X) _ 26 2 ?hc49_0_4) rfl rfl ⟨by decide, by decide, by decide⟩ gX0_init_X4_init rfl rfl (by decide +kernel) (by decide +kernel) (by decide +kernel) rfl hdi_X4 ⟨rfl, rfl⟩ ⟨Nat.le_of_ble_eq_true rfl, Nat.le_of_ble_eq_true rfl⟩ (Nat.le_of_ble_eq_true rfl) ⟨by show (((((((0 + 1) + 4) + 1) + 1) + 1) + 1) + 1) + (4) ≤ 23; omega, by show (((((((0 + 3) + (2 + nr * 4 + 2 + nr)) + 2) + (nr)) + 2) + (nr)) + 3) + (2 + 26 * 2 + 2 + 26) ≤ 108 + 7 * nr + 14 * nw; omega⟩ rfl dX0_init_49 (fun Mc1 hpo => ?_)
  case hc49_0_4 => omega
  obtain ⟨c49, ca49, l49, la49, rfl⟩ := hpo
  try dsimp only [Nat.reduceAdd, pk_t, pk_f, pk_n, nf_rep1, nf_rep0, nf_d0, nf_t0, nf_s0, nf_ac, nf_an, nf_d1, nf_t1, nf_s1, nf_d2, nf_t2, nf_s2, nf_d3, nf_t3, nf_s3, nf_d4, nf_t4, nf_s4, nf_d5, nf_t5, nf_s5, nf_d6, nf_t6, nf_s6, nf_d7, nf_t7, nf_s7, nf_d8, nf_t8, nf_s8, nf_d9, nf_t9, nf_s9, nf_d10, nf_t10, nf_s10, nf_d11, nf_t11, nf_s11, nf_d12, nf_t12, nf_s12, nf_d13, nf_t13, nf_s13, nf_d14, nf_t14, nf_s14, nf_d15, nf_t15, nf_s15, nf_d16, nf_t16, nf_s16, nf_d17, nf_t17, nf_s17, nf_d18, nf_t18, nf_s18, nf_d19, nf_t19, nf_s19, nf_d20, nf_t20, nf_s20, List.set_cons_zero, List.set_cons_succ]
  refine v_putF K I 0 rfl rfl iX0 tyX0 tyX0_ok nmX0 3 (by decide) rfl (by decide +kernel) rfl rfl (Nat.le_of_ble_eq_true rfl) dX0_init_52 ?_
  refine v_aload_n K dX0_init_55 rfl ?_
  refine v_new (ci := 4) (fs := [.int 0, .null, .null]) K rfl iX4 tyX4 tyX4_ok (by decide +kernel) (by decide +kernel) (by decide +kernel) (fun j hj => by rcases (show j = 0 ∨ j = 1 ∨ j = 2 by omega) with rfl | rfl | rfl <;> rfl) ⟨by show ((((((((0 + 1) + 4) + 1) + 1) + 1) + 1) + 1) + 4) + 1 ≤ 23; omega, by show ((((((((0 + 3) + (2 + nr * 4 + 2 + nr)) + 2) + (nr)) + 2) + (nr)) + 3) + (2 + 26 * 2 + 2 + 26)) + 3 ≤ 108 + 7 * nr + 14 * nw; omega⟩ dX0_init_56 (fun q56 => ?_)
  try dsimp only [Nat.reduceAdd, pk_t, pk_f, pk_n, nf_rep1, nf_rep0, nf_d0, nf_t0, nf_s0, nf_ac, nf_an, nf_d1, nf_t1, nf_s1, nf_d2, nf_t2, nf_s2, nf_d3, nf_t3, nf_s3, nf_d4, nf_t4, nf_s4, nf_d5, nf_t5, nf_s5, nf_d6, nf_t6, nf_s6, nf_d7, nf_t7, nf_s7, nf_d8, nf_t8, nf_s8, nf_d9, nf_t9, nf_s9, nf_d10, nf_t10, nf_s10, nf_d11, nf_t11, nf_s11, nf_d12, nf_t12, nf_s12, nf_d13, nf_t13, nf_s13, nf_d14, nf_t14, nf_s14, nf_d15, nf_t15, nf_s15, nf_d16, nf_t16, nf_s16, nf_d17, nf_t17, nf_s17, nf_d18, nf_t18, nf_s18, nf_d19, nf_t19, nf_s19, nf_d20, nf_t20, nf_s20, List.set_cons_zero, List.set_cons_succ]
  refine v_dup K dX0_init_59 rfl ?_
  refine v_iload_n K dX0_init_60 rfl ?_
  refine v_bipush K (12) dX0_init_61 (by decide) ?_
  refine v_callI K O [5] [0, 1, 2, 3, 4] [true, true, true, true, true, false] (c_X4_init (XI X) (XB X) _ nw 12 ?hc63_0_5) rfl rfl ⟨by decide, by decide, by decide⟩ gX0_init_X4_init rfl rfl (by decide +kernel) (by decide +kernel) (by decide +kernel) rfl hdi_X4 ⟨rfl, rfl⟩ ⟨Nat.le_of_ble_eq_true rfl, Nat.le_of_ble_eq_true rfl⟩ (Nat.le_of_ble_eq_true rfl) ⟨by show (((((((((0 + 1) + 4) + 1) + 1) + 1) + 1) + 1) + 4) + 1) + (4) ≤ 23; omega, by show (((((((((0 + 3) + (2 + nr * 4 + 2 + nr)) + 2) + (nr)) + 2) + (nr)) + 3) + (2 + 26 * 2 + 2 + 26)) + 3) + (2 + nw * 12 + 2 + nw) ≤ 108 + 7 * nr + 14 * nw; omega⟩ rfl dX0_init_63 (fun Mc1 hpo => ?_)
  case hc63_0_5 => omega
  obtain ⟨c63, ca63, l63, la63, rfl⟩ := hpo
  try dsimp only [Nat.reduceAdd, pk_t, pk_f, pk_n, nf_rep1, nf_rep0, nf_d0, nf_t0, nf_s0, nf_ac, nf_an, nf_d1, nf_t1, nf_s1, nf_d2, nf_t2, nf_s2, nf_d3, nf_t3, nf_s3, nf_d4, nf_t4, nf_s4, nf_d5, nf_t5, nf_s5, nf_d6, nf_t6, nf_s6, nf_d7, nf_t7, nf_s7, nf_d8, nf_t8, nf_s8, nf_d9, nf_t9, nf_s9, nf_d10, nf_t10, nf_s10, nf_d11, nf_t11, nf_s11, nf_d12, nf_t12, nf_s12, nf_d13, nf_t13, nf_s13, nf_d14, nf_t14, nf_s14, nf_d15, nf_t15, nf_s15, nf_d16, nf_t16, nf_s16, nf_d17, nf_t17, nf_s17, nf_d18, nf_t18, nf_s18, nf_d19, nf_t19, nf_s19, nf_d20, nf_t20, nf_s20, List.set_cons_zero, List.set_cons_succ]
  refine v_putF K I 0 rfl rfl iX0 tyX0 tyX0_ok nmX0 4 (by decide) rfl (by decide +kernel) rfl rfl (Nat.le_of_ble_eq_true rfl) dX0_init_66 ?_
  refine v_aload_n K dX0_init_69 rfl ?_
  refine v_new (ci := 3) (fs := [.null, .int 0]) K rfl iX3 tyX3 tyX3_ok (by decide +kernel) (by decide +kernel) (by decide +kernel) (fun j hj => by rcases (show j = 0 ∨ j = 1 by omega) with rfl | rfl <;> rfl) ⟨by show ((((((((((0 + 1) + 4) + 1) + 1) + 1) + 1) + 1) + 4) + 1) + 4) + 1 ≤ 23; omega, by show ((((((((((0 + 3) + (2 + nr * 4 + 2 + nr)) + 2) + (nr)) + 2) + (nr)) + 3) + (2 + 26 * 2 + 2 + 26)) + 3) + (2 + nw * 12 + 2 + nw)) + 2 ≤ 108 + 7 * nr + 14 * nw; omega⟩ dX0_init_70 (fun q70 => ?_)
  try dsimp only [Nat.reduceAdd, pk_t, pk_f, pk_n, nf_rep1, nf_rep0, nf_d0, nf_t0, nf_s0, nf_ac, nf_an, nf_d1, nf_t1, nf_s1, nf_d2, nf_t2, nf_s2, nf_d3, nf_t3, nf_s3, nf_d4, nf_t4, nf_s4, nf_d5, nf_t5, nf_s5, nf_d6, nf_t6, nf_s6, nf_d7, nf_t7, nf_s7, nf_d8, nf_t8, nf_s8, nf_d9, nf_t9, nf_s9, nf_d10, nf_t10, nf_s10, nf_d11, nf_t11, nf_s11, nf_d12, nf_t12, nf_s12, nf_d13, nf_t13, nf_s13, nf_d14, nf_t14, nf_s14, nf_d15, nf_t15, nf_s15, nf_d16, nf_t16, nf_s16, nf_d17, nf_t17, nf_s17, nf_d18, nf_t18, nf_s18, nf_d19, nf_t19, nf_s19, nf_d20, nf_t20, nf_s20, List.set_cons_zero, List.set_cons_succ]
  refine v_dup K dX0_init_73 rfl ?_
  refine v_iload_n K dX0_init_74 rfl ?_
  refine v_callI K O [6] [0, 1, 2, 3, 4, 5] [true, true, true, true, true, true, false] (c_X3_init (XI X) (XB X) _ nw ?hc75_0_6) rfl rfl ⟨by decide, by decide, by decide⟩ gX0_init_X3_init rfl rfl (by decide +kernel) (by decide +kernel) (by decide +kernel) rfl hdi_X3 ⟨rfl, rfl⟩ ⟨Nat.le_of_ble_eq_true rfl, Nat.le_of_ble_eq_true rfl⟩ (Nat.le_of_ble_eq_true rfl) ⟨by show (((((((((((0 + 1) + 4) + 1) + 1) + 1) + 1) + 1) + 4) + 1) + 4) + 1) + (1) ≤ 23; omega, by show (((((((((((0 + 3) + (2 + nr * 4 + 2 + nr)) + 2) + (nr)) + 2) + (nr)) + 3) + (2 + 26 * 2 + 2 + 26)) + 3) + (2 + nw * 12 + 2 + nw)) + 2) + (nw) ≤ 108 + 7 * nr + 14 * nw; omega⟩ rfl dX0_init_75 (fun Mc1 hpo => ?_)
  case hc75_0_6 => omega
  obtain ⟨a75, rfl⟩ := hpo
  try dsimp only [Nat.reduceAdd, pk_t, pk_f, pk_n, nf_rep1, nf_rep0, nf_d0, nf_t0, nf_s0, nf_ac, nf_an, nf_d1, nf_t1, nf_s1, nf_d2, nf_t2, nf_s2, nf_d3, nf_t3, nf_s3, nf_d4, nf_t4, nf_s4, nf_d5, nf_t5, nf_s5, nf_d6, nf_t6, nf_s6, nf_d7, nf_t7, nf_s7, nf_d8, nf_t8, nf_s8, nf_d9, nf_t9, nf_s9, nf_d10, nf_t10, nf_s10, nf_d11, nf_t11, nf_s11, nf_d12, nf_t12, nf_s12, nf_d13, nf_t13, nf_s13, nf_d14, nf_t14, nf_s14, nf_d15, nf_t15, nf_s15, nf_d16, nf_t16, nf_s16, nf_d17, nf_t17, nf_s17, nf_d18, nf_t18, nf_s18, nf_d19, nf_t19, nf_s19, nf_d20, nf_t20, nf_s20, List.set_cons_zero, List.set_cons_succ]
  refine v_putF K I 0 rfl rfl iX0 tyX0 tyX0_ok nmX0 5 (by decide) rfl (by decide +kernel) rfl rfl (Nat.le_of_ble_eq_true rfl) dX0_init_78 ?_
  refine v_new (ci := 3) (fs := [.null, .int 0]) K rfl iX3 tyX3 tyX3_ok (by decide +kernel) (by decide +kernel) (by decide +kernel) (fun j hj => by rcases (show j = 0 ∨ j = 1 by omega) with rfl | rfl <;> rfl) ⟨by show ((((((((((((0 + 1) + 4) + 1) + 1) + 1) + 1) + 1) + 4) + 1) + 4) + 1) + 1) + 1 ≤ 23; omega, by show ((((((((((((0 + 3) + (2 + nr * 4 + 2 + nr)) + 2) + (nr)) + 2) + (nr)) + 3) + (2 + 26 * 2 + 2 + 26)) + 3) + (2 + nw * 12 + 2 + nw)) + 2) + (nw)) + 2 ≤ 108 + 7 * nr + 14 * nw; omega⟩ dX0_init_81 (fun q81 => ?_)
  try dsimp only [Nat.reduceAdd, pk_t, pk_f, pk_n, nf_rep1, nf_rep0, nf_d0, nf_t0, nf_s0, nf_ac, nf_an, nf_d1, nf_t1, nf_s1, nf_d2, nf_t2, nf_s2, nf_d3, nf_t3, nf_s3, nf_d4, nf_t4, nf_s4, nf_d5, nf_t5, nf_s5, nf_d6, nf_t6, nf_s6, nf_d7, nf_t7, nf_s7, nf_d8, nf_t8, nf_s8, nf_d9, nf_t9, nf_s9, nf_d10, nf_t10, nf_s10, nf_d11, nf_t11, nf_s11, nf_d12, nf_t12, nf_s12, nf_d13, nf_t13, nf_s13, nf_d14, nf_t14, nf_s14, nf_d15, nf_t15, nf_s15, nf_d16, nf_t16, nf_s16, nf_d17, nf_t17, nf_s17, nf_d18, nf_t18, nf_s18, nf_d19, nf_t19, nf_s19, nf_d20, nf_t20, nf_s20, List.set_cons_zero, List.set_cons_succ]
  refine v_dup K dX0_init_84 rfl ?_
  refine v_iconst K (1) dX0_init_85 (by decide) ?_
  refine v_callI K O [7] [0, 1, 2, 3, 4, 5, 6] [true, true, true, true, true, true, true, false] (c_X3_init (XI X) (XB X) _ 1 ?hc86_0_7) rfl rfl ⟨by decide, by decide, by decide⟩ gX0_init_X3_init rfl rfl (by decide +kernel) (by decide +kernel) (by decide +kernel) rfl hdi_X3 ⟨rfl, rfl⟩ ⟨Nat.le_of_ble_eq_true rfl, Nat.le_of_ble_eq_true rfl⟩ (Nat.le_of_ble_eq_true rfl) ⟨by show (((((((((((((0 + 1) + 4) + 1) + 1) + 1) + 1) + 1) + 4) + 1) + 4) + 1) + 1) + 1) + (1) ≤ 23; omega, by show (((((((((((((0 + 3) + (2 + nr * 4 + 2 + nr)) + 2) + (nr)) + 2) + (nr)) + 3) + (2 + 26 * 2 + 2 + 26)) + 3) + (2 + nw * 12 + 2 + nw)) + 2) + (nw)) + 2) + (1) ≤ 108 + 7 * nr + 14 * nw; omega⟩ rfl dX0_init_86 (fun Mc1 hpo => ?_)
  case hc86_0_7 => omega
  obtain ⟨a86, rfl⟩ := hpo
  try dsimp only [Nat.reduceAdd, pk_t, pk_f, pk_n, nf_rep1, nf_rep0, nf_d0, nf_t0, nf_s0, nf_ac, nf_an, nf_d1, nf_t1, nf_s1, nf_d2, nf_t2, nf_s2, nf_d3, nf_t3, nf_s3, nf_d4, nf_t4, nf_s4, nf_d5, nf_t5, nf_s5, nf_d6, nf_t6, nf_s6, nf_d7, nf_t7, nf_s7, nf_d8, nf_t8, nf_s8, nf_d9, nf_t9, nf_s9, nf_d10, nf_t10, nf_s10, nf_d11, nf_t11, nf_s11, nf_d12, nf_t12, nf_s12, nf_d13, nf_t13, nf_s13, nf_d14, nf_t14, nf_s14, nf_d15, nf_t15, nf_s15, nf_d16, nf_t16, nf_s16, nf_d17, nf_t17, nf_s17, nf_d18, nf_t18, nf_s18, nf_d19, nf_t19, nf_s19, nf_d20, nf_t20, nf_s20, List.set_cons_zero, List.set_cons_succ]
  refine v_astore_n K dX0_init_89 (by decide) ?_
  refine v_iconst K (0) dX0_init_90 (by decide) ?_
  refine v_istore K dX0_init_91 (by decide) ?_
  have lp : ∀ s, s ≤ 26 → ∀ (x : Int32), x = nI s → ∀ xs : List Int32, V X ((((((((((((((0 + 1) + 4) + 1) + 1) + 1) + 1) + 1) + 4) + 1) + 4) + 1) + 1) + 1) + 1) ((((((((((((((0 + 3) + (2 + nr * 4 + 2 + nr)) + 2) + (nr)) + 2) + (nr)) + 3) + (2 + 26 * 2 + 2 + 26)) + 3) + (2 + nw * 12 + 2 + nw)) + 2) + (nw)) + 2) + (1)) 93 [(0, .ref b0), (3, .ref q81), (4, .int x)] [] [cM b0 (.inr (0, [.ref q5, .ref q18, .ref q30, .ref q42, .ref q56, .ref q70])), rowsM (XI X) q5 c11 ca11 l11 la11 nr 4 [], rowM (XI X) q18 a23 nr [], rowM (XI X) q30 a35 nr [], rowsM (XI X) q42 c49 ca49 l49 la49 26 2 (mpG (fun s => [nI (97 + s)]) s), rowsM (XI X) q56 c63 ca63 l63 la63 nw 12 [], rowM (XI X) q70 a75 nw [], rowM (XI X) q81 a86 1 xs] := by
    refine loop_up 26 ?_
    intro s hs ih x hx xs
    subst hx
    refine v_iload K dX0_init_93 rfl ?_
    refine v_bipush K (26) dX0_init_95 (by decide) ?_
    refine v_ic_ge K 127 dX0_init_97 (by decide) (fun c97 => ?_) (fun c97 => ?_)
    · have he := up_end (N := 26) rfl (by omega) hs c97
      subst he
      refine v_mask [true, true, true, true, true, true, true, false] ?_
      try dsimp only [pk_t, pk_f, pk_n]
      refine v_cbook 0 (A := (fun n => ([b0, q5, c11, ca11, l11, la11, q18, a23, q30, a35, q42, c49, ca49, l49, la49, q56, c63, ca63, l63, la63, q70, a75] : List Nat).getD n 0)) (nr := nr) (nw := nw) (a := []) (b := []) (c := []) (d := mpG (fun s => [nI (97 + s)]) 26) (e := []) (f := []) (T := []) rfl ?_
      refine v_wide (k1' := 23) (k2' := 108 + 7 * nr + 14 * nw) (by omega) (by omega) ?_
      refine v_retA K E dX0_init_127 ?_
      exact ⟨(fun n => ([b0, q5, c11, ca11, l11, la11, q18, a23, q30, a35, q42, c49, ca49, l49, la49, q56, c63, ca63, l63, la63, q70, a75] : List Nat).getD n 0), rfl, rfl⟩
    · have hlt := up_lt (N := 26) rfl (by omega) hs c97
      refine v_aload_n K dX0_init_100 rfl ?_
      refine v_callVv K [7] (c_X3_clear (XI X) (XB X) _ _ _ _ ) rfl gX0_init_X3_clear rfl rfl hd_X3_clear ⟨rfl, rfl⟩ ⟨Nat.le_of_ble_eq_true rfl, Nat.le_of_ble_eq_true rfl⟩ 7 rfl rowF rfl (by decide) (Nat.le_of_ble_eq_true rfl) ⟨by show ((((((((((((((0 + 1) + 4) + 1) + 1) + 1) + 1) + 1) + 4) + 1) + 4) + 1) + 1) + 1) + 1) ≤ 23; omega, by show ((((((((((((((0 + 3) + (2 + nr * 4 + 2 + nr)) + 2) + (nr)) + 2) + (nr)) + 3) + (2 + 26 * 2 + 2 + 26)) + 3) + (2 + nw * 12 + 2 + nw)) + 2) + (nw)) + 2) + (1)) ≤ 108 + 7 * nr + 14 * nw; omega⟩ rfl dX0_init_101 ?_
      try dsimp only [Nat.reduceAdd, pk_t, pk_f, pk_n, nf_rep1, nf_rep0, nf_d0, nf_t0, nf_s0, nf_ac, nf_an, nf_d1, nf_t1, nf_s1, nf_d2, nf_t2, nf_s2, nf_d3, nf_t3, nf_s3, nf_d4, nf_t4, nf_s4, nf_d5, nf_t5, nf_s5, nf_d6, nf_t6, nf_s6, nf_d7, nf_t7, nf_s7, nf_d8, nf_t8, nf_s8, nf_d9, nf_t9, nf_s9, nf_d10, nf_t10, nf_s10, nf_d11, nf_t11, nf_s11, nf_d12, nf_t12, nf_s12, nf_d13, nf_t13, nf_s13, nf_d14, nf_t14, nf_s14, nf_d15, nf_t15, nf_s15, nf_d16, nf_t16, nf_s16, nf_d17, nf_t17, nf_s17, nf_d18, nf_t18, nf_s18, nf_d19, nf_t19, nf_s19, nf_d20, nf_t20, nf_s20, List.set_cons_zero, List.set_cons_succ]
      refine v_aload_n K dX0_init_104 rfl ?_
      refine v_bipush K (97) dX0_init_105 (by decide) ?_
      refine v_iload K dX0_init_107 rfl ?_
      refine v_iadd K dX0_init_109 ?_
      rw [show (97 : Int32) + nI s = nI (97 + s) from nI_add 97 s]
      refine v_callVv K [7] (c_X3_add (XI X) (XB X) _ _ _ _ _ ) rfl gX0_init_X3_add rfl rfl hd_X3_add ⟨rfl, rfl⟩ ⟨Nat.le_of_ble_eq_true rfl, Nat.le_of_ble_eq_true rfl⟩ 7 rfl rowF rfl (by decide) (Nat.le_of_ble_eq_true rfl) ⟨by show ((((((((((((((0 + 1) + 4) + 1) + 1) + 1) + 1) + 1) + 4) + 1) + 4) + 1) + 1) + 1) + 1) ≤ 23; omega, by show ((((((((((((((0 + 3) + (2 + nr * 4 + 2 + nr)) + 2) + (nr)) + 2) + (nr)) + 3) + (2 + 26 * 2 + 2 + 26)) + 3) + (2 + nw * 12 + 2 + nw)) + 2) + (nw)) + 2) + (1)) ≤ 108 + 7 * nr + 14 * nw; omega⟩ rfl dX0_init_110 ?_
      try dsimp only [Nat.reduceAdd, pk_t, pk_f, pk_n, nf_rep1, nf_rep0, nf_d0, nf_t0, nf_s0, nf_ac, nf_an, nf_d1, nf_t1, nf_s1, nf_d2, nf_t2, nf_s2, nf_d3, nf_t3, nf_s3, nf_d4, nf_t4, nf_s4, nf_d5, nf_t5, nf_s5, nf_d6, nf_t6, nf_s6, nf_d7, nf_t7, nf_s7, nf_d8, nf_t8, nf_s8, nf_d9, nf_t9, nf_s9, nf_d10, nf_t10, nf_s10, nf_d11, nf_t11, nf_s11, nf_d12, nf_t12, nf_s12, nf_d13, nf_t13, nf_s13, nf_d14, nf_t14, nf_s14, nf_d15, nf_t15, nf_s15, nf_d16, nf_t16, nf_s16, nf_d17, nf_t17, nf_s17, nf_d18, nf_t18, nf_s18, nf_d19, nf_t19, nf_s19, nf_d20, nf_t20, nf_s20, List.set_cons_zero, List.set_cons_succ]
      refine v_aload_n K dX0_init_113 rfl ?_
      refine v_get K 0 rfl hasF_c rfl iX0 3 (by decide) rfl (by decide +kernel) rfl dX0_init_114 ?_
      refine v_aload_n K dX0_init_117 rfl ?_
      refine v_callVv K [4, 7] (c_X4_add (XI X) (XB X) _ _ _ _ _ _ _ _ _ _ _ _ ) rfl gX0_init_X4_add rfl rfl hd_X4_add ⟨rfl, rfl⟩ ⟨Nat.le_of_ble_eq_true rfl, Nat.le_of_ble_eq_true rfl⟩ 4 rfl rowsF rfl (by decide) (Nat.le_of_ble_eq_true rfl) ⟨by show ((((((((((((((0 + 1) + 4) + 1) + 1) + 1) + 1) + 1) + 4) + 1) + 4) + 1) + 1) + 1) + 1) ≤ 23; omega, by show ((((((((((((((0 + 3) + (2 + nr * 4 + 2 + nr)) + 2) + (nr)) + 2) + (nr)) + 3) + (2 + 26 * 2 + 2 + 26)) + 3) + (2 + nw * 12 + 2 + nw)) + 2) + (nw)) + 2) + (1)) ≤ 108 + 7 * nr + 14 * nw; omega⟩ rfl dX0_init_118 ?_
      try dsimp only [Nat.reduceAdd, pk_t, pk_f, pk_n, nf_rep1, nf_rep0, nf_d0, nf_t0, nf_s0, nf_ac, nf_an, nf_d1, nf_t1, nf_s1, nf_d2, nf_t2, nf_s2, nf_d3, nf_t3, nf_s3, nf_d4, nf_t4, nf_s4, nf_d5, nf_t5, nf_s5, nf_d6, nf_t6, nf_s6, nf_d7, nf_t7, nf_s7, nf_d8, nf_t8, nf_s8, nf_d9, nf_t9, nf_s9, nf_d10, nf_t10, nf_s10, nf_d11, nf_t11, nf_s11, nf_d12, nf_t12, nf_s12, nf_d13, nf_t13, nf_s13, nf_d14, nf_t14, nf_s14, nf_d15, nf_t15, nf_s15, nf_d16, nf_t16, nf_s16, nf_d17, nf_t17, nf_s17, nf_d18, nf_t18, nf_s18, nf_d19, nf_t19, nf_s19, nf_d20, nf_t20, nf_s20, List.set_cons_zero, List.set_cons_succ]
      rw [show adL 1 [] (nI (97 + s)) = [nI (97 + s)] from rfl, adLn_in (by rw [mpG_len]; exact hlt) (by simp)]
      refine v_iinc K dX0_init_121 rfl (by decide) iinc_1 ?_
      refine v_goto K 93 dX0_init_124 (by decide) ?_
      exact v_j (ih hlt _ (nI_1 s) _) rfl rfl (by rw [mpG_add] <;> rfl)
  exact v_j (lp 0 (Nat.zero_le _) 0 rfl _) rfl rfl rfl
