theorem hdi_X2 : yX2_init.cls ≠ "java/lang/invoke/MethodHandle" ∧ yX2_init.cls ≠ "java/lang/invoke/VarHandle" ∧ (parseMethodDescriptor yX2_init.desc).map (fun d => d.parameters.length) = some 1 := by decide +kernel
set_option maxHeartbeats 4000000 in
set_option maxRecDepth 100000 in
theorem c_X2_init (cI cB : ClassId) (rd tx : Nat)  : CtA cI cB yX2_init wsX2_init { frames := 2, cells := 2, slots := 27, locals := 45 } (2) (27) [.ref rd, .ref tx] [cM rd (.inr (2, [.null, .null, .int 0, .int 0, .int 0, .int 0, .int 0]))] (fun M => ∃ lt la, M = [rdM rd lt tx 0 0 0 0 0, rowM cI lt la 25 []]) := by
  refine ct_ofA (cc := cX2_init) (maxL := 2) (by decide) rfl (Nat.le_of_ble_eq_true rfl) [(0, .ref rd), (1, .ref tx)] rfl rfl ?_
  intro X hI hB K O I E
  subst hI
  subst hB
  have iX2 : ∀ w ∈ u_ws RX2 TX2 7, w ∈ wsX2_init := by decide +kernel
  have iX3 : ∀ w ∈ u_ws RX3 TX3 2, w ∈ wsX2_init := by decide +kernel
  refine v_aload_n K dX2_init_0 rfl ?_
  refine v_obj K (by decide +kernel) (by decide +kernel) (by decide +kernel) (Nat.le_of_ble_eq_true rfl) (Nat.le_of_ble_eq_true rfl) dX2_init_1 ?_
  refine v_aload_n K dX2_init_4 rfl ?_
  refine v_new (ci := 3) (fs := [.null, .int 0]) K rfl iX3 tyX3 tyX3_ok (by decide +kernel) (by decide +kernel) (by decide +kernel) (fun j hj => by rcases (show j = 0 ∨ j = 1 by omega) with rfl | rfl <;> rfl) ⟨by show 0 + 1 ≤ 2; omega, by show 0 + 2 ≤ 27; omega⟩ dX2_init_5 (fun q5 => ?_)
  try dsimp only [Nat.reduceAdd, pk_t, pk_f, pk_n, nf_rep1, nf_rep0, nf_d0, nf_t0, nf_s0, nf_ac, nf_an, nf_d1, nf_t1, nf_s1, nf_d2, nf_t2, nf_s2, nf_d3, nf_t3, nf_s3, nf_d4, nf_t4, nf_s4, nf_d5, nf_t5, nf_s5, nf_d6, nf_t6, nf_s6, nf_d7, nf_t7, nf_s7, nf_d8, nf_t8, nf_s8, nf_d9, nf_t9, nf_s9, nf_d10, nf_t10, nf_s10, nf_d11, nf_t11, nf_s11, nf_d12, nf_t12, nf_s12, nf_d13, nf_t13, nf_s13, nf_d14, nf_t14, nf_s14, nf_d15, nf_t15, nf_s15, nf_d16, nf_t16, nf_s16, nf_d17, nf_t17, nf_s17, nf_d18, nf_t18, nf_s18, nf_d19, nf_t19, nf_s19, nf_d20, nf_t20, nf_s20, List.set_cons_zero, List.set_cons_succ]
  refine v_dup K dX2_init_8 rfl ?_
  refine v_bipush K (25) dX2_init_9 (by decide) ?_
  refine v_callI K O [1] [0] [true, false] (c_X3_init (XI X) (XB X) _ 25 ?hc11_0_1) rfl rfl ⟨by decide, by decide, by decide⟩ gX2_init_X3_init rfl rfl (by decide +kernel) (by decide +kernel) (by decide +kernel) rfl hdi_X3 ⟨rfl, rfl⟩ ⟨Nat.le_of_ble_eq_true rfl, Nat.le_of_ble_eq_true rfl⟩ (Nat.le_of_ble_eq_true rfl) ⟨by show (0 + 1) + (1) ≤ 2; omega, by show (0 + 2) + (25) ≤ 27; omega⟩ rfl dX2_init_11 (fun Mc1 hpo => ?_)
  case hc11_0_1 => omega
  obtain ⟨a11, rfl⟩ := hpo
  try dsimp only [Nat.reduceAdd, pk_t, pk_f, pk_n, nf_rep1, nf_rep0, nf_d0, nf_t0, nf_s0, nf_ac, nf_an, nf_d1, nf_t1, nf_s1, nf_d2, nf_t2, nf_s2, nf_d3, nf_t3, nf_s3, nf_d4, nf_t4, nf_s4, nf_d5, nf_t5, nf_s5, nf_d6, nf_t6, nf_s6, nf_d7, nf_t7, nf_s7, nf_d8, nf_t8, nf_s8, nf_d9, nf_t9, nf_s9, nf_d10, nf_t10, nf_s10, nf_d11, nf_t11, nf_s11, nf_d12, nf_t12, nf_s12, nf_d13, nf_t13, nf_s13, nf_d14, nf_t14, nf_s14, nf_d15, nf_t15, nf_s15, nf_d16, nf_t16, nf_s16, nf_d17, nf_t17, nf_s17, nf_d18, nf_t18, nf_s18, nf_d19, nf_t19, nf_s19, nf_d20, nf_t20, nf_s20, List.set_cons_zero, List.set_cons_succ]
  refine v_putF K I 0 rfl rfl iX2 tyX2 tyX2_ok nmX2 0 (by decide) rfl (by decide +kernel) rfl rfl (Nat.le_of_ble_eq_true rfl) dX2_init_14 ?_
  refine v_aload_n K dX2_init_17 rfl ?_
  refine v_aload_n K dX2_init_18 rfl ?_
  refine v_putF K I 0 rfl rfl iX2 tyX2 tyX2_ok nmX2 1 (by decide) rfl (by decide +kernel) rfl rfl (Nat.le_of_ble_eq_true rfl) dX2_init_19 ?_
  refine v_wide (k1' := 2) (k2' := 27) (by omega) (by omega) ?_
  refine v_retA K E dX2_init_22 ?_
  exact ⟨_, _, rfl⟩

theorem hdi_X5 : yX5_init.cls ≠ "java/lang/invoke/MethodHandle" ∧ yX5_init.cls ≠ "java/lang/invoke/VarHandle" ∧ (parseMethodDescriptor yX5_init.desc).map (fun d => d.parameters.length) = some 0 := by decide +kernel
set_option maxHeartbeats 4000000 in
set_option maxRecDepth 100000 in
theorem c_X5_init (cI cB : ClassId) (s0 : Nat)  : CtA cI cB yX5_init wsX5_init { frames := 2, cells := 8, slots := 69, locals := 45 } (8) (69) [.ref s0] [cM s0 (.inr (5, [.null, .null, .null, .null]))] (fun M => ∃ A : Nat → Nat, A 0 = s0 ∧ M = [spM cI A ([], [], [], [])]) := by
  refine ct_ofA (cc := cX5_init) (maxL := 1) (by decide) rfl (Nat.le_of_ble_eq_true rfl) [(0, .ref s0)] rfl rfl ?_
  intro X hI hB K O I E
  subst hI
  subst hB
  have iX3 : ∀ w ∈ u_ws RX3 TX3 2, w ∈ wsX5_init := by decide +kernel
  have iX5 : ∀ w ∈ u_ws RX5 TX5 4, w ∈ wsX5_init := by decide +kernel
  refine v_aload_n K dX5_init_0 rfl ?_
  refine v_obj K (by decide +kernel) (by decide +kernel) (by decide +kernel) (Nat.le_of_ble_eq_true rfl) (Nat.le_of_ble_eq_true rfl) dX5_init_1 ?_
  refine v_aload_n K dX5_init_4 rfl ?_
  refine v_new (ci := 3) (fs := [.null, .int 0]) K rfl iX3 tyX3 tyX3_ok (by decide +kernel) (by decide +kernel) (by decide +kernel) (fun j hj => by rcases (show j = 0 ∨ j = 1 by omega) with rfl | rfl <;> rfl) ⟨by show 0 + 1 ≤ 8; omega, by show 0 + 2 ≤ 69; omega⟩ dX5_init_5 (fun q5 => ?_)
  try dsimp only [Nat.reduceAdd, pk_t, pk_f, pk_n, nf_rep1, nf_rep0, nf_d0, nf_t0, nf_s0, nf_ac, nf_an, nf_d1, nf_t1, nf_s1, nf_d2, nf_t2, nf_s2, nf_d3, nf_t3, nf_s3, nf_d4, nf_t4, nf_s4, nf_d5, nf_t5, nf_s5, nf_d6, nf_t6, nf_s6, nf_d7, nf_t7, nf_s7, nf_d8, nf_t8, nf_s8, nf_d9, nf_t9, nf_s9, nf_d10, nf_t10, nf_s10, nf_d11, nf_t11, nf_s11, nf_d12, nf_t12, nf_s12, nf_d13, nf_t13, nf_s13, nf_d14, nf_t14, nf_s14, nf_d15, nf_t15, nf_s15, nf_d16, nf_t16, nf_s16, nf_d17, nf_t17, nf_s17, nf_d18, nf_t18, nf_s18, nf_d19, nf_t19, nf_s19, nf_d20, nf_t20, nf_s20, List.set_cons_zero, List.set_cons_succ]
  refine v_dup K dX5_init_8 rfl ?_
  refine v_bipush K (12) dX5_init_9 (by decide) ?_
  refine v_callI K O [1] [0] [true, false] (c_X3_init (XI X) (XB X) _ 12 ?hc11_0_1) rfl rfl ⟨by decide, by decide, by decide⟩ gX5_init_X3_init rfl rfl (by decide +kernel) (by decide +kernel) (by decide +kernel) rfl hdi_X3 ⟨rfl, rfl⟩ ⟨Nat.le_of_ble_eq_true rfl, Nat.le_of_ble_eq_true rfl⟩ (Nat.le_of_ble_eq_true rfl) ⟨by show (0 + 1) + (1) ≤ 8; omega, by show (0 + 2) + (12) ≤ 69; omega⟩ rfl dX5_init_11 (fun Mc1 hpo => ?_)
  case hc11_0_1 => omega
  obtain ⟨a11, rfl⟩ := hpo
  try dsimp only [Nat.reduceAdd, pk_t, pk_f, pk_n, nf_rep1, nf_rep0, nf_d0, nf_t0, nf_s0, nf_ac, nf_an, nf_d1, nf_t1, nf_s1, nf_d2, nf_t2, nf_s2, nf_d3, nf_t3, nf_s3, nf_d4, nf_t4, nf_s4, nf_d5, nf_t5, nf_s5, nf_d6, nf_t6, nf_s6, nf_d7, nf_t7, nf_s7, nf_d8, nf_t8, nf_s8, nf_d9, nf_t9, nf_s9, nf_d10, nf_t10, nf_s10, nf_d11, nf_t11, nf_s11, nf_d12, nf_t12, nf_s12, nf_d13, nf_t13, nf_s13, nf_d14, nf_t14, nf_s14, nf_d15, nf_t15, nf_s15, nf_d16, nf_t16, nf_s16, nf_d17, nf_t17, nf_s17, nf_d18, nf_t18, nf_s18, nf_d19, nf_t19, nf_s19, nf_d20, nf_t20, nf_s20, List.set_cons_zero, List.set_cons_succ]
  refine v_putF K I 0 rfl rfl iX5 tyX5 tyX5_ok nmX5 0 (by decide) rfl (by decide +kernel) rfl rfl (Nat.le_of_ble_eq_true rfl) dX5_init_14 ?_
  refine v_aload_n K dX5_init_17 rfl ?_
  refine v_new (ci := 3) (fs := [.null, .int 0]) K rfl iX3 tyX3 tyX3_ok (by decide +kernel) (by decide +kernel) (by decide +kernel) (fun j hj => by rcases (show j = 0 ∨ j = 1 by omega) with rfl | rfl <;> rfl) ⟨by show ((0 + 1) + 1) + 1 ≤ 8; omega, by show ((0 + 2) + (12)) + 2 ≤ 69; omega⟩ dX5_init_18 (fun q18 => ?_)
  try dsimp only [Nat.reduceAdd, pk_t, pk_f, pk_n, nf_rep1, nf_rep0, nf_d0, nf_t0, nf_s0, nf_ac, nf_an, nf_d1, nf_t1, nf_s1, nf_d2, nf_t2, nf_s2, nf_d3, nf_t3, nf_s3, nf_d4, nf_t4, nf_s4, nf_d5, nf_t5, nf_s5, nf_d6, nf_t6, nf_s6, nf_d7, nf_t7, nf_s7, nf_d8, nf_t8, nf_s8, nf_d9, nf_t9, nf_s9, nf_d10, nf_t10, nf_s10, nf_d11, nf_t11, nf_s11, nf_d12, nf_t12, nf_s12, nf_d13, nf_t13, nf_s13, nf_d14, nf_t14, nf_s14, nf_d15, nf_t15, nf_s15, nf_d16, nf_t16, nf_s16, nf_d17, nf_t17, nf_s17, nf_d18, nf_t18, nf_s18, nf_d19, nf_t19, nf_s19, nf_d20, nf_t20, nf_s20, List.set_cons_zero, List.set_cons_succ]
  refine v_dup K dX5_init_21 rfl ?_
  refine v_bipush K (12) dX5_init_22 (by decide) ?_
  refine v_callI K O [2] [0, 1] [true, true, false] (c_X3_init (XI X) (XB X) _ 12 ?hc24_0_2) rfl rfl ⟨by decide, by decide, by decide⟩ gX5_init_X3_init rfl rfl (by decide +kernel) (by decide +kernel) (by decide +kernel) rfl hdi_X3 ⟨rfl, rfl⟩ ⟨Nat.le_of_ble_eq_true rfl, Nat.le_of_ble_eq_true rfl⟩ (Nat.le_of_ble_eq_true rfl) ⟨by show (((0 + 1) + 1) + 1) + (1) ≤ 8; omega, by show (((0 + 2) + (12)) + 2) + (12) ≤ 69; omega⟩ rfl dX5_init_24 (fun Mc1 hpo => ?_)
  case hc24_0_2 => omega
  obtain ⟨a24, rfl⟩ := hpo
  try dsimp only [Nat.reduceAdd, pk_t, pk_f, pk_n, nf_rep1, nf_rep0, nf_d0, nf_t0, nf_s0, nf_ac, nf_an, nf_d1, nf_t1, nf_s1, nf_d2, nf_t2, nf_s2, nf_d3, nf_t3, nf_s3, nf_d4, nf_t4, nf_s4, nf_d5, nf_t5, nf_s5, nf_d6, nf_t6, nf_s6, nf_d7, nf_t7, nf_s7, nf_d8, nf_t8, nf_s8, nf_d9, nf_t9, nf_s9, nf_d10, nf_t10, nf_s10, nf_d11, nf_t11, nf_s11, nf_d12, nf_t12, nf_s12, nf_d13, nf_t13, nf_s13, nf_d14, nf_t14, nf_s14, nf_d15, nf_t15, nf_s15, nf_d16, nf_t16, nf_s16, nf_d17, nf_t17, nf_s17, nf_d18, nf_t18, nf_s18, nf_d19, nf_t19, nf_s19, nf_d20, nf_t20, nf_s20, List.set_cons_zero, List.set_cons_succ]
  refine v_putF K I 0 rfl rfl iX5 tyX5 tyX5_ok nmX5 1 (by decide) rfl (by decide +kernel) rfl rfl (Nat.le_of_ble_eq_true rfl) dX5_init_27 ?_
  refine v_aload_n K dX5_init_30 rfl ?_
  refine v_new (ci := 3) (fs := [.null, .int 0]) K rfl iX3 tyX3 tyX3_ok (by decide +kernel) (by decide +kernel) (by decide +kernel) (fun j hj => by rcases (show j = 0 ∨ j = 1 by omega) with rfl | rfl <;> rfl) ⟨by show ((((0 + 1) + 1) + 1) + 1) + 1 ≤ 8; omega, by show ((((0 + 2) + (12)) + 2) + (12)) + 2 ≤ 69; omega⟩ dX5_init_31 (fun q31 => ?_)
  try dsimp only [Nat.reduceAdd, pk_t, pk_f, pk_n, nf_rep1, nf_rep0, nf_d0, nf_t0, nf_s0, nf_ac, nf_an, nf_d1, nf_t1, nf_s1, nf_d2, nf_t2, nf_s2, nf_d3, nf_t3, nf_s3, nf_d4, nf_t4, nf_s4, nf_d5, nf_t5, nf_s5, nf_d6, nf_t6, nf_s6, nf_d7, nf_t7, nf_s7, nf_d8, nf_t8, nf_s8, nf_d9, nf_t9, nf_s9, nf_d10, nf_t10, nf_s10, nf_d11, nf_t11, nf_s11, nf_d12, nf_t12, nf_s12, nf_d13, nf_t13, nf_s13, nf_d14, nf_t14, nf_s14, nf_d15, nf_t15, nf_s15, nf_d16, nf_t16, nf_s16, nf_d17, nf_t17, nf_s17, nf_d18, nf_t18, nf_s18, nf_d19, nf_t19, nf_s19, nf_d20, nf_t20, nf_s20, List.set_cons_zero, List.set_cons_succ]
  refine v_dup K dX5_init_34 rfl ?_
  refine v_bipush K (12) dX5_init_35 (by decide) ?_
  refine v_callI K O [3] [0, 1, 2] [true, true, true, false] (c_X3_init (XI X) (XB X) _ 12 ?hc37_0_3) rfl rfl ⟨by decide, by decide, by decide⟩ gX5_init_X3_init rfl rfl (by decide +kernel) (by decide +kernel) (by decide +kernel) rfl hdi_X3 ⟨rfl, rfl⟩ ⟨Nat.le_of_ble_eq_true rfl, Nat.le_of_ble_eq_true rfl⟩ (Nat.le_of_ble_eq_true rfl) ⟨by show (((((0 + 1) + 1) + 1) + 1) + 1) + (1) ≤ 8; omega, by show (((((0 + 2) + (12)) + 2) + (12)) + 2) + (12) ≤ 69; omega⟩ rfl dX5_init_37 (fun Mc1 hpo => ?_)
  case hc37_0_3 => omega
  obtain ⟨a37, rfl⟩ := hpo
  try dsimp only [Nat.reduceAdd, pk_t, pk_f, pk_n, nf_rep1, nf_rep0, nf_d0, nf_t0, nf_s0, nf_ac, nf_an, nf_d1, nf_t1, nf_s1, nf_d2, nf_t2, nf_s2, nf_d3, nf_t3, nf_s3, nf_d4, nf_t4, nf_s4, nf_d5, nf_t5, nf_s5, nf_d6, nf_t6, nf_s6, nf_d7, nf_t7, nf_s7, nf_d8, nf_t8, nf_s8, nf_d9, nf_t9, nf_s9, nf_d10, nf_t10, nf_s10, nf_d11, nf_t11, nf_s11, nf_d12, nf_t12, nf_s12, nf_d13, nf_t13, nf_s13, nf_d14, nf_t14, nf_s14, nf_d15, nf_t15, nf_s15, nf_d16, nf_t16, nf_s16, nf_d17, nf_t17, nf_s17, nf_d18, nf_t18, nf_s18, nf_d19, nf_t19, nf_s19, nf_d20, nf_t20, nf_s20, List.set_cons_zero, List.set_cons_succ]
  refine v_putF K I 0 rfl rfl iX5 tyX5 tyX5_ok nmX5 2 (by decide) rfl (by decide +kernel) rfl rfl (Nat.le_of_ble_eq_true rfl) dX5_init_40 ?_
  refine v_aload_n K dX5_init_43 rfl ?_
  refine v_new (ci := 3) (fs := [.null, .int 0]) K rfl iX3 tyX3 tyX3_ok (by decide +kernel) (by decide +kernel) (by decide +kernel) (fun j hj => by rcases (show j = 0 ∨ j = 1 by omega) with rfl | rfl <;> rfl) ⟨by show ((((((0 + 1) + 1) + 1) + 1) + 1) + 1) + 1 ≤ 8; omega, by show ((((((0 + 2) + (12)) + 2) + (12)) + 2) + (12)) + 2 ≤ 69; omega⟩ dX5_init_44 (fun q44 => ?_)
  try dsimp only [Nat.reduceAdd, pk_t, pk_f, pk_n, nf_rep1, nf_rep0, nf_d0, nf_t0, nf_s0, nf_ac, nf_an, nf_d1, nf_t1, nf_s1, nf_d2, nf_t2, nf_s2, nf_d3, nf_t3, nf_s3, nf_d4, nf_t4, nf_s4, nf_d5, nf_t5, nf_s5, nf_d6, nf_t6, nf_s6, nf_d7, nf_t7, nf_s7, nf_d8, nf_t8, nf_s8, nf_d9, nf_t9, nf_s9, nf_d10, nf_t10, nf_s10, nf_d11, nf_t11, nf_s11, nf_d12, nf_t12, nf_s12, nf_d13, nf_t13, nf_s13, nf_d14, nf_t14, nf_s14, nf_d15, nf_t15, nf_s15, nf_d16, nf_t16, nf_s16, nf_d17, nf_t17, nf_s17, nf_d18, nf_t18, nf_s18, nf_d19, nf_t19, nf_s19, nf_d20, nf_t20, nf_s20, List.set_cons_zero, List.set_cons_succ]
  refine v_dup K dX5_init_47 rfl ?_
  refine v_bipush K (25) dX5_init_48 (by decide) ?_
  refine v_callI K O [4] [0, 1, 2, 3] [true, true, true, true, false] (c_X3_init (XI X) (XB X) _ 25 ?hc50_0_4) rfl rfl ⟨by decide, by decide, by decide⟩ gX5_init_X3_init rfl rfl (by decide +kernel) (by decide +kernel) (by decide +kernel) rfl hdi_X3 ⟨rfl, rfl⟩ ⟨Nat.le_of_ble_eq_true rfl, Nat.le_of_ble_eq_true rfl⟩ (Nat.le_of_ble_eq_true rfl) ⟨by show (((((((0 + 1) + 1) + 1) + 1) + 1) + 1) + 1) + (1) ≤ 8; omega, by show (((((((0 + 2) + (12)) + 2) + (12)) + 2) + (12)) + 2) + (25) ≤ 69; omega⟩ rfl dX5_init_50 (fun Mc1 hpo => ?_)
  case hc50_0_4 => omega
  obtain ⟨a50, rfl⟩ := hpo
  try dsimp only [Nat.reduceAdd, pk_t, pk_f, pk_n, nf_rep1, nf_rep0, nf_d0, nf_t0, nf_s0, nf_ac, nf_an, nf_d1, nf_t1, nf_s1, nf_d2, nf_t2, nf_s2, nf_d3, nf_t3, nf_s3, nf_d4, nf_t4, nf_s4, nf_d5, nf_t5, nf_s5, nf_d6, nf_t6, nf_s6, nf_d7, nf_t7, nf_s7, nf_d8, nf_t8, nf_s8, nf_d9, nf_t9, nf_s9, nf_d10, nf_t10, nf_s10, nf_d11, nf_t11, nf_s11, nf_d12, nf_t12, nf_s12, nf_d13, nf_t13, nf_s13, nf_d14, nf_t14, nf_s14, nf_d15, nf_t15, nf_s15, nf_d16, nf_t16, nf_s16, nf_d17, nf_t17, nf_s17, nf_d18, nf_t18, nf_s18, nf_d19, nf_t19, nf_s19, nf_d20, nf_t20, nf_s20, List.set_cons_zero, List.set_cons_succ]
  refine v_putF K I 0 rfl rfl iX5 tyX5 tyX5_ok nmX5 3 (by decide) rfl (by decide +kernel) rfl rfl (Nat.le_of_ble_eq_true rfl) dX5_init_53 ?_
  refine v_csp 0 (A := (fun n => ([s0, q5, a11, q18, a24, q31, a37, q44, a50] : List Nat).getD n 0)) (a := []) (b := []) (c := []) (d := []) (T := []) rfl ?_
  refine v_wide (k1' := 8) (k2' := 69) (by omega) (by omega) ?_
  refine v_retA K E dX5_init_56 ?_
  exact ⟨(fun n => ([s0, q5, a11, q18, a24, q31, a37, q44, a50] : List Nat).getD n 0), rfl, rfl⟩

theorem hdi_X6 : yX6_init.cls ≠ "java/lang/invoke/MethodHandle" ∧ yX6_init.cls ≠ "java/lang/invoke/VarHandle" ∧ (parseMethodDescriptor yX6_init.desc).map (fun d => d.parameters.length) = some 0 := by decide +kernel
set_option maxHeartbeats 4000000 in
set_option maxRecDepth 100000 in
theorem c_X6_init (cI cB : ClassId) (v0 : Nat)  : CtA cI cB yX6_init wsX6_init { frames := 3, cells := 34, slots := 1250, locals := 67 } (34) (1250) [.ref v0] [cM v0 (.inr (6, [.null, .null, .null, .null, .null, .null, .null]))] (fun M => ∃ A : Nat → Nat, A 0 = v0 ∧ M = [svM cI A ([], [], [], [], [])]) := by
  refine ct_ofA (cc := cX6_init) (maxL := 1) (by decide) rfl (Nat.le_of_ble_eq_true rfl) [(0, .ref v0)] rfl rfl ?_
  intro X hI hB K O I E
  subst hI
  subst hB
  have iX3 : ∀ w ∈ u_ws RX3 TX3 2, w ∈ wsX6_init := by decide +kernel
  have iX4 : ∀ w ∈ u_ws RX4 TX4 3, w ∈ wsX6_init := by decide +kernel
  have iX5 : ∀ w ∈ u_ws RX5 TX5 4, w ∈ wsX6_init := by decide +kernel
  have iX6 : ∀ w ∈ u_ws RX6 TX6 7, w ∈ wsX6_init := by decide +kernel
  refine v_aload_n K dX6_init_0 rfl ?_
  refine v_obj K (by decide +kernel) (by decide +kernel) (by decide +kernel) (Nat.le_of_ble_eq_true rfl) (Nat.le_of_ble_eq_true rfl) dX6_init_1 ?_
  refine v_aload_n K dX6_init_4 rfl ?_
  refine v_new (ci := 4) (fs := [.int 0, .null, .null]) K rfl iX4 tyX4 tyX4_ok (by decide +kernel) (by decide +kernel) (by decide +kernel) (fun j hj => by rcases (show j = 0 ∨ j = 1 ∨ j = 2 by omega) with rfl | rfl | rfl <;> rfl) ⟨by show 0 + 1 ≤ 34; omega, by show 0 + 3 ≤ 1250; omega⟩ dX6_init_5 (fun q5 => ?_)
  try dsimp only [Nat.reduceAdd, pk_t, pk_f, pk_n, nf_rep1, nf_rep0, nf_d0, nf_t0, nf_s0, nf_ac, nf_an, nf_d1, nf_t1, nf_s1, nf_d2, nf_t2, nf_s2, nf_d3, nf_t3, nf_s3, nf_d4, nf_t4, nf_s4, nf_d5, nf_t5, nf_s5, nf_d6, nf_t6, nf_s6, nf_d7, nf_t7, nf_s7, nf_d8, nf_t8, nf_s8, nf_d9, nf_t9, nf_s9, nf_d10, nf_t10, nf_s10, nf_d11, nf_t11, nf_s11, nf_d12, nf_t12, nf_s12, nf_d13, nf_t13, nf_s13, nf_d14, nf_t14, nf_s14, nf_d15, nf_t15, nf_s15, nf_d16, nf_t16, nf_s16, nf_d17, nf_t17, nf_s17, nf_d18, nf_t18, nf_s18, nf_d19, nf_t19, nf_s19, nf_d20, nf_t20, nf_s20, List.set_cons_zero, List.set_cons_succ]
  refine v_dup K dX6_init_8 rfl ?_
  refine v_bipush K (20) dX6_init_9 (by decide) ?_
  refine v_bipush K (12) dX6_init_11 (by decide) ?_
  refine v_callI K O [1] [0] [true, false] (c_X4_init (XI X) (XB X) _ 20 12 ?hc13_0_1) rfl rfl ⟨by decide, by decide, by decide⟩ gX6_init_X4_init rfl rfl (by decide +kernel) (by decide +kernel) (by decide +kernel) rfl hdi_X4 ⟨rfl, rfl⟩ ⟨Nat.le_of_ble_eq_true rfl, Nat.le_of_ble_eq_true rfl⟩ (Nat.le_of_ble_eq_true rfl) ⟨by show (0 + 1) + (4) ≤ 34; omega, by show (0 + 3) + (2 + 20 * 12 + 2 + 20) ≤ 1250; omega⟩ rfl dX6_init_13 (fun Mc1 hpo => ?_)
  case hc13_0_1 => omega
  obtain ⟨c13, ca13, l13, la13, rfl⟩ := hpo
  try dsimp only [Nat.reduceAdd, pk_t, pk_f, pk_n, nf_rep1, nf_rep0, nf_d0, nf_t0, nf_s0, nf_ac, nf_an, nf_d1, nf_t1, nf_s1, nf_d2, nf_t2, nf_s2, nf_d3, nf_t3, nf_s3, nf_d4, nf_t4, nf_s4, nf_d5, nf_t5, nf_s5, nf_d6, nf_t6, nf_s6, nf_d7, nf_t7, nf_s7, nf_d8, nf_t8, nf_s8, nf_d9, nf_t9, nf_s9, nf_d10, nf_t10, nf_s10, nf_d11, nf_t11, nf_s11, nf_d12, nf_t12, nf_s12, nf_d13, nf_t13, nf_s13, nf_d14, nf_t14, nf_s14, nf_d15, nf_t15, nf_s15, nf_d16, nf_t16, nf_s16, nf_d17, nf_t17, nf_s17, nf_d18, nf_t18, nf_s18, nf_d19, nf_t19, nf_s19, nf_d20, nf_t20, nf_s20, List.set_cons_zero, List.set_cons_succ]
  refine v_putF K I 0 rfl rfl iX6 tyX6 tyX6_ok nmX6 0 (by decide) rfl (by decide +kernel) rfl rfl (Nat.le_of_ble_eq_true rfl) dX6_init_16 ?_
  refine v_aload_n K dX6_init_19 rfl ?_
  refine v_new (ci := 4) (fs := [.int 0, .null, .null]) K rfl iX4 tyX4 tyX4_ok (by decide +kernel) (by decide +kernel) (by decide +kernel) (fun j hj => by rcases (show j = 0 ∨ j = 1 ∨ j = 2 by omega) with rfl | rfl | rfl <;> rfl) ⟨by show ((0 + 1) + 4) + 1 ≤ 34; omega, by show ((0 + 3) + (2 + 20 * 12 + 2 + 20)) + 3 ≤ 1250; omega⟩ dX6_init_20 (fun q20 => ?_)
  try dsimp only [Nat.reduceAdd, pk_t, pk_f, pk_n, nf_rep1, nf_rep0, nf_d0, nf_t0, nf_s0, nf_ac, nf_an, nf_d1, nf_t1, nf_s1, nf_d2, nf_t2, nf_s2, nf_d3, nf_t3, nf_s3, nf_d4, nf_t4, nf_s4, nf_d5, nf_t5, nf_s5, nf_d6, nf_t6, nf_s6, nf_d7, nf_t7, nf_s7, nf_d8, nf_t8, nf_s8, nf_d9, nf_t9, nf_s9, nf_d10, nf_t10, nf_s10, nf_d11, nf_t11, nf_s11, nf_d12, nf_t12, nf_s12, nf_d13, nf_t13, nf_s13, nf_d14, nf_t14, nf_s14, nf_d15, nf_t15, nf_s15, nf_d16, nf_t16, nf_s16, nf_d17, nf_t17, nf_s17, nf_d18, nf_t18, nf_s18, nf_d19, nf_t19, nf_s19, nf_d20, nf_t20, nf_s20, List.set_cons_zero, List.set_cons_succ]
  refine v_dup K dX6_init_23 rfl ?_
  refine v_bipush K (20) dX6_init_24 (by decide) ?_
  refine v_bipush K (12) dX6_init_26 (by decide) ?_
  refine v_callI K O [2] [0, 1] [true, true, false] (c_X4_init (XI X) (XB X) _ 20 12 ?hc28_0_2) rfl rfl ⟨by decide, by decide, by decide⟩ gX6_init_X4_init rfl rfl (by decide +kernel) (by decide +kernel) (by decide +kernel) rfl hdi_X4 ⟨rfl, rfl⟩ ⟨Nat.le_of_ble_eq_true rfl, Nat.le_of_ble_eq_true rfl⟩ (Nat.le_of_ble_eq_true rfl) ⟨by show (((0 + 1) + 4) + 1) + (4) ≤ 34; omega, by show (((0 + 3) + (2 + 20 * 12 + 2 + 20)) + 3) + (2 + 20 * 12 + 2 + 20) ≤ 1250; omega⟩ rfl dX6_init_28 (fun Mc1 hpo => ?_)
  case hc28_0_2 => omega
  obtain ⟨c28, ca28, l28, la28, rfl⟩ := hpo
  try dsimp only [Nat.reduceAdd, pk_t, pk_f, pk_n, nf_rep1, nf_rep0, nf_d0, nf_t0, nf_s0, nf_ac, nf_an, nf_d1, nf_t1, nf_s1, nf_d2, nf_t2, nf_s2, nf_d3, nf_t3, nf_s3, nf_d4, nf_t4, nf_s4, nf_d5, nf_t5, nf_s5, nf_d6, nf_t6, nf_s6, nf_d7, nf_t7, nf_s7, nf_d8, nf_t8, nf_s8, nf_d9, nf_t9, nf_s9, nf_d10, nf_t10, nf_s10, nf_d11, nf_t11, nf_s11, nf_d12, nf_t12, nf_s12, nf_d13, nf_t13, nf_s13, nf_d14, nf_t14, nf_s14, nf_d15, nf_t15, nf_s15, nf_d16, nf_t16, nf_s16, nf_d17, nf_t17, nf_s17, nf_d18, nf_t18, nf_s18, nf_d19, nf_t19, nf_s19, nf_d20, nf_t20, nf_s20, List.set_cons_zero, List.set_cons_succ]
  refine v_putF K I 0 rfl rfl iX6 tyX6 tyX6_ok nmX6 1 (by decide) rfl (by decide +kernel) rfl rfl (Nat.le_of_ble_eq_true rfl) dX6_init_31 ?_
  refine v_aload_n K dX6_init_34 rfl ?_
  refine v_new (ci := 4) (fs := [.int 0, .null, .null]) K rfl iX4 tyX4 tyX4_ok (by decide +kernel) (by decide +kernel) (by decide +kernel) (fun j hj => by rcases (show j = 0 ∨ j = 1 ∨ j = 2 by omega) with rfl | rfl | rfl <;> rfl) ⟨by show ((((0 + 1) + 4) + 1) + 4) + 1 ≤ 34; omega, by show ((((0 + 3) + (2 + 20 * 12 + 2 + 20)) + 3) + (2 + 20 * 12 + 2 + 20)) + 3 ≤ 1250; omega⟩ dX6_init_35 (fun q35 => ?_)
  try dsimp only [Nat.reduceAdd, pk_t, pk_f, pk_n, nf_rep1, nf_rep0, nf_d0, nf_t0, nf_s0, nf_ac, nf_an, nf_d1, nf_t1, nf_s1, nf_d2, nf_t2, nf_s2, nf_d3, nf_t3, nf_s3, nf_d4, nf_t4, nf_s4, nf_d5, nf_t5, nf_s5, nf_d6, nf_t6, nf_s6, nf_d7, nf_t7, nf_s7, nf_d8, nf_t8, nf_s8, nf_d9, nf_t9, nf_s9, nf_d10, nf_t10, nf_s10, nf_d11, nf_t11, nf_s11, nf_d12, nf_t12, nf_s12, nf_d13, nf_t13, nf_s13, nf_d14, nf_t14, nf_s14, nf_d15, nf_t15, nf_s15, nf_d16, nf_t16, nf_s16, nf_d17, nf_t17, nf_s17, nf_d18, nf_t18, nf_s18, nf_d19, nf_t19, nf_s19, nf_d20, nf_t20, nf_s20, List.set_cons_zero, List.set_cons_succ]
  refine v_dup K dX6_init_38 rfl ?_
  refine v_bipush K (20) dX6_init_39 (by decide) ?_
  refine v_bipush K (25) dX6_init_41 (by decide) ?_
  refine v_callI K O [3] [0, 1, 2] [true, true, true, false] (c_X4_init (XI X) (XB X) _ 20 25 ?hc43_0_3) rfl rfl ⟨by decide, by decide, by decide⟩ gX6_init_X4_init rfl rfl (by decide +kernel) (by decide +kernel) (by decide +kernel) rfl hdi_X4 ⟨rfl, rfl⟩ ⟨Nat.le_of_ble_eq_true rfl, Nat.le_of_ble_eq_true rfl⟩ (Nat.le_of_ble_eq_true rfl) ⟨by show (((((0 + 1) + 4) + 1) + 4) + 1) + (4) ≤ 34; omega, by show (((((0 + 3) + (2 + 20 * 12 + 2 + 20)) + 3) + (2 + 20 * 12 + 2 + 20)) + 3) + (2 + 20 * 25 + 2 + 20) ≤ 1250; omega⟩ rfl dX6_init_43 (fun Mc1 hpo => ?_)
  case hc43_0_3 => omega
  obtain ⟨c43, ca43, l43, la43, rfl⟩ := hpo
  try dsimp only [Nat.reduceAdd, pk_t, pk_f, pk_n, nf_rep1, nf_rep0, nf_d0, nf_t0, nf_s0, nf_ac, nf_an, nf_d1, nf_t1, nf_s1, nf_d2, nf_t2, nf_s2, nf_d3, nf_t3, nf_s3, nf_d4, nf_t4, nf_s4, nf_d5, nf_t5, nf_s5, nf_d6, nf_t6, nf_s6, nf_d7, nf_t7, nf_s7, nf_d8, nf_t8, nf_s8, nf_d9, nf_t9, nf_s9, nf_d10, nf_t10, nf_s10, nf_d11, nf_t11, nf_s11, nf_d12, nf_t12, nf_s12, nf_d13, nf_t13, nf_s13, nf_d14, nf_t14, nf_s14, nf_d15, nf_t15, nf_s15, nf_d16, nf_t16, nf_s16, nf_d17, nf_t17, nf_s17, nf_d18, nf_t18, nf_s18, nf_d19, nf_t19, nf_s19, nf_d20, nf_t20, nf_s20, List.set_cons_zero, List.set_cons_succ]
  refine v_putF K I 0 rfl rfl iX6 tyX6 tyX6_ok nmX6 2 (by decide) rfl (by decide +kernel) rfl rfl (Nat.le_of_ble_eq_true rfl) dX6_init_46 ?_
  refine v_aload_n K dX6_init_49 rfl ?_
  refine v_new (ci := 3) (fs := [.null, .int 0]) K rfl iX3 tyX3 tyX3_ok (by decide +kernel) (by decide +kernel) (by decide +kernel) (fun j hj => by rcases (show j = 0 ∨ j = 1 by omega) with rfl | rfl <;> rfl) ⟨by show ((((((0 + 1) + 4) + 1) + 4) + 1) + 4) + 1 ≤ 34; omega, by show ((((((0 + 3) + (2 + 20 * 12 + 2 + 20)) + 3) + (2 + 20 * 12 + 2 + 20)) + 3) + (2 + 20 * 25 + 2 + 20)) + 2 ≤ 1250; omega⟩ dX6_init_50 (fun q50 => ?_)
  try dsimp only [Nat.reduceAdd, pk_t, pk_f, pk_n, nf_rep1, nf_rep0, nf_d0, nf_t0, nf_s0, nf_ac, nf_an, nf_d1, nf_t1, nf_s1, nf_d2, nf_t2, nf_s2, nf_d3, nf_t3, nf_s3, nf_d4, nf_t4, nf_s4, nf_d5, nf_t5, nf_s5, nf_d6, nf_t6, nf_s6, nf_d7, nf_t7, nf_s7, nf_d8, nf_t8, nf_s8, nf_d9, nf_t9, nf_s9, nf_d10, nf_t10, nf_s10, nf_d11, nf_t11, nf_s11, nf_d12, nf_t12, nf_s12, nf_d13, nf_t13, nf_s13, nf_d14, nf_t14, nf_s14, nf_d15, nf_t15, nf_s15, nf_d16, nf_t16, nf_s16, nf_d17, nf_t17, nf_s17, nf_d18, nf_t18, nf_s18, nf_d19, nf_t19, nf_s19, nf_d20, nf_t20, nf_s20, List.set_cons_zero, List.set_cons_succ]
  refine v_dup K dX6_init_53 rfl ?_
  refine v_bipush K (20) dX6_init_54 (by decide) ?_
  refine v_callI K O [4] [0, 1, 2, 3] [true, true, true, true, false] (c_X3_init (XI X) (XB X) _ 20 ?hc56_0_4) rfl rfl ⟨by decide, by decide, by decide⟩ gX6_init_X3_init rfl rfl (by decide +kernel) (by decide +kernel) (by decide +kernel) rfl hdi_X3 ⟨rfl, rfl⟩ ⟨Nat.le_of_ble_eq_true rfl, Nat.le_of_ble_eq_true rfl⟩ (Nat.le_of_ble_eq_true rfl) ⟨by show (((((((0 + 1) + 4) + 1) + 4) + 1) + 4) + 1) + (1) ≤ 34; omega, by show (((((((0 + 3) + (2 + 20 * 12 + 2 + 20)) + 3) + (2 + 20 * 12 + 2 + 20)) + 3) + (2 + 20 * 25 + 2 + 20)) + 2) + (20) ≤ 1250; omega⟩ rfl dX6_init_56 (fun Mc1 hpo => ?_)
  case hc56_0_4 => omega
  obtain ⟨a56, rfl⟩ := hpo
  try dsimp only [Nat.reduceAdd, pk_t, pk_f, pk_n, nf_rep1, nf_rep0, nf_d0, nf_t0, nf_s0, nf_ac, nf_an, nf_d1, nf_t1, nf_s1, nf_d2, nf_t2, nf_s2, nf_d3, nf_t3, nf_s3, nf_d4, nf_t4, nf_s4, nf_d5, nf_t5, nf_s5, nf_d6, nf_t6, nf_s6, nf_d7, nf_t7, nf_s7, nf_d8, nf_t8, nf_s8, nf_d9, nf_t9, nf_s9, nf_d10, nf_t10, nf_s10, nf_d11, nf_t11, nf_s11, nf_d12, nf_t12, nf_s12, nf_d13, nf_t13, nf_s13, nf_d14, nf_t14, nf_s14, nf_d15, nf_t15, nf_s15, nf_d16, nf_t16, nf_s16, nf_d17, nf_t17, nf_s17, nf_d18, nf_t18, nf_s18, nf_d19, nf_t19, nf_s19, nf_d20, nf_t20, nf_s20, List.set_cons_zero, List.set_cons_succ]
  refine v_putF K I 0 rfl rfl iX6 tyX6 tyX6_ok nmX6 3 (by decide) rfl (by decide +kernel) rfl rfl (Nat.le_of_ble_eq_true rfl) dX6_init_59 ?_
  refine v_aload_n K dX6_init_62 rfl ?_
  refine v_new (ci := 3) (fs := [.null, .int 0]) K rfl iX3 tyX3 tyX3_ok (by decide +kernel) (by decide +kernel) (by decide +kernel) (fun j hj => by rcases (show j = 0 ∨ j = 1 by omega) with rfl | rfl <;> rfl) ⟨by show ((((((((0 + 1) + 4) + 1) + 4) + 1) + 4) + 1) + 1) + 1 ≤ 34; omega, by show ((((((((0 + 3) + (2 + 20 * 12 + 2 + 20)) + 3) + (2 + 20 * 12 + 2 + 20)) + 3) + (2 + 20 * 25 + 2 + 20)) + 2) + (20)) + 2 ≤ 1250; omega⟩ dX6_init_63 (fun q63 => ?_)
  try dsimp only [Nat.reduceAdd, pk_t, pk_f, pk_n, nf_rep1, nf_rep0, nf_d0, nf_t0, nf_s0, nf_ac, nf_an, nf_d1, nf_t1, nf_s1, nf_d2, nf_t2, nf_s2, nf_d3, nf_t3, nf_s3, nf_d4, nf_t4, nf_s4, nf_d5, nf_t5, nf_s5, nf_d6, nf_t6, nf_s6, nf_d7, nf_t7, nf_s7, nf_d8, nf_t8, nf_s8, nf_d9, nf_t9, nf_s9, nf_d10, nf_t10, nf_s10, nf_d11, nf_t11, nf_s11, nf_d12, nf_t12, nf_s12, nf_d13, nf_t13, nf_s13, nf_d14, nf_t14, nf_s14, nf_d15, nf_t15, nf_s15, nf_d16, nf_t16, nf_s16, nf_d17, nf_t17, nf_s17, nf_d18, nf_t18, nf_s18, nf_d19, nf_t19, nf_s19, nf_d20, nf_t20, nf_s20, List.set_cons_zero, List.set_cons_succ]
  refine v_dup K dX6_init_66 rfl ?_
  refine v_bipush K (30) dX6_init_67 (by decide) ?_
  refine v_callI K O [5] [0, 1, 2, 3, 4] [true, true, true, true, true, false] (c_X3_init (XI X) (XB X) _ 30 ?hc69_0_5) rfl rfl ⟨by decide, by decide, by decide⟩ gX6_init_X3_init rfl rfl (by decide +kernel) (by decide +kernel) (by decide +kernel) rfl hdi_X3 ⟨rfl, rfl⟩ ⟨Nat.le_of_ble_eq_true rfl, Nat.le_of_ble_eq_true rfl⟩ (Nat.le_of_ble_eq_true rfl) ⟨by show (((((((((0 + 1) + 4) + 1) + 4) + 1) + 4) + 1) + 1) + 1) + (1) ≤ 34; omega, by show (((((((((0 + 3) + (2 + 20 * 12 + 2 + 20)) + 3) + (2 + 20 * 12 + 2 + 20)) + 3) + (2 + 20 * 25 + 2 + 20)) + 2) + (20)) + 2) + (30) ≤ 1250; omega⟩ rfl dX6_init_69 (fun Mc1 hpo => ?_)
  case hc69_0_5 => omega
  obtain ⟨a69, rfl⟩ := hpo
  try dsimp only [Nat.reduceAdd, pk_t, pk_f, pk_n, nf_rep1, nf_rep0, nf_d0, nf_t0, nf_s0, nf_ac, nf_an, nf_d1, nf_t1, nf_s1, nf_d2, nf_t2, nf_s2, nf_d3, nf_t3, nf_s3, nf_d4, nf_t4, nf_s4, nf_d5, nf_t5, nf_s5, nf_d6, nf_t6, nf_s6, nf_d7, nf_t7, nf_s7, nf_d8, nf_t8, nf_s8, nf_d9, nf_t9, nf_s9, nf_d10, nf_t10, nf_s10, nf_d11, nf_t11, nf_s11, nf_d12, nf_t12, nf_s12, nf_d13, nf_t13, nf_s13, nf_d14, nf_t14, nf_s14, nf_d15, nf_t15, nf_s15, nf_d16, nf_t16, nf_s16, nf_d17, nf_t17, nf_s17, nf_d18, nf_t18, nf_s18, nf_d19, nf_t19, nf_s19, nf_d20, nf_t20, nf_s20, List.set_cons_zero, List.set_cons_succ]
  refine v_putF K I 0 rfl rfl iX6 tyX6 tyX6_ok nmX6 4 (by decide) rfl (by decide +kernel) rfl rfl (Nat.le_of_ble_eq_true rfl) dX6_init_72 ?_
  refine v_aload_n K dX6_init_75 rfl ?_
  refine v_new (ci := 5) (fs := [.null, .null, .null, .null]) K rfl iX5 tyX5 tyX5_ok (by decide +kernel) (by decide +kernel) (by decide +kernel) (fun j hj => by rcases (show j = 0 ∨ j = 1 ∨ j = 2 ∨ j = 3 by omega) with rfl | rfl | rfl | rfl <;> rfl) ⟨by show ((((((((((0 + 1) + 4) + 1) + 4) + 1) + 4) + 1) + 1) + 1) + 1) + 1 ≤ 34; omega, by show ((((((((((0 + 3) + (2 + 20 * 12 + 2 + 20)) + 3) + (2 + 20 * 12 + 2 + 20)) + 3) + (2 + 20 * 25 + 2 + 20)) + 2) + (20)) + 2) + (30)) + 4 ≤ 1250; omega⟩ dX6_init_76 (fun q76 => ?_)
  try dsimp only [Nat.reduceAdd, pk_t, pk_f, pk_n, nf_rep1, nf_rep0, nf_d0, nf_t0, nf_s0, nf_ac, nf_an, nf_d1, nf_t1, nf_s1, nf_d2, nf_t2, nf_s2, nf_d3, nf_t3, nf_s3, nf_d4, nf_t4, nf_s4, nf_d5, nf_t5, nf_s5, nf_d6, nf_t6, nf_s6, nf_d7, nf_t7, nf_s7, nf_d8, nf_t8, nf_s8, nf_d9, nf_t9, nf_s9, nf_d10, nf_t10, nf_s10, nf_d11, nf_t11, nf_s11, nf_d12, nf_t12, nf_s12, nf_d13, nf_t13, nf_s13, nf_d14, nf_t14, nf_s14, nf_d15, nf_t15, nf_s15, nf_d16, nf_t16, nf_s16, nf_d17, nf_t17, nf_s17, nf_d18, nf_t18, nf_s18, nf_d19, nf_t19, nf_s19, nf_d20, nf_t20, nf_s20, List.set_cons_zero, List.set_cons_succ]
  refine v_dup K dX6_init_79 rfl ?_
  refine v_callIN (host := RX7) K O [6] [0, 1, 2, 3, 4, 5] [true, true, true, true, true, true, false] (c_X5_init (XI X) (XB X) _ ) rfl rfl ⟨by decide, by decide, by decide⟩ gX6_init_X5_init_n40 rfl rfl (by decide +kernel) (by decide +kernel) (by decide +kernel) rfl hdi_X5 ⟨rfl, rfl⟩ ⟨Nat.le_of_ble_eq_true rfl, Nat.le_of_ble_eq_true rfl⟩ (Nat.le_of_ble_eq_true rfl) ⟨by show (((((((((((0 + 1) + 4) + 1) + 4) + 1) + 4) + 1) + 1) + 1) + 1) + 1) + (8) ≤ 34; omega, by show (((((((((((0 + 3) + (2 + 20 * 12 + 2 + 20)) + 3) + (2 + 20 * 12 + 2 + 20)) + 3) + (2 + 20 * 25 + 2 + 20)) + 2) + (20)) + 2) + (30)) + 4) + (69) ≤ 1250; omega⟩ rfl dX6_init_80 (fun Mc1 hpo => ?_)
  obtain ⟨A80, hA80, rfl⟩ := hpo
  try dsimp only [Nat.reduceAdd, pk_t, pk_f, pk_n, nf_rep1, nf_rep0, nf_d0, nf_t0, nf_s0, nf_ac, nf_an, nf_d1, nf_t1, nf_s1, nf_d2, nf_t2, nf_s2, nf_d3, nf_t3, nf_s3, nf_d4, nf_t4, nf_s4, nf_d5, nf_t5, nf_s5, nf_d6, nf_t6, nf_s6, nf_d7, nf_t7, nf_s7, nf_d8, nf_t8, nf_s8, nf_d9, nf_t9, nf_s9, nf_d10, nf_t10, nf_s10, nf_d11, nf_t11, nf_s11, nf_d12, nf_t12, nf_s12, nf_d13, nf_t13, nf_s13, nf_d14, nf_t14, nf_s14, nf_d15, nf_t15, nf_s15, nf_d16, nf_t16, nf_s16, nf_d17, nf_t17, nf_s17, nf_d18, nf_t18, nf_s18, nf_d19, nf_t19, nf_s19, nf_d20, nf_t20, nf_s20, List.set_cons_zero, List.set_cons_succ]
  subst hA80
  refine v_putF K I 0 rfl rfl iX6 tyX6 tyX6_ok nmX6 5 (by decide) rfl (by decide +kernel) rfl rfl (Nat.le_of_ble_eq_true rfl) dX6_init_83 ?_
  refine v_aload_n K dX6_init_86 rfl ?_
  refine v_new (ci := 3) (fs := [.null, .int 0]) K rfl iX3 tyX3 tyX3_ok (by decide +kernel) (by decide +kernel) (by decide +kernel) (fun j hj => by rcases (show j = 0 ∨ j = 1 by omega) with rfl | rfl <;> rfl) ⟨by show ((((((((((((0 + 1) + 4) + 1) + 4) + 1) + 4) + 1) + 1) + 1) + 1) + 1) + 8) + 1 ≤ 34; omega, by show ((((((((((((0 + 3) + (2 + 20 * 12 + 2 + 20)) + 3) + (2 + 20 * 12 + 2 + 20)) + 3) + (2 + 20 * 25 + 2 + 20)) + 2) + (20)) + 2) + (30)) + 4) + (69)) + 2 ≤ 1250; omega⟩ dX6_init_87 (fun q87 => ?_)
  try dsimp only [Nat.reduceAdd, pk_t, pk_f, pk_n, nf_rep1, nf_rep0, nf_d0, nf_t0, nf_s0, nf_ac, nf_an, nf_d1, nf_t1, nf_s1, nf_d2, nf_t2, nf_s2, nf_d3, nf_t3, nf_s3, nf_d4, nf_t4, nf_s4, nf_d5, nf_t5, nf_s5, nf_d6, nf_t6, nf_s6, nf_d7, nf_t7, nf_s7, nf_d8, nf_t8, nf_s8, nf_d9, nf_t9, nf_s9, nf_d10, nf_t10, nf_s10, nf_d11, nf_t11, nf_s11, nf_d12, nf_t12, nf_s12, nf_d13, nf_t13, nf_s13, nf_d14, nf_t14, nf_s14, nf_d15, nf_t15, nf_s15, nf_d16, nf_t16, nf_s16, nf_d17, nf_t17, nf_s17, nf_d18, nf_t18, nf_s18, nf_d19, nf_t19, nf_s19, nf_d20, nf_t20, nf_s20, List.set_cons_zero, List.set_cons_succ]
  refine v_dup K dX6_init_90 rfl ?_
  refine v_bipush K (12) dX6_init_91 (by decide) ?_
  refine v_callI K O [7] [0, 1, 2, 3, 4, 5, 6] [true, true, true, true, true, true, true, false] (c_X3_init (XI X) (XB X) _ 12 ?hc93_0_7) rfl rfl ⟨by decide, by decide, by decide⟩ gX6_init_X3_init rfl rfl (by decide +kernel) (by decide +kernel) (by decide +kernel) rfl hdi_X3 ⟨rfl, rfl⟩ ⟨Nat.le_of_ble_eq_true rfl, Nat.le_of_ble_eq_true rfl⟩ (Nat.le_of_ble_eq_true rfl) ⟨by show (((((((((((((0 + 1) + 4) + 1) + 4) + 1) + 4) + 1) + 1) + 1) + 1) + 1) + 8) + 1) + (1) ≤ 34; omega, by show (((((((((((((0 + 3) + (2 + 20 * 12 + 2 + 20)) + 3) + (2 + 20 * 12 + 2 + 20)) + 3) + (2 + 20 * 25 + 2 + 20)) + 2) + (20)) + 2) + (30)) + 4) + (69)) + 2) + (12) ≤ 1250; omega⟩ rfl dX6_init_93 (fun Mc1 hpo => ?_)
  case hc93_0_7 => omega
  obtain ⟨a93, rfl⟩ := hpo
  try dsimp only [Nat.reduceAdd, pk_t, pk_f, pk_n, nf_rep1, nf_rep0, nf_d0, nf_t0, nf_s0, nf_ac, nf_an, nf_d1, nf_t1, nf_s1, nf_d2, nf_t2, nf_s2, nf_d3, nf_t3, nf_s3, nf_d4, nf_t4, nf_s4, nf_d5, nf_t5, nf_s5, nf_d6, nf_t6, nf_s6, nf_d7, nf_t7, nf_s7, nf_d8, nf_t8, nf_s8, nf_d9, nf_t9, nf_s9, nf_d10, nf_t10, nf_s10, nf_d11, nf_t11, nf_s11, nf_d12, nf_t12, nf_s12, nf_d13, nf_t13, nf_s13, nf_d14, nf_t14, nf_s14, nf_d15, nf_t15, nf_s15, nf_d16, nf_t16, nf_s16, nf_d17, nf_t17, nf_s17, nf_d18, nf_t18, nf_s18, nf_d19, nf_t19, nf_s19, nf_d20, nf_t20, nf_s20, List.set_cons_zero, List.set_cons_succ]
  refine v_putF K I 0 rfl rfl iX6 tyX6 tyX6_ok nmX6 6 (by decide) rfl (by decide +kernel) rfl rfl (Nat.le_of_ble_eq_true rfl) dX6_init_96 ?_
  refine v_csv 0 (A := (fun n => ([v0, q5, c13, ca13, l13, la13, q20, c28, ca28, l28, la28, q35, c43, ca43, l43, la43, q50, a56, q63, a69, A80 0, A80 1, A80 2, A80 3, A80 4, A80 5, A80 6, A80 7, A80 8, q87, a93] : List Nat).getD n 0)) (a := []) (b := []) (c := []) (d := []) (e := []) (T := ([], [], [], [])) (w := []) (Z := []) rfl ?_
  refine v_wide (k1' := 34) (k2' := 1250) (by omega) (by omega) ?_
  refine v_retA K E dX6_init_99 ?_
  exact ⟨(fun n => ([v0, q5, c13, ca13, l13, la13, q20, c28, ca28, l28, la28, q35, c43, ca43, l43, la43, q50, a56, q63, a69, A80 0, A80 1, A80 2, A80 3, A80 4, A80 5, A80 6, A80 7, A80 8, q87, a93] : List Nat).getD n 0), rfl, rfl⟩

theorem hdi_X1 : yX1_init.cls ≠ "java/lang/invoke/MethodHandle" ∧ yX1_init.cls ≠ "java/lang/invoke/VarHandle" ∧ (parseMethodDescriptor yX1_init.desc).map (fun d => d.parameters.length) = some 0 := by decide +kernel
set_option maxHeartbeats 4000000 in
set_option maxRecDepth 100000 in
theorem c_X1_init (cI cB : ClassId) (h0 : Nat)  : CtA cI cB yX1_init wsX1_init { frames := 5, cells := 97, slots := 2500, locals := 110 } (97) (2500) [.ref h0] [cM h0 (.inr (1, [.null, .int 0]))] (fun M => ∃ (a : Nat) (B : Nat → Nat → Nat), M = [hiM cI cB h0 a B []]) := by
  refine ct_ofA (cc := cX1_init) (maxL := 2) (by decide) rfl (Nat.le_of_ble_eq_true rfl) [(0, .ref h0)] rfl rfl ?_
  intro X hI hB K O I E
  subst hI
  subst hB
  have iX0 : ∀ w ∈ u_ws RX0 TX0 6, w ∈ wsX1_init := by decide +kernel
  have iX1 : ∀ w ∈ u_ws RX1 TX1 2, w ∈ wsX1_init := by decide +kernel
  refine v_aload_n K dX1_init_0 rfl ?_
  refine v_obj K (by decide +kernel) (by decide +kernel) (by decide +kernel) (Nat.le_of_ble_eq_true rfl) (Nat.le_of_ble_eq_true rfl) dX1_init_1 ?_
  refine v_aload_n K dX1_init_4 rfl ?_
  refine v_iconst K (4) dX1_init_5 (by decide) ?_
  refine v_newq K O (by decide +kernel) (4) rfl (by omega) ⟨by show 0 + 1 ≤ 97; omega, by show 0 + (4) ≤ 2500; omega⟩ dX1_init_6 (fun q6 => ?_)
  try dsimp only [Nat.reduceAdd, pk_t, pk_f, pk_n, nf_rep1, nf_rep0, nf_d0, nf_t0, nf_s0, nf_ac, nf_an, nf_d1, nf_t1, nf_s1, nf_d2, nf_t2, nf_s2, nf_d3, nf_t3, nf_s3, nf_d4, nf_t4, nf_s4, nf_d5, nf_t5, nf_s5, nf_d6, nf_t6, nf_s6, nf_d7, nf_t7, nf_s7, nf_d8, nf_t8, nf_s8, nf_d9, nf_t9, nf_s9, nf_d10, nf_t10, nf_s10, nf_d11, nf_t11, nf_s11, nf_d12, nf_t12, nf_s12, nf_d13, nf_t13, nf_s13, nf_d14, nf_t14, nf_s14, nf_d15, nf_t15, nf_s15, nf_d16, nf_t16, nf_s16, nf_d17, nf_t17, nf_s17, nf_d18, nf_t18, nf_s18, nf_d19, nf_t19, nf_s19, nf_d20, nf_t20, nf_s20, List.set_cons_zero, List.set_cons_succ]
  refine v_putF K I 0 rfl rfl iX1 tyX1 tyX1_ok nmX1 0 (by decide) rfl (by decide +kernel) rfl rfl (Nat.le_of_ble_eq_true rfl) dX1_init_9 ?_
  refine v_iconst K (0) dX1_init_12 (by decide) ?_
  refine v_istore_n K dX1_init_13 (by decide) ?_
  refine v_iload_n K dX1_init_14 rfl ?_
  refine v_aload_n K dX1_init_15 rfl ?_
  refine v_get K 0 rfl hasF_c rfl iX1 0 (by decide) rfl (by decide +kernel) rfl dX1_init_16 ?_
  refine v_alenq K 1 rfl dX1_init_19 ?_
  refine v_ic_ge K 46 dX1_init_20 (by decide) (fun c20 => False.elim (absurd c20 (by decide))) (fun c20 => ?_)
  refine v_aload_n K dX1_init_23 rfl ?_
  refine v_get K 0 rfl hasF_c rfl iX1 0 (by decide) rfl (by decide +kernel) rfl dX1_init_24 ?_
  refine v_iload_n K dX1_init_27 rfl ?_
  refine v_new (ci := 0) (fs := [.null, .null, .null, .null, .null, .null]) K rfl iX0 tyX0 tyX0_ok (by decide +kernel) (by decide +kernel) (by decide +kernel) (fun j hj => by rcases (show j = 0 ∨ j = 1 ∨ j = 2 ∨ j = 3 ∨ j = 4 ∨ j = 5 by omega) with rfl | rfl | rfl | rfl | rfl | rfl <;> rfl) ⟨by show (0 + 1) + 1 ≤ 97; omega, by show (0 + (4)) + 6 ≤ 2500; omega⟩ dX1_init_28 (fun q28 => ?_)
  try dsimp only [Nat.reduceAdd, pk_t, pk_f, pk_n, nf_rep1, nf_rep0, nf_d0, nf_t0, nf_s0, nf_ac, nf_an, nf_d1, nf_t1, nf_s1, nf_d2, nf_t2, nf_s2, nf_d3, nf_t3, nf_s3, nf_d4, nf_t4, nf_s4, nf_d5, nf_t5, nf_s5, nf_d6, nf_t6, nf_s6, nf_d7, nf_t7, nf_s7, nf_d8, nf_t8, nf_s8, nf_d9, nf_t9, nf_s9, nf_d10, nf_t10, nf_s10, nf_d11, nf_t11, nf_s11, nf_d12, nf_t12, nf_s12, nf_d13, nf_t13, nf_s13, nf_d14, nf_t14, nf_s14, nf_d15, nf_t15, nf_s15, nf_d16, nf_t16, nf_s16, nf_d17, nf_t17, nf_s17, nf_d18, nf_t18, nf_s18, nf_d19, nf_t19, nf_s19, nf_d20, nf_t20, nf_s20, List.set_cons_zero, List.set_cons_succ]
  refine v_dup K dX1_init_31 rfl ?_
  refine v_bipush K (30) dX1_init_32 (by decide) ?_
  refine v_bipush K (20) dX1_init_34 (by decide) ?_
  refine v_callI K O [2] [0, 1] [true, true, false] (c_X0_init (XI X) (XB X) _ 30 20 ?hc36_0_1) rfl rfl ⟨by decide, by decide, by decide⟩ gX1_init_X0_init rfl rfl (by decide +kernel) (by decide +kernel) (by decide +kernel) rfl hdi_X0 ⟨rfl, rfl⟩ ⟨Nat.le_of_ble_eq_true rfl, Nat.le_of_ble_eq_true rfl⟩ (Nat.le_of_ble_eq_true rfl) ⟨by show ((0 + 1) + 1) + (23) ≤ 97; omega, by show ((0 + (4)) + 6) + (108 + 7 * 30 + 14 * 20) ≤ 2500; omega⟩ rfl dX1_init_36 (fun Mc1 hpo => ?_)
  case hc36_0_1 => omega
  obtain ⟨A36, hA36, rfl⟩ := hpo
  try dsimp only [Nat.reduceAdd, pk_t, pk_f, pk_n, nf_rep1, nf_rep0, nf_d0, nf_t0, nf_s0, nf_ac, nf_an, nf_d1, nf_t1, nf_s1, nf_d2, nf_t2, nf_s2, nf_d3, nf_t3, nf_s3, nf_d4, nf_t4, nf_s4, nf_d5, nf_t5, nf_s5, nf_d6, nf_t6, nf_s6, nf_d7, nf_t7, nf_s7, nf_d8, nf_t8, nf_s8, nf_d9, nf_t9, nf_s9, nf_d10, nf_t10, nf_s10, nf_d11, nf_t11, nf_s11, nf_d12, nf_t12, nf_s12, nf_d13, nf_t13, nf_s13, nf_d14, nf_t14, nf_s14, nf_d15, nf_t15, nf_s15, nf_d16, nf_t16, nf_s16, nf_d17, nf_t17, nf_s17, nf_d18, nf_t18, nf_s18, nf_d19, nf_t19, nf_s19, nf_d20, nf_t20, nf_s20, List.set_cons_zero, List.set_cons_succ]
  refine v_aast K 1 rfl ?ab39_2 ?ix39_2 dX1_init_39 ?_
  case ix39_2 => exact (by unfold vp_in; decide)
  case ab39_2 => exact ⟨_, List.mem_of_getElem? (i := 2) rfl, _, by rw [← hA36]; exact bookF⟩
  try dsimp only [Nat.reduceAdd, pk_t, pk_f, pk_n, nf_rep1, nf_rep0, nf_d0, nf_t0, nf_s0, nf_ac, nf_an, nf_d1, nf_t1, nf_s1, nf_d2, nf_t2, nf_s2, nf_d3, nf_t3, nf_s3, nf_d4, nf_t4, nf_s4, nf_d5, nf_t5, nf_s5, nf_d6, nf_t6, nf_s6, nf_d7, nf_t7, nf_s7, nf_d8, nf_t8, nf_s8, nf_d9, nf_t9, nf_s9, nf_d10, nf_t10, nf_s10, nf_d11, nf_t11, nf_s11, nf_d12, nf_t12, nf_s12, nf_d13, nf_t13, nf_s13, nf_d14, nf_t14, nf_s14, nf_d15, nf_t15, nf_s15, nf_d16, nf_t16, nf_s16, nf_d17, nf_t17, nf_s17, nf_d18, nf_t18, nf_s18, nf_d19, nf_t19, nf_s19, nf_d20, nf_t20, nf_s20, List.set_cons_zero, List.set_cons_succ]
  refine v_iinc K dX1_init_40 rfl (by decide) iinc_1 ?_
  refine v_goto K 14 dX1_init_43 (by decide) ?_
  refine v_iload_n K dX1_init_14 rfl ?_
  refine v_aload_n K dX1_init_15 rfl ?_
  refine v_get K 0 rfl hasF_c rfl iX1 0 (by decide) rfl (by decide +kernel) rfl dX1_init_16 ?_
  refine v_alenq K 1 rfl dX1_init_19 ?_
  refine v_ic_ge K 46 dX1_init_20 (by decide) (fun c20 => False.elim (absurd c20 (by decide))) (fun c20 => ?_)
  refine v_aload_n K dX1_init_23 rfl ?_
  refine v_get K 0 rfl hasF_c rfl iX1 0 (by decide) rfl (by decide +kernel) rfl dX1_init_24 ?_
  refine v_iload_n K dX1_init_27 rfl ?_
  refine v_new (ci := 0) (fs := [.null, .null, .null, .null, .null, .null]) K rfl iX0 tyX0 tyX0_ok (by decide +kernel) (by decide +kernel) (by decide +kernel) (fun j hj => by rcases (show j = 0 ∨ j = 1 ∨ j = 2 ∨ j = 3 ∨ j = 4 ∨ j = 5 by omega) with rfl | rfl | rfl | rfl | rfl | rfl <;> rfl) ⟨by show (((0 + 1) + 1) + 23) + 1 ≤ 97; omega, by show (((0 + (4)) + 6) + (108 + 7 * 30 + 14 * 20)) + 6 ≤ 2500; omega⟩ dX1_init_28 (fun q28x => ?_)
  try dsimp only [Nat.reduceAdd, pk_t, pk_f, pk_n, nf_rep1, nf_rep0, nf_d0, nf_t0, nf_s0, nf_ac, nf_an, nf_d1, nf_t1, nf_s1, nf_d2, nf_t2, nf_s2, nf_d3, nf_t3, nf_s3, nf_d4, nf_t4, nf_s4, nf_d5, nf_t5, nf_s5, nf_d6, nf_t6, nf_s6, nf_d7, nf_t7, nf_s7, nf_d8, nf_t8, nf_s8, nf_d9, nf_t9, nf_s9, nf_d10, nf_t10, nf_s10, nf_d11, nf_t11, nf_s11, nf_d12, nf_t12, nf_s12, nf_d13, nf_t13, nf_s13, nf_d14, nf_t14, nf_s14, nf_d15, nf_t15, nf_s15, nf_d16, nf_t16, nf_s16, nf_d17, nf_t17, nf_s17, nf_d18, nf_t18, nf_s18, nf_d19, nf_t19, nf_s19, nf_d20, nf_t20, nf_s20, List.set_cons_zero, List.set_cons_succ]
  refine v_dup K dX1_init_31 rfl ?_
  refine v_bipush K (30) dX1_init_32 (by decide) ?_
  refine v_bipush K (20) dX1_init_34 (by decide) ?_
  refine v_callI K O [3] [0, 1, 2] [true, true, true, false] (c_X0_init (XI X) (XB X) _ 30 20 ?hc36_0_3) rfl rfl ⟨by decide, by decide, by decide⟩ gX1_init_X0_init rfl rfl (by decide +kernel) (by decide +kernel) (by decide +kernel) rfl hdi_X0 ⟨rfl, rfl⟩ ⟨Nat.le_of_ble_eq_true rfl, Nat.le_of_ble_eq_true rfl⟩ (Nat.le_of_ble_eq_true rfl) ⟨by show ((((0 + 1) + 1) + 23) + 1) + (23) ≤ 97; omega, by show ((((0 + (4)) + 6) + (108 + 7 * 30 + 14 * 20)) + 6) + (108 + 7 * 30 + 14 * 20) ≤ 2500; omega⟩ rfl dX1_init_36 (fun Mc1 hpo => ?_)
  case hc36_0_3 => omega
  obtain ⟨A36x, hA36x, rfl⟩ := hpo
  try dsimp only [Nat.reduceAdd, pk_t, pk_f, pk_n, nf_rep1, nf_rep0, nf_d0, nf_t0, nf_s0, nf_ac, nf_an, nf_d1, nf_t1, nf_s1, nf_d2, nf_t2, nf_s2, nf_d3, nf_t3, nf_s3, nf_d4, nf_t4, nf_s4, nf_d5, nf_t5, nf_s5, nf_d6, nf_t6, nf_s6, nf_d7, nf_t7, nf_s7, nf_d8, nf_t8, nf_s8, nf_d9, nf_t9, nf_s9, nf_d10, nf_t10, nf_s10, nf_d11, nf_t11, nf_s11, nf_d12, nf_t12, nf_s12, nf_d13, nf_t13, nf_s13, nf_d14, nf_t14, nf_s14, nf_d15, nf_t15, nf_s15, nf_d16, nf_t16, nf_s16, nf_d17, nf_t17, nf_s17, nf_d18, nf_t18, nf_s18, nf_d19, nf_t19, nf_s19, nf_d20, nf_t20, nf_s20, List.set_cons_zero, List.set_cons_succ]
  refine v_aast K 1 rfl ?ab39_4 ?ix39_4 dX1_init_39 ?_
  case ix39_4 => exact (by unfold vp_in; decide)
  case ab39_4 => exact ⟨_, List.mem_of_getElem? (i := 3) rfl, _, by rw [← hA36x]; exact bookF⟩
  try dsimp only [Nat.reduceAdd, pk_t, pk_f, pk_n, nf_rep1, nf_rep0, nf_d0, nf_t0, nf_s0, nf_ac, nf_an, nf_d1, nf_t1, nf_s1, nf_d2, nf_t2, nf_s2, nf_d3, nf_t3, nf_s3, nf_d4, nf_t4, nf_s4, nf_d5, nf_t5, nf_s5, nf_d6, nf_t6, nf_s6, nf_d7, nf_t7, nf_s7, nf_d8, nf_t8, nf_s8, nf_d9, nf_t9, nf_s9, nf_d10, nf_t10, nf_s10, nf_d11, nf_t11, nf_s11, nf_d12, nf_t12, nf_s12, nf_d13, nf_t13, nf_s13, nf_d14, nf_t14, nf_s14, nf_d15, nf_t15, nf_s15, nf_d16, nf_t16, nf_s16, nf_d17, nf_t17, nf_s17, nf_d18, nf_t18, nf_s18, nf_d19, nf_t19, nf_s19, nf_d20, nf_t20, nf_s20, List.set_cons_zero, List.set_cons_succ]
  refine v_iinc K dX1_init_40 rfl (by decide) iinc_1 ?_
  refine v_goto K 14 dX1_init_43 (by decide) ?_
  refine v_iload_n K dX1_init_14 rfl ?_
  refine v_aload_n K dX1_init_15 rfl ?_
  refine v_get K 0 rfl hasF_c rfl iX1 0 (by decide) rfl (by decide +kernel) rfl dX1_init_16 ?_
  refine v_alenq K 1 rfl dX1_init_19 ?_
  refine v_ic_ge K 46 dX1_init_20 (by decide) (fun c20 => False.elim (absurd c20 (by decide))) (fun c20 => ?_)
  refine v_aload_n K dX1_init_23 rfl ?_
  refine v_get K 0 rfl hasF_c rfl iX1 0 (by decide) rfl (by decide +kernel) rfl dX1_init_24 ?_
  refine v_iload_n K dX1_init_27 rfl ?_
  refine v_new (ci := 0) (fs := [.null, .null, .null, .null, .null, .null]) K rfl iX0 tyX0 tyX0_ok (by decide +kernel) (by decide +kernel) (by decide +kernel) (fun j hj => by rcases (show j = 0 ∨ j = 1 ∨ j = 2 ∨ j = 3 ∨ j = 4 ∨ j = 5 by omega) with rfl | rfl | rfl | rfl | rfl | rfl <;> rfl) ⟨by show (((((0 + 1) + 1) + 23) + 1) + 23) + 1 ≤ 97; omega, by show (((((0 + (4)) + 6) + (108 + 7 * 30 + 14 * 20)) + 6) + (108 + 7 * 30 + 14 * 20)) + 6 ≤ 2500; omega⟩ dX1_init_28 (fun q28xx => ?_)
  try dsimp only [Nat.reduceAdd, pk_t, pk_f, pk_n, nf_rep1, nf_rep0, nf_d0, nf_t0, nf_s0, nf_ac, nf_an, nf_d1, nf_t1, nf_s1, nf_d2, nf_t2, nf_s2, nf_d3, nf_t3, nf_s3, nf_d4, nf_t4, nf_s4, nf_d5, nf_t5, nf_s5, nf_d6, nf_t6, nf_s6, nf_d7, nf_t7, nf_s7, nf_d8, nf_t8, nf_s8, nf_d9, nf_t9, nf_s9, nf_d10, nf_t10, nf_s10, nf_d11, nf_t11, nf_s11, nf_d12, nf_t12, nf_s12, nf_d13, nf_t13, nf_s13, nf_d14, nf_t14, nf_s14, nf_d15, nf_t15, nf_s15, nf_d16, nf_t16, nf_s16, nf_d17, nf_t17, nf_s17, nf_d18, nf_t18, nf_s18, nf_d19, nf_t19, nf_s19, nf_d20, nf_t20, nf_s20, List.set_cons_zero, List.set_cons_succ]
  refine v_dup K dX1_init_31 rfl ?_
  refine v_bipush K (30) dX1_init_32 (by decide) ?_
  refine v_bipush K (20) dX1_init_34 (by decide) ?_
  refine v_callI K O [4] [0, 1, 2, 3] [true, true, true, true, false] (c_X0_init (XI X) (XB X) _ 30 20 ?hc36_0_5) rfl rfl ⟨by decide, by decide, by decide⟩ gX1_init_X0_init rfl rfl (by decide +kernel) (by decide +kernel) (by decide +kernel) rfl hdi_X0 ⟨rfl, rfl⟩ ⟨Nat.le_of_ble_eq_true rfl, Nat.le_of_ble_eq_true rfl⟩ (Nat.le_of_ble_eq_true rfl) ⟨by show ((((((0 + 1) + 1) + 23) + 1) + 23) + 1) + (23) ≤ 97; omega, by show ((((((0 + (4)) + 6) + (108 + 7 * 30 + 14 * 20)) + 6) + (108 + 7 * 30 + 14 * 20)) + 6) + (108 + 7 * 30 + 14 * 20) ≤ 2500; omega⟩ rfl dX1_init_36 (fun Mc1 hpo => ?_)
  case hc36_0_5 => omega
  obtain ⟨A36xx, hA36xx, rfl⟩ := hpo
  try dsimp only [Nat.reduceAdd, pk_t, pk_f, pk_n, nf_rep1, nf_rep0, nf_d0, nf_t0, nf_s0, nf_ac, nf_an, nf_d1, nf_t1, nf_s1, nf_d2, nf_t2, nf_s2, nf_d3, nf_t3, nf_s3, nf_d4, nf_t4, nf_s4, nf_d5, nf_t5, nf_s5, nf_d6, nf_t6, nf_s6, nf_d7, nf_t7, nf_s7, nf_d8, nf_t8, nf_s8, nf_d9, nf_t9, nf_s9, nf_d10, nf_t10, nf_s10, nf_d11, nf_t11, nf_s11, nf_d12, nf_t12, nf_s12, nf_d13, nf_t13, nf_s13, nf_d14, nf_t14, nf_s14, nf_d15, nf_t15, nf_s15, nf_d16, nf_t16, nf_s16, nf_d17, nf_t17, nf_s17, nf_d18, nf_t18, nf_s18, nf_d19, nf_t19, nf_s19, nf_d20, nf_t20, nf_s20, List.set_cons_zero, List.set_cons_succ]
  refine v_aast K 1 rfl ?ab39_6 ?ix39_6 dX1_init_39 ?_
  case ix39_6 => exact (by unfold vp_in; decide)
  case ab39_6 => exact ⟨_, List.mem_of_getElem? (i := 4) rfl, _, by rw [← hA36xx]; exact bookF⟩
  try dsimp only [Nat.reduceAdd, pk_t, pk_f, pk_n, nf_rep1, nf_rep0, nf_d0, nf_t0, nf_s0, nf_ac, nf_an, nf_d1, nf_t1, nf_s1, nf_d2, nf_t2, nf_s2, nf_d3, nf_t3, nf_s3, nf_d4, nf_t4, nf_s4, nf_d5, nf_t5, nf_s5, nf_d6, nf_t6, nf_s6, nf_d7, nf_t7, nf_s7, nf_d8, nf_t8, nf_s8, nf_d9, nf_t9, nf_s9, nf_d10, nf_t10, nf_s10, nf_d11, nf_t11, nf_s11, nf_d12, nf_t12, nf_s12, nf_d13, nf_t13, nf_s13, nf_d14, nf_t14, nf_s14, nf_d15, nf_t15, nf_s15, nf_d16, nf_t16, nf_s16, nf_d17, nf_t17, nf_s17, nf_d18, nf_t18, nf_s18, nf_d19, nf_t19, nf_s19, nf_d20, nf_t20, nf_s20, List.set_cons_zero, List.set_cons_succ]
  refine v_iinc K dX1_init_40 rfl (by decide) iinc_1 ?_
  refine v_goto K 14 dX1_init_43 (by decide) ?_
  refine v_iload_n K dX1_init_14 rfl ?_
  refine v_aload_n K dX1_init_15 rfl ?_
  refine v_get K 0 rfl hasF_c rfl iX1 0 (by decide) rfl (by decide +kernel) rfl dX1_init_16 ?_
  refine v_alenq K 1 rfl dX1_init_19 ?_
  refine v_ic_ge K 46 dX1_init_20 (by decide) (fun c20 => False.elim (absurd c20 (by decide))) (fun c20 => ?_)
  refine v_aload_n K dX1_init_23 rfl ?_
  refine v_get K 0 rfl hasF_c rfl iX1 0 (by decide) rfl (by decide +kernel) rfl dX1_init_24 ?_
  refine v_iload_n K dX1_init_27 rfl ?_
  refine v_new (ci := 0) (fs := [.null, .null, .null, .null, .null, .null]) K rfl iX0 tyX0 tyX0_ok (by decide +kernel) (by decide +kernel) (by decide +kernel) (fun j hj => by rcases (show j = 0 ∨ j = 1 ∨ j = 2 ∨ j = 3 ∨ j = 4 ∨ j = 5 by omega) with rfl | rfl | rfl | rfl | rfl | rfl <;> rfl) ⟨by show (((((((0 + 1) + 1) + 23) + 1) + 23) + 1) + 23) + 1 ≤ 97; omega, by show (((((((0 + (4)) + 6) + (108 + 7 * 30 + 14 * 20)) + 6) + (108 + 7 * 30 + 14 * 20)) + 6) + (108 + 7 * 30 + 14 * 20)) + 6 ≤ 2500; omega⟩ dX1_init_28 (fun q28xxx => ?_)
  try dsimp only [Nat.reduceAdd, pk_t, pk_f, pk_n, nf_rep1, nf_rep0, nf_d0, nf_t0, nf_s0, nf_ac, nf_an, nf_d1, nf_t1, nf_s1, nf_d2, nf_t2, nf_s2, nf_d3, nf_t3, nf_s3, nf_d4, nf_t4, nf_s4, nf_d5, nf_t5, nf_s5, nf_d6, nf_t6, nf_s6, nf_d7, nf_t7, nf_s7, nf_d8, nf_t8, nf_s8, nf_d9, nf_t9, nf_s9, nf_d10, nf_t10, nf_s10, nf_d11, nf_t11, nf_s11, nf_d12, nf_t12, nf_s12, nf_d13, nf_t13, nf_s13, nf_d14, nf_t14, nf_s14, nf_d15, nf_t15, nf_s15, nf_d16, nf_t16, nf_s16, nf_d17, nf_t17, nf_s17, nf_d18, nf_t18, nf_s18, nf_d19, nf_t19, nf_s19, nf_d20, nf_t20, nf_s20, List.set_cons_zero, List.set_cons_succ]
  refine v_dup K dX1_init_31 rfl ?_
  refine v_bipush K (30) dX1_init_32 (by decide) ?_
  refine v_bipush K (20) dX1_init_34 (by decide) ?_
  refine v_callI K O [5] [0, 1, 2, 3, 4] [true, true, true, true, true, false] (c_X0_init (XI X) (XB X) _ 30 20 ?hc36_0_7) rfl rfl ⟨by decide, by decide, by decide⟩ gX1_init_X0_init rfl rfl (by decide +kernel) (by decide +kernel) (by decide +kernel) rfl hdi_X0 ⟨rfl, rfl⟩ ⟨Nat.le_of_ble_eq_true rfl, Nat.le_of_ble_eq_true rfl⟩ (Nat.le_of_ble_eq_true rfl) ⟨by show ((((((((0 + 1) + 1) + 23) + 1) + 23) + 1) + 23) + 1) + (23) ≤ 97; omega, by show ((((((((0 + (4)) + 6) + (108 + 7 * 30 + 14 * 20)) + 6) + (108 + 7 * 30 + 14 * 20)) + 6) + (108 + 7 * 30 + 14 * 20)) + 6) + (108 + 7 * 30 + 14 * 20) ≤ 2500; omega⟩ rfl dX1_init_36 (fun Mc1 hpo => ?_)
  case hc36_0_7 => omega
  obtain ⟨A36xxx, hA36xxx, rfl⟩ := hpo
  try dsimp only [Nat.reduceAdd, pk_t, pk_f, pk_n, nf_rep1, nf_rep0, nf_d0, nf_t0, nf_s0, nf_ac, nf_an, nf_d1, nf_t1, nf_s1, nf_d2, nf_t2, nf_s2, nf_d3, nf_t3, nf_s3, nf_d4, nf_t4, nf_s4, nf_d5, nf_t5, nf_s5, nf_d6, nf_t6, nf_s6, nf_d7, nf_t7, nf_s7, nf_d8, nf_t8, nf_s8, nf_d9, nf_t9, nf_s9, nf_d10, nf_t10, nf_s10, nf_d11, nf_t11, nf_s11, nf_d12, nf_t12, nf_s12, nf_d13, nf_t13, nf_s13, nf_d14, nf_t14, nf_s14, nf_d15, nf_t15, nf_s15, nf_d16, nf_t16, nf_s16, nf_d17, nf_t17, nf_s17, nf_d18, nf_t18, nf_s18, nf_d19, nf_t19, nf_s19, nf_d20, nf_t20, nf_s20, List.set_cons_zero, List.set_cons_succ]
  refine v_aast K 1 rfl ?ab39_8 ?ix39_8 dX1_init_39 ?_
  case ix39_8 => exact (by unfold vp_in; decide)
  case ab39_8 => exact ⟨_, List.mem_of_getElem? (i := 5) rfl, _, by rw [← hA36xxx]; exact bookF⟩
  try dsimp only [Nat.reduceAdd, pk_t, pk_f, pk_n, nf_rep1, nf_rep0, nf_d0, nf_t0, nf_s0, nf_ac, nf_an, nf_d1, nf_t1, nf_s1, nf_d2, nf_t2, nf_s2, nf_d3, nf_t3, nf_s3, nf_d4, nf_t4, nf_s4, nf_d5, nf_t5, nf_s5, nf_d6, nf_t6, nf_s6, nf_d7, nf_t7, nf_s7, nf_d8, nf_t8, nf_s8, nf_d9, nf_t9, nf_s9, nf_d10, nf_t10, nf_s10, nf_d11, nf_t11, nf_s11, nf_d12, nf_t12, nf_s12, nf_d13, nf_t13, nf_s13, nf_d14, nf_t14, nf_s14, nf_d15, nf_t15, nf_s15, nf_d16, nf_t16, nf_s16, nf_d17, nf_t17, nf_s17, nf_d18, nf_t18, nf_s18, nf_d19, nf_t19, nf_s19, nf_d20, nf_t20, nf_s20, List.set_cons_zero, List.set_cons_succ]
  refine v_iinc K dX1_init_40 rfl (by decide) iinc_1 ?_
  refine v_goto K 14 dX1_init_43 (by decide) ?_
  refine v_iload_n K dX1_init_14 rfl ?_
  refine v_aload_n K dX1_init_15 rfl ?_
  refine v_get K 0 rfl hasF_c rfl iX1 0 (by decide) rfl (by decide +kernel) rfl dX1_init_16 ?_
  refine v_alenq K 1 rfl dX1_init_19 ?_
  refine v_ic_ge K 46 dX1_init_20 (by decide) (fun c20 => ?_) (fun c20 => False.elim (c20 (by decide)))
  have hrl : hrel (fun i => match i with | 0 => A36 | 1 => A36x | 2 => A36xx | _ => A36xxx) (va_up (va_up (va_up (va_up (fun _ => none) 0 (some q28)) 1 (some q28x)) 2 (some q28xx)) 3 (some q28xxx)) (fun _ => bkI) [] := by
    refine ⟨Nat.zero_le _, fun j => j, fun j hj => ⟨hj, ?_⟩, fun i j _ _ e => e, fun j hj => absurd hj (Nat.not_lt_zero j)⟩
    rcases (show j = 0 ∨ j = 1 ∨ j = 2 ∨ j = 3 by omega) with rfl | rfl | rfl | rfl
    · exact congrArg some hA36.symm
    · exact congrArg some hA36x.symm
    · exact congrArg some hA36xx.symm
    · exact congrArg some hA36xxx.symm
  refine v_chi 0 (h := h0) (a := q6) (B := (fun i => match i with | 0 => A36 | 1 => A36x | 2 => A36xx | _ => A36xxx)) (f := (va_up (va_up (va_up (va_up (fun _ => none) 0 (some q28)) 1 (some q28x)) 2 (some q28xx)) 3 (some q28xxx))) (n := 0) [] (fun _ => bkI) (Z := []) rfl hrl rfl rfl rfl rfl rfl ?_
  refine v_wide (k1' := 97) (k2' := 2500) (by omega) (by omega) ?_
  refine v_retA K E dX1_init_46 ?_
  exact ⟨q6, (fun i => match i with | 0 => A36 | 1 => A36x | 2 => A36xx | _ => A36xxx), rfl⟩

theorem hdi_X7 : yX7_init.cls ≠ "java/lang/invoke/MethodHandle" ∧ yX7_init.cls ≠ "java/lang/invoke/VarHandle" ∧ (parseMethodDescriptor yX7_init.desc).map (fun d => d.parameters.length) = some 0 := by decide +kernel
set_option maxHeartbeats 4000000 in
set_option maxRecDepth 100000 in
theorem c_X7_init (cI cB : ClassId) (x0 : Nat)  : CtA cI cB yX7_init wsX7_init { frames := 6, cells := 300, slots := 10000, locals := 131 } (300) (10000) [.ref x0] [cM x0 (.inr (7, [.null, .null, .null, .null, .null, .null, .null, .null, .int 0, .null, .null, .null]))] (fun M => ∃ (a : Nat → Nat) (g HB : Nat → Nat → Nat) (c : Sc), a 0 = x0 ∧ M = wl cI cB a g HB ([], [], bkI, bkI, false, []) c) := by
  refine ct_ofA (cc := cX7_init) (maxL := 1) (by decide) rfl (Nat.le_of_ble_eq_true rfl) [(0, .ref x0)] rfl rfl ?_
  intro X hI hB K O I E
  subst hI
  subst hB
  have iX0 : ∀ w ∈ u_ws RX0 TX0 6, w ∈ wsX7_init := by decide +kernel
  have iX1 : ∀ w ∈ u_ws RX1 TX1 2, w ∈ wsX7_init := by decide +kernel
  have iX2 : ∀ w ∈ u_ws RX2 TX2 7, w ∈ wsX7_init := by decide +kernel
  have iX3 : ∀ w ∈ u_ws RX3 TX3 2, w ∈ wsX7_init := by decide +kernel
  have iX5 : ∀ w ∈ u_ws RX5 TX5 4, w ∈ wsX7_init := by decide +kernel
  have iX6 : ∀ w ∈ u_ws RX6 TX6 7, w ∈ wsX7_init := by decide +kernel
  have iX7 : ∀ w ∈ u_ws RX7 TX7 12, w ∈ wsX7_init := by decide +kernel
  refine v_aload_n K dX7_init_0 rfl ?_
  refine v_obj K (by decide +kernel) (by decide +kernel) (by decide +kernel) (Nat.le_of_ble_eq_true rfl) (Nat.le_of_ble_eq_true rfl) dX7_init_1 ?_
  refine v_aload_n K dX7_init_4 rfl ?_
  refine v_new (ci := 3) (fs := [.null, .int 0]) K rfl iX3 tyX3 tyX3_ok (by decide +kernel) (by decide +kernel) (by decide +kernel) (fun j hj => by rcases (show j = 0 ∨ j = 1 by omega) with rfl | rfl <;> rfl) ⟨by show 0 + 1 ≤ 300; omega, by show 0 + 2 ≤ 10000; omega⟩ dX7_init_5 (fun q5 => ?_)
  try dsimp only [Nat.reduceAdd, pk_t, pk_f, pk_n, nf_rep1, nf_rep0, nf_d0, nf_t0, nf_s0, nf_ac, nf_an, nf_d1, nf_t1, nf_s1, nf_d2, nf_t2, nf_s2, nf_d3, nf_t3, nf_s3, nf_d4, nf_t4, nf_s4, nf_d5, nf_t5, nf_s5, nf_d6, nf_t6, nf_s6, nf_d7, nf_t7, nf_s7, nf_d8, nf_t8, nf_s8, nf_d9, nf_t9, nf_s9, nf_d10, nf_t10, nf_s10, nf_d11, nf_t11, nf_s11, nf_d12, nf_t12, nf_s12, nf_d13, nf_t13, nf_s13, nf_d14, nf_t14, nf_s14, nf_d15, nf_t15, nf_s15, nf_d16, nf_t16, nf_s16, nf_d17, nf_t17, nf_s17, nf_d18, nf_t18, nf_s18, nf_d19, nf_t19, nf_s19, nf_d20, nf_t20, nf_s20, List.set_cons_zero, List.set_cons_succ]
  refine v_dup K dX7_init_8 rfl ?_
  refine v_bipush K (60) dX7_init_9 (by decide) ?_
  refine v_callI K O [1] [0] [true, false] (c_X3_init (XI X) (XB X) _ 60 ?hc11_0_1) rfl rfl ⟨by decide, by decide, by decide⟩ gX7_init_X3_init rfl rfl (by decide +kernel) (by decide +kernel) (by decide +kernel) rfl hdi_X3 ⟨rfl, rfl⟩ ⟨Nat.le_of_ble_eq_true rfl, Nat.le_of_ble_eq_true rfl⟩ (Nat.le_of_ble_eq_true rfl) ⟨by show (0 + 1) + (1) ≤ 300; omega, by show (0 + 2) + (60) ≤ 10000; omega⟩ rfl dX7_init_11 (fun Mc1 hpo => ?_)
  case hc11_0_1 => omega
  obtain ⟨a11, rfl⟩ := hpo
  try dsimp only [Nat.reduceAdd, pk_t, pk_f, pk_n, nf_rep1, nf_rep0, nf_d0, nf_t0, nf_s0, nf_ac, nf_an, nf_d1, nf_t1, nf_s1, nf_d2, nf_t2, nf_s2, nf_d3, nf_t3, nf_s3, nf_d4, nf_t4, nf_s4, nf_d5, nf_t5, nf_s5, nf_d6, nf_t6, nf_s6, nf_d7, nf_t7, nf_s7, nf_d8, nf_t8, nf_s8, nf_d9, nf_t9, nf_s9, nf_d10, nf_t10, nf_s10, nf_d11, nf_t11, nf_s11, nf_d12, nf_t12, nf_s12, nf_d13, nf_t13, nf_s13, nf_d14, nf_t14, nf_s14, nf_d15, nf_t15, nf_s15, nf_d16, nf_t16, nf_s16, nf_d17, nf_t17, nf_s17, nf_d18, nf_t18, nf_s18, nf_d19, nf_t19, nf_s19, nf_d20, nf_t20, nf_s20, List.set_cons_zero, List.set_cons_succ]
  refine v_putF K I 0 rfl rfl iX7 tyX7 tyX7_ok nmX7 0 (by decide) rfl (by decide +kernel) rfl rfl (Nat.le_of_ble_eq_true rfl) dX7_init_14 ?_
  refine v_aload_n K dX7_init_17 rfl ?_
  refine v_new (ci := 3) (fs := [.null, .int 0]) K rfl iX3 tyX3 tyX3_ok (by decide +kernel) (by decide +kernel) (by decide +kernel) (fun j hj => by rcases (show j = 0 ∨ j = 1 by omega) with rfl | rfl <;> rfl) ⟨by show ((0 + 1) + 1) + 1 ≤ 300; omega, by show ((0 + 2) + (60)) + 2 ≤ 10000; omega⟩ dX7_init_18 (fun q18 => ?_)
  try dsimp only [Nat.reduceAdd, pk_t, pk_f, pk_n, nf_rep1, nf_rep0, nf_d0, nf_t0, nf_s0, nf_ac, nf_an, nf_d1, nf_t1, nf_s1, nf_d2, nf_t2, nf_s2, nf_d3, nf_t3, nf_s3, nf_d4, nf_t4, nf_s4, nf_d5, nf_t5, nf_s5, nf_d6, nf_t6, nf_s6, nf_d7, nf_t7, nf_s7, nf_d8, nf_t8, nf_s8, nf_d9, nf_t9, nf_s9, nf_d10, nf_t10, nf_s10, nf_d11, nf_t11, nf_s11, nf_d12, nf_t12, nf_s12, nf_d13, nf_t13, nf_s13, nf_d14, nf_t14, nf_s14, nf_d15, nf_t15, nf_s15, nf_d16, nf_t16, nf_s16, nf_d17, nf_t17, nf_s17, nf_d18, nf_t18, nf_s18, nf_d19, nf_t19, nf_s19, nf_d20, nf_t20, nf_s20, List.set_cons_zero, List.set_cons_succ]
  refine v_dup K dX7_init_21 rfl ?_
  refine v_sipush K (400) dX7_init_22 (by decide) ?_
  refine v_callI K O [2] [0, 1] [true, true, false] (c_X3_init (XI X) (XB X) _ 400 ?hc25_0_2) rfl rfl ⟨by decide, by decide, by decide⟩ gX7_init_X3_init rfl rfl (by decide +kernel) (by decide +kernel) (by decide +kernel) rfl hdi_X3 ⟨rfl, rfl⟩ ⟨Nat.le_of_ble_eq_true rfl, Nat.le_of_ble_eq_true rfl⟩ (Nat.le_of_ble_eq_true rfl) ⟨by show (((0 + 1) + 1) + 1) + (1) ≤ 300; omega, by show (((0 + 2) + (60)) + 2) + (400) ≤ 10000; omega⟩ rfl dX7_init_25 (fun Mc1 hpo => ?_)
  case hc25_0_2 => omega
  obtain ⟨a25, rfl⟩ := hpo
  try dsimp only [Nat.reduceAdd, pk_t, pk_f, pk_n, nf_rep1, nf_rep0, nf_d0, nf_t0, nf_s0, nf_ac, nf_an, nf_d1, nf_t1, nf_s1, nf_d2, nf_t2, nf_s2, nf_d3, nf_t3, nf_s3, nf_d4, nf_t4, nf_s4, nf_d5, nf_t5, nf_s5, nf_d6, nf_t6, nf_s6, nf_d7, nf_t7, nf_s7, nf_d8, nf_t8, nf_s8, nf_d9, nf_t9, nf_s9, nf_d10, nf_t10, nf_s10, nf_d11, nf_t11, nf_s11, nf_d12, nf_t12, nf_s12, nf_d13, nf_t13, nf_s13, nf_d14, nf_t14, nf_s14, nf_d15, nf_t15, nf_s15, nf_d16, nf_t16, nf_s16, nf_d17, nf_t17, nf_s17, nf_d18, nf_t18, nf_s18, nf_d19, nf_t19, nf_s19, nf_d20, nf_t20, nf_s20, List.set_cons_zero, List.set_cons_succ]
  refine v_putF K I 0 rfl rfl iX7 tyX7 tyX7_ok nmX7 1 (by decide) rfl (by decide +kernel) rfl rfl (Nat.le_of_ble_eq_true rfl) dX7_init_28 ?_
  refine v_aload_n K dX7_init_31 rfl ?_
  refine v_new (ci := 3) (fs := [.null, .int 0]) K rfl iX3 tyX3 tyX3_ok (by decide +kernel) (by decide +kernel) (by decide +kernel) (fun j hj => by rcases (show j = 0 ∨ j = 1 by omega) with rfl | rfl <;> rfl) ⟨by show ((((0 + 1) + 1) + 1) + 1) + 1 ≤ 300; omega, by show ((((0 + 2) + (60)) + 2) + (400)) + 2 ≤ 10000; omega⟩ dX7_init_32 (fun q32 => ?_)
  try dsimp only [Nat.reduceAdd, pk_t, pk_f, pk_n, nf_rep1, nf_rep0, nf_d0, nf_t0, nf_s0, nf_ac, nf_an, nf_d1, nf_t1, nf_s1, nf_d2, nf_t2, nf_s2, nf_d3, nf_t3, nf_s3, nf_d4, nf_t4, nf_s4, nf_d5, nf_t5, nf_s5, nf_d6, nf_t6, nf_s6, nf_d7, nf_t7, nf_s7, nf_d8, nf_t8, nf_s8, nf_d9, nf_t9, nf_s9, nf_d10, nf_t10, nf_s10, nf_d11, nf_t11, nf_s11, nf_d12, nf_t12, nf_s12, nf_d13, nf_t13, nf_s13, nf_d14, nf_t14, nf_s14, nf_d15, nf_t15, nf_s15, nf_d16, nf_t16, nf_s16, nf_d17, nf_t17, nf_s17, nf_d18, nf_t18, nf_s18, nf_d19, nf_t19, nf_s19, nf_d20, nf_t20, nf_s20, List.set_cons_zero, List.set_cons_succ]
  refine v_dup K dX7_init_35 rfl ?_
  refine v_sipush K (400) dX7_init_36 (by decide) ?_
  refine v_callI K O [3] [0, 1, 2] [true, true, true, false] (c_X3_init (XI X) (XB X) _ 400 ?hc39_0_3) rfl rfl ⟨by decide, by decide, by decide⟩ gX7_init_X3_init rfl rfl (by decide +kernel) (by decide +kernel) (by decide +kernel) rfl hdi_X3 ⟨rfl, rfl⟩ ⟨Nat.le_of_ble_eq_true rfl, Nat.le_of_ble_eq_true rfl⟩ (Nat.le_of_ble_eq_true rfl) ⟨by show (((((0 + 1) + 1) + 1) + 1) + 1) + (1) ≤ 300; omega, by show (((((0 + 2) + (60)) + 2) + (400)) + 2) + (400) ≤ 10000; omega⟩ rfl dX7_init_39 (fun Mc1 hpo => ?_)
  case hc39_0_3 => omega
  obtain ⟨a39, rfl⟩ := hpo
  try dsimp only [Nat.reduceAdd, pk_t, pk_f, pk_n, nf_rep1, nf_rep0, nf_d0, nf_t0, nf_s0, nf_ac, nf_an, nf_d1, nf_t1, nf_s1, nf_d2, nf_t2, nf_s2, nf_d3, nf_t3, nf_s3, nf_d4, nf_t4, nf_s4, nf_d5, nf_t5, nf_s5, nf_d6, nf_t6, nf_s6, nf_d7, nf_t7, nf_s7, nf_d8, nf_t8, nf_s8, nf_d9, nf_t9, nf_s9, nf_d10, nf_t10, nf_s10, nf_d11, nf_t11, nf_s11, nf_d12, nf_t12, nf_s12, nf_d13, nf_t13, nf_s13, nf_d14, nf_t14, nf_s14, nf_d15, nf_t15, nf_s15, nf_d16, nf_t16, nf_s16, nf_d17, nf_t17, nf_s17, nf_d18, nf_t18, nf_s18, nf_d19, nf_t19, nf_s19, nf_d20, nf_t20, nf_s20, List.set_cons_zero, List.set_cons_succ]
  refine v_putF K I 0 rfl rfl iX7 tyX7 tyX7_ok nmX7 2 (by decide) rfl (by decide +kernel) rfl rfl (Nat.le_of_ble_eq_true rfl) dX7_init_42 ?_
  refine v_aload_n K dX7_init_45 rfl ?_
  refine v_new (ci := 2) (fs := [.null, .null, .int 0, .int 0, .int 0, .int 0, .int 0]) K rfl iX2 tyX2 tyX2_ok (by decide +kernel) (by decide +kernel) (by decide +kernel) (fun j hj => by rcases (show j = 0 ∨ j = 1 ∨ j = 2 ∨ j = 3 ∨ j = 4 ∨ j = 5 ∨ j = 6 by omega) with rfl | rfl | rfl | rfl | rfl | rfl | rfl <;> rfl) ⟨by show ((((((0 + 1) + 1) + 1) + 1) + 1) + 1) + 1 ≤ 300; omega, by show ((((((0 + 2) + (60)) + 2) + (400)) + 2) + (400)) + 7 ≤ 10000; omega⟩ dX7_init_46 (fun q46 => ?_)
  try dsimp only [Nat.reduceAdd, pk_t, pk_f, pk_n, nf_rep1, nf_rep0, nf_d0, nf_t0, nf_s0, nf_ac, nf_an, nf_d1, nf_t1, nf_s1, nf_d2, nf_t2, nf_s2, nf_d3, nf_t3, nf_s3, nf_d4, nf_t4, nf_s4, nf_d5, nf_t5, nf_s5, nf_d6, nf_t6, nf_s6, nf_d7, nf_t7, nf_s7, nf_d8, nf_t8, nf_s8, nf_d9, nf_t9, nf_s9, nf_d10, nf_t10, nf_s10, nf_d11, nf_t11, nf_s11, nf_d12, nf_t12, nf_s12, nf_d13, nf_t13, nf_s13, nf_d14, nf_t14, nf_s14, nf_d15, nf_t15, nf_s15, nf_d16, nf_t16, nf_s16, nf_d17, nf_t17, nf_s17, nf_d18, nf_t18, nf_s18, nf_d19, nf_t19, nf_s19, nf_d20, nf_t20, nf_s20, List.set_cons_zero, List.set_cons_succ]
  refine v_dup K dX7_init_49 rfl ?_
  refine v_aload_n K dX7_init_50 rfl ?_
  refine v_get K 0 rfl hasF_c rfl iX7 0 (by decide) rfl (by decide +kernel) rfl dX7_init_51 ?_
  refine v_callI K O [4] [0, 1, 2, 3] [true, true, true, true, false] (c_X2_init (XI X) (XB X) _ _ ) rfl rfl ⟨by decide, by decide, by decide⟩ gX7_init_X2_init rfl rfl (by decide +kernel) (by decide +kernel) (by decide +kernel) rfl hdi_X2 ⟨rfl, rfl⟩ ⟨Nat.le_of_ble_eq_true rfl, Nat.le_of_ble_eq_true rfl⟩ (Nat.le_of_ble_eq_true rfl) ⟨by show (((((((0 + 1) + 1) + 1) + 1) + 1) + 1) + 1) + (2) ≤ 300; omega, by show (((((((0 + 2) + (60)) + 2) + (400)) + 2) + (400)) + 7) + (27) ≤ 10000; omega⟩ rfl dX7_init_54 (fun Mc1 hpo => ?_)
  obtain ⟨lt54, la54, rfl⟩ := hpo
  try dsimp only [Nat.reduceAdd, pk_t, pk_f, pk_n, nf_rep1, nf_rep0, nf_d0, nf_t0, nf_s0, nf_ac, nf_an, nf_d1, nf_t1, nf_s1, nf_d2, nf_t2, nf_s2, nf_d3, nf_t3, nf_s3, nf_d4, nf_t4, nf_s4, nf_d5, nf_t5, nf_s5, nf_d6, nf_t6, nf_s6, nf_d7, nf_t7, nf_s7, nf_d8, nf_t8, nf_s8, nf_d9, nf_t9, nf_s9, nf_d10, nf_t10, nf_s10, nf_d11, nf_t11, nf_s11, nf_d12, nf_t12, nf_s12, nf_d13, nf_t13, nf_s13, nf_d14, nf_t14, nf_s14, nf_d15, nf_t15, nf_s15, nf_d16, nf_t16, nf_s16, nf_d17, nf_t17, nf_s17, nf_d18, nf_t18, nf_s18, nf_d19, nf_t19, nf_s19, nf_d20, nf_t20, nf_s20, List.set_cons_zero, List.set_cons_succ]
  refine v_putF K I 0 rfl rfl iX7 tyX7 tyX7_ok nmX7 3 (by decide) rfl (by decide +kernel) rfl rfl (Nat.le_of_ble_eq_true rfl) dX7_init_57 ?_
  refine v_aload_n K dX7_init_60 rfl ?_
  refine v_new (ci := 5) (fs := [.null, .null, .null, .null]) K rfl iX5 tyX5 tyX5_ok (by decide +kernel) (by decide +kernel) (by decide +kernel) (fun j hj => by rcases (show j = 0 ∨ j = 1 ∨ j = 2 ∨ j = 3 by omega) with rfl | rfl | rfl | rfl <;> rfl) ⟨by show ((((((((0 + 1) + 1) + 1) + 1) + 1) + 1) + 1) + 2) + 1 ≤ 300; omega, by show ((((((((0 + 2) + (60)) + 2) + (400)) + 2) + (400)) + 7) + (27)) + 4 ≤ 10000; omega⟩ dX7_init_61 (fun q61 => ?_)
  try dsimp only [Nat.reduceAdd, pk_t, pk_f, pk_n, nf_rep1, nf_rep0, nf_d0, nf_t0, nf_s0, nf_ac, nf_an, nf_d1, nf_t1, nf_s1, nf_d2, nf_t2, nf_s2, nf_d3, nf_t3, nf_s3, nf_d4, nf_t4, nf_s4, nf_d5, nf_t5, nf_s5, nf_d6, nf_t6, nf_s6, nf_d7, nf_t7, nf_s7, nf_d8, nf_t8, nf_s8, nf_d9, nf_t9, nf_s9, nf_d10, nf_t10, nf_s10, nf_d11, nf_t11, nf_s11, nf_d12, nf_t12, nf_s12, nf_d13, nf_t13, nf_s13, nf_d14, nf_t14, nf_s14, nf_d15, nf_t15, nf_s15, nf_d16, nf_t16, nf_s16, nf_d17, nf_t17, nf_s17, nf_d18, nf_t18, nf_s18, nf_d19, nf_t19, nf_s19, nf_d20, nf_t20, nf_s20, List.set_cons_zero, List.set_cons_succ]
  refine v_dup K dX7_init_64 rfl ?_
  refine v_callIN (host := RX7) K O [6] [0, 1, 2, 3, 4, 5] [true, true, true, true, true, true, false] (c_X5_init (XI X) (XB X) _ ) rfl rfl ⟨by decide, by decide, by decide⟩ gX7_init_X5_init_n35 rfl rfl (by decide +kernel) (by decide +kernel) (by decide +kernel) rfl hdi_X5 ⟨rfl, rfl⟩ ⟨Nat.le_of_ble_eq_true rfl, Nat.le_of_ble_eq_true rfl⟩ (Nat.le_of_ble_eq_true rfl) ⟨by show (((((((((0 + 1) + 1) + 1) + 1) + 1) + 1) + 1) + 2) + 1) + (8) ≤ 300; omega, by show (((((((((0 + 2) + (60)) + 2) + (400)) + 2) + (400)) + 7) + (27)) + 4) + (69) ≤ 10000; omega⟩ rfl dX7_init_65 (fun Mc1 hpo => ?_)
  obtain ⟨A65, hA65, rfl⟩ := hpo
  try dsimp only [Nat.reduceAdd, pk_t, pk_f, pk_n, nf_rep1, nf_rep0, nf_d0, nf_t0, nf_s0, nf_ac, nf_an, nf_d1, nf_t1, nf_s1, nf_d2, nf_t2, nf_s2, nf_d3, nf_t3, nf_s3, nf_d4, nf_t4, nf_s4, nf_d5, nf_t5, nf_s5, nf_d6, nf_t6, nf_s6, nf_d7, nf_t7, nf_s7, nf_d8, nf_t8, nf_s8, nf_d9, nf_t9, nf_s9, nf_d10, nf_t10, nf_s10, nf_d11, nf_t11, nf_s11, nf_d12, nf_t12, nf_s12, nf_d13, nf_t13, nf_s13, nf_d14, nf_t14, nf_s14, nf_d15, nf_t15, nf_s15, nf_d16, nf_t16, nf_s16, nf_d17, nf_t17, nf_s17, nf_d18, nf_t18, nf_s18, nf_d19, nf_t19, nf_s19, nf_d20, nf_t20, nf_s20, List.set_cons_zero, List.set_cons_succ]
  subst hA65
  refine v_putF K I 0 rfl rfl iX7 tyX7 tyX7_ok nmX7 4 (by decide) rfl (by decide +kernel) rfl rfl (Nat.le_of_ble_eq_true rfl) dX7_init_68 ?_
  refine v_aload_n K dX7_init_71 rfl ?_
  refine v_new (ci := 0) (fs := [.null, .null, .null, .null, .null, .null]) K rfl iX0 tyX0 tyX0_ok (by decide +kernel) (by decide +kernel) (by decide +kernel) (fun j hj => by rcases (show j = 0 ∨ j = 1 ∨ j = 2 ∨ j = 3 ∨ j = 4 ∨ j = 5 by omega) with rfl | rfl | rfl | rfl | rfl | rfl <;> rfl) ⟨by show ((((((((((0 + 1) + 1) + 1) + 1) + 1) + 1) + 1) + 2) + 1) + 8) + 1 ≤ 300; omega, by show ((((((((((0 + 2) + (60)) + 2) + (400)) + 2) + (400)) + 7) + (27)) + 4) + (69)) + 6 ≤ 10000; omega⟩ dX7_init_72 (fun q72 => ?_)
  try dsimp only [Nat.reduceAdd, pk_t, pk_f, pk_n, nf_rep1, nf_rep0, nf_d0, nf_t0, nf_s0, nf_ac, nf_an, nf_d1, nf_t1, nf_s1, nf_d2, nf_t2, nf_s2, nf_d3, nf_t3, nf_s3, nf_d4, nf_t4, nf_s4, nf_d5, nf_t5, nf_s5, nf_d6, nf_t6, nf_s6, nf_d7, nf_t7, nf_s7, nf_d8, nf_t8, nf_s8, nf_d9, nf_t9, nf_s9, nf_d10, nf_t10, nf_s10, nf_d11, nf_t11, nf_s11, nf_d12, nf_t12, nf_s12, nf_d13, nf_t13, nf_s13, nf_d14, nf_t14, nf_s14, nf_d15, nf_t15, nf_s15, nf_d16, nf_t16, nf_s16, nf_d17, nf_t17, nf_s17, nf_d18, nf_t18, nf_s18, nf_d19, nf_t19, nf_s19, nf_d20, nf_t20, nf_s20, List.set_cons_zero, List.set_cons_succ]
  refine v_dup K dX7_init_75 rfl ?_
  refine v_bipush K (30) dX7_init_76 (by decide) ?_
  refine v_bipush K (20) dX7_init_78 (by decide) ?_
  refine v_callI K O [7] [0, 1, 2, 3, 4, 5, 6] [true, true, true, true, true, true, true, false] (c_X0_init (XI X) (XB X) _ 30 20 ?hc80_0_6) rfl rfl ⟨by decide, by decide, by decide⟩ gX7_init_X0_init rfl rfl (by decide +kernel) (by decide +kernel) (by decide +kernel) rfl hdi_X0 ⟨rfl, rfl⟩ ⟨Nat.le_of_ble_eq_true rfl, Nat.le_of_ble_eq_true rfl⟩ (Nat.le_of_ble_eq_true rfl) ⟨by show (((((((((((0 + 1) + 1) + 1) + 1) + 1) + 1) + 1) + 2) + 1) + 8) + 1) + (23) ≤ 300; omega, by show (((((((((((0 + 2) + (60)) + 2) + (400)) + 2) + (400)) + 7) + (27)) + 4) + (69)) + 6) + (108 + 7 * 30 + 14 * 20) ≤ 10000; omega⟩ rfl dX7_init_80 (fun Mc1 hpo => ?_)
  case hc80_0_6 => omega
  obtain ⟨A80, hA80, rfl⟩ := hpo
  try dsimp only [Nat.reduceAdd, pk_t, pk_f, pk_n, nf_rep1, nf_rep0, nf_d0, nf_t0, nf_s0, nf_ac, nf_an, nf_d1, nf_t1, nf_s1, nf_d2, nf_t2, nf_s2, nf_d3, nf_t3, nf_s3, nf_d4, nf_t4, nf_s4, nf_d5, nf_t5, nf_s5, nf_d6, nf_t6, nf_s6, nf_d7, nf_t7, nf_s7, nf_d8, nf_t8, nf_s8, nf_d9, nf_t9, nf_s9, nf_d10, nf_t10, nf_s10, nf_d11, nf_t11, nf_s11, nf_d12, nf_t12, nf_s12, nf_d13, nf_t13, nf_s13, nf_d14, nf_t14, nf_s14, nf_d15, nf_t15, nf_s15, nf_d16, nf_t16, nf_s16, nf_d17, nf_t17, nf_s17, nf_d18, nf_t18, nf_s18, nf_d19, nf_t19, nf_s19, nf_d20, nf_t20, nf_s20, List.set_cons_zero, List.set_cons_succ]
  subst hA80
  refine v_putF K I 0 rfl rfl iX7 tyX7 tyX7_ok nmX7 5 (by decide) rfl (by decide +kernel) rfl rfl (Nat.le_of_ble_eq_true rfl) dX7_init_83 ?_
  refine v_aload_n K dX7_init_86 rfl ?_
  refine v_new (ci := 0) (fs := [.null, .null, .null, .null, .null, .null]) K rfl iX0 tyX0 tyX0_ok (by decide +kernel) (by decide +kernel) (by decide +kernel) (fun j hj => by rcases (show j = 0 ∨ j = 1 ∨ j = 2 ∨ j = 3 ∨ j = 4 ∨ j = 5 by omega) with rfl | rfl | rfl | rfl | rfl | rfl <;> rfl) ⟨by show ((((((((((((0 + 1) + 1) + 1) + 1) + 1) + 1) + 1) + 2) + 1) + 8) + 1) + 23) + 1 ≤ 300; omega, by show ((((((((((((0 + 2) + (60)) + 2) + (400)) + 2) + (400)) + 7) + (27)) + 4) + (69)) + 6) + (108 + 7 * 30 + 14 * 20)) + 6 ≤ 10000; omega⟩ dX7_init_87 (fun q87 => ?_)
  try dsimp only [Nat.reduceAdd, pk_t, pk_f, pk_n, nf_rep1, nf_rep0, nf_d0, nf_t0, nf_s0, nf_ac, nf_an, nf_d1, nf_t1, nf_s1, nf_d2, nf_t2, nf_s2, nf_d3, nf_t3, nf_s3, nf_d4, nf_t4, nf_s4, nf_d5, nf_t5, nf_s5, nf_d6, nf_t6, nf_s6, nf_d7, nf_t7, nf_s7, nf_d8, nf_t8, nf_s8, nf_d9, nf_t9, nf_s9, nf_d10, nf_t10, nf_s10, nf_d11, nf_t11, nf_s11, nf_d12, nf_t12, nf_s12, nf_d13, nf_t13, nf_s13, nf_d14, nf_t14, nf_s14, nf_d15, nf_t15, nf_s15, nf_d16, nf_t16, nf_s16, nf_d17, nf_t17, nf_s17, nf_d18, nf_t18, nf_s18, nf_d19, nf_t19, nf_s19, nf_d20, nf_t20, nf_s20, List.set_cons_zero, List.set_cons_succ]
  refine v_dup K dX7_init_90 rfl ?_
  refine v_bipush K (60) dX7_init_91 (by decide) ?_
  refine v_bipush K (50) dX7_init_93 (by decide) ?_
  refine v_callI K O [8] [0, 1, 2, 3, 4, 5, 6, 7] [true, true, true, true, true, true, true, true, false] (c_X0_init (XI X) (XB X) _ 60 50 ?hc95_0_7) rfl rfl ⟨by decide, by decide, by decide⟩ gX7_init_X0_init rfl rfl (by decide +kernel) (by decide +kernel) (by decide +kernel) rfl hdi_X0 ⟨rfl, rfl⟩ ⟨Nat.le_of_ble_eq_true rfl, Nat.le_of_ble_eq_true rfl⟩ (Nat.le_of_ble_eq_true rfl) ⟨by show (((((((((((((0 + 1) + 1) + 1) + 1) + 1) + 1) + 1) + 2) + 1) + 8) + 1) + 23) + 1) + (23) ≤ 300; omega, by show (((((((((((((0 + 2) + (60)) + 2) + (400)) + 2) + (400)) + 7) + (27)) + 4) + (69)) + 6) + (108 + 7 * 30 + 14 * 20)) + 6) + (108 + 7 * 60 + 14 * 50) ≤ 10000; omega⟩ rfl dX7_init_95 (fun Mc1 hpo => ?_)
  case hc95_0_7 => omega
  obtain ⟨A95, hA95, rfl⟩ := hpo
  try dsimp only [Nat.reduceAdd, pk_t, pk_f, pk_n, nf_rep1, nf_rep0, nf_d0, nf_t0, nf_s0, nf_ac, nf_an, nf_d1, nf_t1, nf_s1, nf_d2, nf_t2, nf_s2, nf_d3, nf_t3, nf_s3, nf_d4, nf_t4, nf_s4, nf_d5, nf_t5, nf_s5, nf_d6, nf_t6, nf_s6, nf_d7, nf_t7, nf_s7, nf_d8, nf_t8, nf_s8, nf_d9, nf_t9, nf_s9, nf_d10, nf_t10, nf_s10, nf_d11, nf_t11, nf_s11, nf_d12, nf_t12, nf_s12, nf_d13, nf_t13, nf_s13, nf_d14, nf_t14, nf_s14, nf_d15, nf_t15, nf_s15, nf_d16, nf_t16, nf_s16, nf_d17, nf_t17, nf_s17, nf_d18, nf_t18, nf_s18, nf_d19, nf_t19, nf_s19, nf_d20, nf_t20, nf_s20, List.set_cons_zero, List.set_cons_succ]
  subst hA95
  refine v_putF K I 0 rfl rfl iX7 tyX7 tyX7_ok nmX7 6 (by decide) rfl (by decide +kernel) rfl rfl (Nat.le_of_ble_eq_true rfl) dX7_init_98 ?_
  refine v_aload_n K dX7_init_101 rfl ?_
  refine v_new (ci := 0) (fs := [.null, .null, .null, .null, .null, .null]) K rfl iX0 tyX0 tyX0_ok (by decide +kernel) (by decide +kernel) (by decide +kernel) (fun j hj => by rcases (show j = 0 ∨ j = 1 ∨ j = 2 ∨ j = 3 ∨ j = 4 ∨ j = 5 by omega) with rfl | rfl | rfl | rfl | rfl | rfl <;> rfl) ⟨by show ((((((((((((((0 + 1) + 1) + 1) + 1) + 1) + 1) + 1) + 2) + 1) + 8) + 1) + 23) + 1) + 23) + 1 ≤ 300; omega, by show ((((((((((((((0 + 2) + (60)) + 2) + (400)) + 2) + (400)) + 7) + (27)) + 4) + (69)) + 6) + (108 + 7 * 30 + 14 * 20)) + 6) + (108 + 7 * 60 + 14 * 50)) + 6 ≤ 10000; omega⟩ dX7_init_102 (fun q102 => ?_)
  try dsimp only [Nat.reduceAdd, pk_t, pk_f, pk_n, nf_rep1, nf_rep0, nf_d0, nf_t0, nf_s0, nf_ac, nf_an, nf_d1, nf_t1, nf_s1, nf_d2, nf_t2, nf_s2, nf_d3, nf_t3, nf_s3, nf_d4, nf_t4, nf_s4, nf_d5, nf_t5, nf_s5, nf_d6, nf_t6, nf_s6, nf_d7, nf_t7, nf_s7, nf_d8, nf_t8, nf_s8, nf_d9, nf_t9, nf_s9, nf_d10, nf_t10, nf_s10, nf_d11, nf_t11, nf_s11, nf_d12, nf_t12, nf_s12, nf_d13, nf_t13, nf_s13, nf_d14, nf_t14, nf_s14, nf_d15, nf_t15, nf_s15, nf_d16, nf_t16, nf_s16, nf_d17, nf_t17, nf_s17, nf_d18, nf_t18, nf_s18, nf_d19, nf_t19, nf_s19, nf_d20, nf_t20, nf_s20, List.set_cons_zero, List.set_cons_succ]
  refine v_dup K dX7_init_105 rfl ?_
  refine v_bipush K (30) dX7_init_106 (by decide) ?_
  refine v_bipush K (20) dX7_init_108 (by decide) ?_
  refine v_callI K O [9] [0, 1, 2, 3, 4, 5, 6, 7, 8] [true, true, true, true, true, true, true, true, true, false] (c_X0_init (XI X) (XB X) _ 30 20 ?hc110_0_8) rfl rfl ⟨by decide, by decide, by decide⟩ gX7_init_X0_init rfl rfl (by decide +kernel) (by decide +kernel) (by decide +kernel) rfl hdi_X0 ⟨rfl, rfl⟩ ⟨Nat.le_of_ble_eq_true rfl, Nat.le_of_ble_eq_true rfl⟩ (Nat.le_of_ble_eq_true rfl) ⟨by show (((((((((((((((0 + 1) + 1) + 1) + 1) + 1) + 1) + 1) + 2) + 1) + 8) + 1) + 23) + 1) + 23) + 1) + (23) ≤ 300; omega, by show (((((((((((((((0 + 2) + (60)) + 2) + (400)) + 2) + (400)) + 7) + (27)) + 4) + (69)) + 6) + (108 + 7 * 30 + 14 * 20)) + 6) + (108 + 7 * 60 + 14 * 50)) + 6) + (108 + 7 * 30 + 14 * 20) ≤ 10000; omega⟩ rfl dX7_init_110 (fun Mc1 hpo => ?_)
  case hc110_0_8 => omega
  obtain ⟨A110, hA110, rfl⟩ := hpo
  try dsimp only [Nat.reduceAdd, pk_t, pk_f, pk_n, nf_rep1, nf_rep0, nf_d0, nf_t0, nf_s0, nf_ac, nf_an, nf_d1, nf_t1, nf_s1, nf_d2, nf_t2, nf_s2, nf_d3, nf_t3, nf_s3, nf_d4, nf_t4, nf_s4, nf_d5, nf_t5, nf_s5, nf_d6, nf_t6, nf_s6, nf_d7, nf_t7, nf_s7, nf_d8, nf_t8, nf_s8, nf_d9, nf_t9, nf_s9, nf_d10, nf_t10, nf_s10, nf_d11, nf_t11, nf_s11, nf_d12, nf_t12, nf_s12, nf_d13, nf_t13, nf_s13, nf_d14, nf_t14, nf_s14, nf_d15, nf_t15, nf_s15, nf_d16, nf_t16, nf_s16, nf_d17, nf_t17, nf_s17, nf_d18, nf_t18, nf_s18, nf_d19, nf_t19, nf_s19, nf_d20, nf_t20, nf_s20, List.set_cons_zero, List.set_cons_succ]
  subst hA110
  refine v_putF K I 0 rfl rfl iX7 tyX7 tyX7_ok nmX7 7 (by decide) rfl (by decide +kernel) rfl rfl (Nat.le_of_ble_eq_true rfl) dX7_init_113 ?_
  refine v_aload_n K dX7_init_116 rfl ?_
  refine v_new (ci := 1) (fs := [.null, .int 0]) K rfl iX1 tyX1 tyX1_ok (by decide +kernel) (by decide +kernel) (by decide +kernel) (fun j hj => by rcases (show j = 0 ∨ j = 1 by omega) with rfl | rfl <;> rfl) ⟨by show ((((((((((((((((0 + 1) + 1) + 1) + 1) + 1) + 1) + 1) + 2) + 1) + 8) + 1) + 23) + 1) + 23) + 1) + 23) + 1 ≤ 300; omega, by show ((((((((((((((((0 + 2) + (60)) + 2) + (400)) + 2) + (400)) + 7) + (27)) + 4) + (69)) + 6) + (108 + 7 * 30 + 14 * 20)) + 6) + (108 + 7 * 60 + 14 * 50)) + 6) + (108 + 7 * 30 + 14 * 20)) + 2 ≤ 10000; omega⟩ dX7_init_117 (fun q117 => ?_)
  try dsimp only [Nat.reduceAdd, pk_t, pk_f, pk_n, nf_rep1, nf_rep0, nf_d0, nf_t0, nf_s0, nf_ac, nf_an, nf_d1, nf_t1, nf_s1, nf_d2, nf_t2, nf_s2, nf_d3, nf_t3, nf_s3, nf_d4, nf_t4, nf_s4, nf_d5, nf_t5, nf_s5, nf_d6, nf_t6, nf_s6, nf_d7, nf_t7, nf_s7, nf_d8, nf_t8, nf_s8, nf_d9, nf_t9, nf_s9, nf_d10, nf_t10, nf_s10, nf_d11, nf_t11, nf_s11, nf_d12, nf_t12, nf_s12, nf_d13, nf_t13, nf_s13, nf_d14, nf_t14, nf_s14, nf_d15, nf_t15, nf_s15, nf_d16, nf_t16, nf_s16, nf_d17, nf_t17, nf_s17, nf_d18, nf_t18, nf_s18, nf_d19, nf_t19, nf_s19, nf_d20, nf_t20, nf_s20, List.set_cons_zero, List.set_cons_succ]
  refine v_dup K dX7_init_120 rfl ?_
  refine v_callI K O [10] [0, 1, 2, 3, 4, 5, 6, 7, 8, 9] [true, true, true, true, true, true, true, true, true, true, false] (c_X1_init (XI X) (XB X) _ ) rfl rfl ⟨by decide, by decide, by decide⟩ gX7_init_X1_init rfl rfl (by decide +kernel) (by decide +kernel) (by decide +kernel) rfl hdi_X1 ⟨rfl, rfl⟩ ⟨Nat.le_of_ble_eq_true rfl, Nat.le_of_ble_eq_true rfl⟩ (Nat.le_of_ble_eq_true rfl) ⟨by show (((((((((((((((((0 + 1) + 1) + 1) + 1) + 1) + 1) + 1) + 2) + 1) + 8) + 1) + 23) + 1) + 23) + 1) + 23) + 1) + (97) ≤ 300; omega, by show (((((((((((((((((0 + 2) + (60)) + 2) + (400)) + 2) + (400)) + 7) + (27)) + 4) + (69)) + 6) + (108 + 7 * 30 + 14 * 20)) + 6) + (108 + 7 * 60 + 14 * 50)) + 6) + (108 + 7 * 30 + 14 * 20)) + 2) + (2500) ≤ 10000; omega⟩ rfl dX7_init_121 (fun Mc1 hpo => ?_)
  obtain ⟨ha121, HB121, rfl⟩ := hpo
  try dsimp only [Nat.reduceAdd, pk_t, pk_f, pk_n, nf_rep1, nf_rep0, nf_d0, nf_t0, nf_s0, nf_ac, nf_an, nf_d1, nf_t1, nf_s1, nf_d2, nf_t2, nf_s2, nf_d3, nf_t3, nf_s3, nf_d4, nf_t4, nf_s4, nf_d5, nf_t5, nf_s5, nf_d6, nf_t6, nf_s6, nf_d7, nf_t7, nf_s7, nf_d8, nf_t8, nf_s8, nf_d9, nf_t9, nf_s9, nf_d10, nf_t10, nf_s10, nf_d11, nf_t11, nf_s11, nf_d12, nf_t12, nf_s12, nf_d13, nf_t13, nf_s13, nf_d14, nf_t14, nf_s14, nf_d15, nf_t15, nf_s15, nf_d16, nf_t16, nf_s16, nf_d17, nf_t17, nf_s17, nf_d18, nf_t18, nf_s18, nf_d19, nf_t19, nf_s19, nf_d20, nf_t20, nf_s20, List.set_cons_zero, List.set_cons_succ]
  refine v_putF K I 0 rfl rfl iX7 tyX7 tyX7_ok nmX7 9 (by decide) rfl (by decide +kernel) rfl rfl (Nat.le_of_ble_eq_true rfl) dX7_init_124 ?_
  refine v_aload_n K dX7_init_127 rfl ?_
  refine v_new (ci := 6) (fs := [.null, .null, .null, .null, .null, .null, .null]) K rfl iX6 tyX6 tyX6_ok (by decide +kernel) (by decide +kernel) (by decide +kernel) (fun j hj => by rcases (show j = 0 ∨ j = 1 ∨ j = 2 ∨ j = 3 ∨ j = 4 ∨ j = 5 ∨ j = 6 by omega) with rfl | rfl | rfl | rfl | rfl | rfl | rfl <;> rfl) ⟨by show ((((((((((((((((((0 + 1) + 1) + 1) + 1) + 1) + 1) + 1) + 2) + 1) + 8) + 1) + 23) + 1) + 23) + 1) + 23) + 1) + 97) + 1 ≤ 300; omega, by show ((((((((((((((((((0 + 2) + (60)) + 2) + (400)) + 2) + (400)) + 7) + (27)) + 4) + (69)) + 6) + (108 + 7 * 30 + 14 * 20)) + 6) + (108 + 7 * 60 + 14 * 50)) + 6) + (108 + 7 * 30 + 14 * 20)) + 2) + (2500)) + 7 ≤ 10000; omega⟩ dX7_init_128 (fun q128 => ?_)
  try dsimp only [Nat.reduceAdd, pk_t, pk_f, pk_n, nf_rep1, nf_rep0, nf_d0, nf_t0, nf_s0, nf_ac, nf_an, nf_d1, nf_t1, nf_s1, nf_d2, nf_t2, nf_s2, nf_d3, nf_t3, nf_s3, nf_d4, nf_t4, nf_s4, nf_d5, nf_t5, nf_s5, nf_d6, nf_t6, nf_s6, nf_d7, nf_t7, nf_s7, nf_d8, nf_t8, nf_s8, nf_d9, nf_t9, nf_s9, nf_d10, nf_t10, nf_s10, nf_d11, nf_t11, nf_s11, nf_d12, nf_t12, nf_s12, nf_d13, nf_t13, nf_s13, nf_d14, nf_t14, nf_s14, nf_d15, nf_t15, nf_s15, nf_d16, nf_t16, nf_s16, nf_d17, nf_t17, nf_s17, nf_d18, nf_t18, nf_s18, nf_d19, nf_t19, nf_s19, nf_d20, nf_t20, nf_s20, List.set_cons_zero, List.set_cons_succ]
  refine v_dup K dX7_init_131 rfl ?_
  refine v_callIN (host := RX7) K O [11] [0, 1, 2, 3, 4, 5, 6, 7, 8, 9, 10] [true, true, true, true, true, true, true, true, true, true, true, false] (c_X6_init (XI X) (XB X) _ ) rfl rfl ⟨by decide, by decide, by decide⟩ gX7_init_X6_init_n64 rfl rfl (by decide +kernel) (by decide +kernel) (by decide +kernel) rfl hdi_X6 ⟨rfl, rfl⟩ ⟨Nat.le_of_ble_eq_true rfl, Nat.le_of_ble_eq_true rfl⟩ (Nat.le_of_ble_eq_true rfl) ⟨by show (((((((((((((((((((0 + 1) + 1) + 1) + 1) + 1) + 1) + 1) + 2) + 1) + 8) + 1) + 23) + 1) + 23) + 1) + 23) + 1) + 97) + 1) + (34) ≤ 300; omega, by show (((((((((((((((((((0 + 2) + (60)) + 2) + (400)) + 2) + (400)) + 7) + (27)) + 4) + (69)) + 6) + (108 + 7 * 30 + 14 * 20)) + 6) + (108 + 7 * 60 + 14 * 50)) + 6) + (108 + 7 * 30 + 14 * 20)) + 2) + (2500)) + 7) + (1250) ≤ 10000; omega⟩ rfl dX7_init_132 (fun Mc1 hpo => ?_)
  obtain ⟨A132, hA132, rfl⟩ := hpo
  try dsimp only [Nat.reduceAdd, pk_t, pk_f, pk_n, nf_rep1, nf_rep0, nf_d0, nf_t0, nf_s0, nf_ac, nf_an, nf_d1, nf_t1, nf_s1, nf_d2, nf_t2, nf_s2, nf_d3, nf_t3, nf_s3, nf_d4, nf_t4, nf_s4, nf_d5, nf_t5, nf_s5, nf_d6, nf_t6, nf_s6, nf_d7, nf_t7, nf_s7, nf_d8, nf_t8, nf_s8, nf_d9, nf_t9, nf_s9, nf_d10, nf_t10, nf_s10, nf_d11, nf_t11, nf_s11, nf_d12, nf_t12, nf_s12, nf_d13, nf_t13, nf_s13, nf_d14, nf_t14, nf_s14, nf_d15, nf_t15, nf_s15, nf_d16, nf_t16, nf_s16, nf_d17, nf_t17, nf_s17, nf_d18, nf_t18, nf_s18, nf_d19, nf_t19, nf_s19, nf_d20, nf_t20, nf_s20, List.set_cons_zero, List.set_cons_succ]
  subst hA132
  refine v_putF K I 0 rfl rfl iX7 tyX7 tyX7_ok nmX7 10 (by decide) rfl (by decide +kernel) rfl rfl (Nat.le_of_ble_eq_true rfl) dX7_init_135 ?_
  refine v_aload_n K dX7_init_138 rfl ?_
  refine v_new (ci := 6) (fs := [.null, .null, .null, .null, .null, .null, .null]) K rfl iX6 tyX6 tyX6_ok (by decide +kernel) (by decide +kernel) (by decide +kernel) (fun j hj => by rcases (show j = 0 ∨ j = 1 ∨ j = 2 ∨ j = 3 ∨ j = 4 ∨ j = 5 ∨ j = 6 by omega) with rfl | rfl | rfl | rfl | rfl | rfl | rfl <;> rfl) ⟨by show ((((((((((((((((((((0 + 1) + 1) + 1) + 1) + 1) + 1) + 1) + 2) + 1) + 8) + 1) + 23) + 1) + 23) + 1) + 23) + 1) + 97) + 1) + 34) + 1 ≤ 300; omega, by show ((((((((((((((((((((0 + 2) + (60)) + 2) + (400)) + 2) + (400)) + 7) + (27)) + 4) + (69)) + 6) + (108 + 7 * 30 + 14 * 20)) + 6) + (108 + 7 * 60 + 14 * 50)) + 6) + (108 + 7 * 30 + 14 * 20)) + 2) + (2500)) + 7) + (1250)) + 7 ≤ 10000; omega⟩ dX7_init_139 (fun q139 => ?_)
  try dsimp only [Nat.reduceAdd, pk_t, pk_f, pk_n, nf_rep1, nf_rep0, nf_d0, nf_t0, nf_s0, nf_ac, nf_an, nf_d1, nf_t1, nf_s1, nf_d2, nf_t2, nf_s2, nf_d3, nf_t3, nf_s3, nf_d4, nf_t4, nf_s4, nf_d5, nf_t5, nf_s5, nf_d6, nf_t6, nf_s6, nf_d7, nf_t7, nf_s7, nf_d8, nf_t8, nf_s8, nf_d9, nf_t9, nf_s9, nf_d10, nf_t10, nf_s10, nf_d11, nf_t11, nf_s11, nf_d12, nf_t12, nf_s12, nf_d13, nf_t13, nf_s13, nf_d14, nf_t14, nf_s14, nf_d15, nf_t15, nf_s15, nf_d16, nf_t16, nf_s16, nf_d17, nf_t17, nf_s17, nf_d18, nf_t18, nf_s18, nf_d19, nf_t19, nf_s19, nf_d20, nf_t20, nf_s20, List.set_cons_zero, List.set_cons_succ]
  refine v_dup K dX7_init_142 rfl ?_
  refine v_callIN (host := RX7) K O [12] [0, 1, 2, 3, 4, 5, 6, 7, 8, 9, 10, 11] [true, true, true, true, true, true, true, true, true, true, true, true, false] (c_X6_init (XI X) (XB X) _ ) rfl rfl ⟨by decide, by decide, by decide⟩ gX7_init_X6_init_n64 rfl rfl (by decide +kernel) (by decide +kernel) (by decide +kernel) rfl hdi_X6 ⟨rfl, rfl⟩ ⟨Nat.le_of_ble_eq_true rfl, Nat.le_of_ble_eq_true rfl⟩ (Nat.le_of_ble_eq_true rfl) ⟨by show (((((((((((((((((((((0 + 1) + 1) + 1) + 1) + 1) + 1) + 1) + 2) + 1) + 8) + 1) + 23) + 1) + 23) + 1) + 23) + 1) + 97) + 1) + 34) + 1) + (34) ≤ 300; omega, by show (((((((((((((((((((((0 + 2) + (60)) + 2) + (400)) + 2) + (400)) + 7) + (27)) + 4) + (69)) + 6) + (108 + 7 * 30 + 14 * 20)) + 6) + (108 + 7 * 60 + 14 * 50)) + 6) + (108 + 7 * 30 + 14 * 20)) + 2) + (2500)) + 7) + (1250)) + 7) + (1250) ≤ 10000; omega⟩ rfl dX7_init_143 (fun Mc1 hpo => ?_)
  obtain ⟨A143, hA143, rfl⟩ := hpo
  try dsimp only [Nat.reduceAdd, pk_t, pk_f, pk_n, nf_rep1, nf_rep0, nf_d0, nf_t0, nf_s0, nf_ac, nf_an, nf_d1, nf_t1, nf_s1, nf_d2, nf_t2, nf_s2, nf_d3, nf_t3, nf_s3, nf_d4, nf_t4, nf_s4, nf_d5, nf_t5, nf_s5, nf_d6, nf_t6, nf_s6, nf_d7, nf_t7, nf_s7, nf_d8, nf_t8, nf_s8, nf_d9, nf_t9, nf_s9, nf_d10, nf_t10, nf_s10, nf_d11, nf_t11, nf_s11, nf_d12, nf_t12, nf_s12, nf_d13, nf_t13, nf_s13, nf_d14, nf_t14, nf_s14, nf_d15, nf_t15, nf_s15, nf_d16, nf_t16, nf_s16, nf_d17, nf_t17, nf_s17, nf_d18, nf_t18, nf_s18, nf_d19, nf_t19, nf_s19, nf_d20, nf_t20, nf_s20, List.set_cons_zero, List.set_cons_succ]
  subst hA143
  refine v_putF K I 0 rfl rfl iX7 tyX7 tyX7_ok nmX7 11 (by decide) rfl (by decide +kernel) rfl rfl (Nat.le_of_ble_eq_true rfl) dX7_init_146 ?_
  refine v_wide (k1' := 300) (k2' := 10000) (by omega) (by omega) ?_
  refine v_retA K E dX7_init_149 ?_
  exact ⟨(fun n => ([x0, q5, a11, q18, a25, q32, a39, q46, lt54, la54, q117, ha121] : List Nat).getD n 0), (fun i => match i with | 0 => A65 | 1 => A80 | 2 => A95 | 3 => A110 | 4 => A132 | _ => A143), HB121, ([], [], (0, 0, 0, 0, 0), ([], [], [], []), bkI, ([], [], [], [], [])), rfl, rfl⟩

theorem hdi_X8 : yX8_init.cls ≠ "java/lang/invoke/MethodHandle" ∧ yX8_init.cls ≠ "java/lang/invoke/VarHandle" ∧ (parseMethodDescriptor yX8_init.desc).map (fun d => d.parameters.length) = some 0 := by decide +kernel
set_option maxHeartbeats 4000000 in
set_option maxRecDepth 100000 in
theorem c_X8_init (cI cB : ClassId) (y0 : Nat)  : CtA cI cB yX8_init wsX8_init { frames := 1, cells := 16, slots := 5800, locals := 24 } (16) (5800) [.ref y0] [cM y0 (.inr (8, [.null, .null, .null, .int 0, .null, .int 0, .null, .int 0, .null, .null, .int 0, .int 0, .null, .null, .int 0, .null, .null, .null, .int 0, .int 0, .int 0, .int 0, .null, .int 0, .null, .null, .null, .int 0]))] (fun M => ∃ m : Nat → Nat, m 0 = y0 ∧ ∃ (sz sl ut ol sp tw tm mm : Int32) (f kp h s q : Nat → Int32) (xs rf sd us os C N hd hn : List Int32), okM ([], [], bkI, bkI, false, []) f h s us C ∧ M = mwX cI m ([], [], bkI, bkI, false, []) sz sl ut ol sp tw tm mm f kp h s q xs rf sd us os C N hd hn) := by
  refine ct_ofA (cc := cX8_init) (maxL := 2) (by decide) rfl (Nat.le_of_ble_eq_true rfl) [(0, .ref y0)] rfl rfl ?_
  intro X hI hB K O I E
  subst hI
  subst hB
  have iX8 : ∀ w ∈ u_ws RX8 TX8 28, w ∈ wsX8_init := by decide +kernel
  refine v_aload_n K dX8_init_0 rfl ?_
  refine v_obj K (by decide +kernel) (by decide +kernel) (by decide +kernel) (Nat.le_of_ble_eq_true rfl) (Nat.le_of_ble_eq_true rfl) dX8_init_1 ?_
  refine v_aload_n K dX8_init_4 rfl ?_
  refine v_sipush K (570) dX8_init_5 (by decide) ?_
  refine v_newa K (by decide +kernel) (570) rfl (by omega) ⟨by show 0 + 1 ≤ 16; omega, by show 0 + (570) ≤ 5800; omega⟩ dX8_init_8 (fun q8 => ?_)
  try dsimp only [Nat.reduceAdd, pk_t, pk_f, pk_n, nf_rep1, nf_rep0, nf_d0, nf_t0, nf_s0, nf_ac, nf_an, nf_d1, nf_t1, nf_s1, nf_d2, nf_t2, nf_s2, nf_d3, nf_t3, nf_s3, nf_d4, nf_t4, nf_s4, nf_d5, nf_t5, nf_s5, nf_d6, nf_t6, nf_s6, nf_d7, nf_t7, nf_s7, nf_d8, nf_t8, nf_s8, nf_d9, nf_t9, nf_s9, nf_d10, nf_t10, nf_s10, nf_d11, nf_t11, nf_s11, nf_d12, nf_t12, nf_s12, nf_d13, nf_t13, nf_s13, nf_d14, nf_t14, nf_s14, nf_d15, nf_t15, nf_s15, nf_d16, nf_t16, nf_s16, nf_d17, nf_t17, nf_s17, nf_d18, nf_t18, nf_s18, nf_d19, nf_t19, nf_s19, nf_d20, nf_t20, nf_s20, List.set_cons_zero, List.set_cons_succ]
  refine v_putF K I 0 rfl rfl iX8 tyX8 tyX8_ok nmX8 0 (by decide) rfl (by decide +kernel) rfl rfl (Nat.le_of_ble_eq_true rfl) dX8_init_10 ?_
  refine v_aload_n K dX8_init_13 rfl ?_
  refine v_sipush K (570) dX8_init_14 (by decide) ?_
  refine v_newa K (by decide +kernel) (570) rfl (by omega) ⟨by show (0 + 1) + 1 ≤ 16; omega, by show (0 + (570)) + (570) ≤ 5800; omega⟩ dX8_init_17 (fun q17 => ?_)
  try dsimp only [Nat.reduceAdd, pk_t, pk_f, pk_n, nf_rep1, nf_rep0, nf_d0, nf_t0, nf_s0, nf_ac, nf_an, nf_d1, nf_t1, nf_s1, nf_d2, nf_t2, nf_s2, nf_d3, nf_t3, nf_s3, nf_d4, nf_t4, nf_s4, nf_d5, nf_t5, nf_s5, nf_d6, nf_t6, nf_s6, nf_d7, nf_t7, nf_s7, nf_d8, nf_t8, nf_s8, nf_d9, nf_t9, nf_s9, nf_d10, nf_t10, nf_s10, nf_d11, nf_t11, nf_s11, nf_d12, nf_t12, nf_s12, nf_d13, nf_t13, nf_s13, nf_d14, nf_t14, nf_s14, nf_d15, nf_t15, nf_s15, nf_d16, nf_t16, nf_s16, nf_d17, nf_t17, nf_s17, nf_d18, nf_t18, nf_s18, nf_d19, nf_t19, nf_s19, nf_d20, nf_t20, nf_s20, List.set_cons_zero, List.set_cons_succ]
  refine v_putF K I 0 rfl rfl iX8 tyX8 tyX8_ok nmX8 1 (by decide) rfl (by decide +kernel) rfl rfl (Nat.le_of_ble_eq_true rfl) dX8_init_19 ?_
  refine v_aload_n K dX8_init_22 rfl ?_
  refine v_sipush K (2280) dX8_init_23 (by decide) ?_
  refine v_newa K (by decide +kernel) (2280) rfl (by omega) ⟨by show ((0 + 1) + 1) + 1 ≤ 16; omega, by show ((0 + (570)) + (570)) + (2280) ≤ 5800; omega⟩ dX8_init_26 (fun q26 => ?_)
  try dsimp only [Nat.reduceAdd, pk_t, pk_f, pk_n, nf_rep1, nf_rep0, nf_d0, nf_t0, nf_s0, nf_ac, nf_an, nf_d1, nf_t1, nf_s1, nf_d2, nf_t2, nf_s2, nf_d3, nf_t3, nf_s3, nf_d4, nf_t4, nf_s4, nf_d5, nf_t5, nf_s5, nf_d6, nf_t6, nf_s6, nf_d7, nf_t7, nf_s7, nf_d8, nf_t8, nf_s8, nf_d9, nf_t9, nf_s9, nf_d10, nf_t10, nf_s10, nf_d11, nf_t11, nf_s11, nf_d12, nf_t12, nf_s12, nf_d13, nf_t13, nf_s13, nf_d14, nf_t14, nf_s14, nf_d15, nf_t15, nf_s15, nf_d16, nf_t16, nf_s16, nf_d17, nf_t17, nf_s17, nf_d18, nf_t18, nf_s18, nf_d19, nf_t19, nf_s19, nf_d20, nf_t20, nf_s20, List.set_cons_zero, List.set_cons_succ]
  refine v_putF K I 0 rfl rfl iX8 tyX8 tyX8_ok nmX8 2 (by decide) rfl (by decide +kernel) rfl rfl (Nat.le_of_ble_eq_true rfl) dX8_init_28 ?_
  refine v_aload_n K dX8_init_31 rfl ?_
  refine v_sipush K (570) dX8_init_32 (by decide) ?_
  refine v_newa K (by decide +kernel) (570) rfl (by omega) ⟨by show (((0 + 1) + 1) + 1) + 1 ≤ 16; omega, by show (((0 + (570)) + (570)) + (2280)) + (570) ≤ 5800; omega⟩ dX8_init_35 (fun q35 => ?_)
  try dsimp only [Nat.reduceAdd, pk_t, pk_f, pk_n, nf_rep1, nf_rep0, nf_d0, nf_t0, nf_s0, nf_ac, nf_an, nf_d1, nf_t1, nf_s1, nf_d2, nf_t2, nf_s2, nf_d3, nf_t3, nf_s3, nf_d4, nf_t4, nf_s4, nf_d5, nf_t5, nf_s5, nf_d6, nf_t6, nf_s6, nf_d7, nf_t7, nf_s7, nf_d8, nf_t8, nf_s8, nf_d9, nf_t9, nf_s9, nf_d10, nf_t10, nf_s10, nf_d11, nf_t11, nf_s11, nf_d12, nf_t12, nf_s12, nf_d13, nf_t13, nf_s13, nf_d14, nf_t14, nf_s14, nf_d15, nf_t15, nf_s15, nf_d16, nf_t16, nf_s16, nf_d17, nf_t17, nf_s17, nf_d18, nf_t18, nf_s18, nf_d19, nf_t19, nf_s19, nf_d20, nf_t20, nf_s20, List.set_cons_zero, List.set_cons_succ]
  refine v_putF K I 0 rfl rfl iX8 tyX8 tyX8_ok nmX8 4 (by decide) rfl (by decide +kernel) rfl rfl (Nat.le_of_ble_eq_true rfl) dX8_init_37 ?_
  refine v_aload_n K dX8_init_40 rfl ?_
  refine v_bipush K (12) dX8_init_41 (by decide) ?_
  refine v_newa K (by decide +kernel) (12) rfl (by omega) ⟨by show ((((0 + 1) + 1) + 1) + 1) + 1 ≤ 16; omega, by show ((((0 + (570)) + (570)) + (2280)) + (570)) + (12) ≤ 5800; omega⟩ dX8_init_43 (fun q43 => ?_)
  try dsimp only [Nat.reduceAdd, pk_t, pk_f, pk_n, nf_rep1, nf_rep0, nf_d0, nf_t0, nf_s0, nf_ac, nf_an, nf_d1, nf_t1, nf_s1, nf_d2, nf_t2, nf_s2, nf_d3, nf_t3, nf_s3, nf_d4, nf_t4, nf_s4, nf_d5, nf_t5, nf_s5, nf_d6, nf_t6, nf_s6, nf_d7, nf_t7, nf_s7, nf_d8, nf_t8, nf_s8, nf_d9, nf_t9, nf_s9, nf_d10, nf_t10, nf_s10, nf_d11, nf_t11, nf_s11, nf_d12, nf_t12, nf_s12, nf_d13, nf_t13, nf_s13, nf_d14, nf_t14, nf_s14, nf_d15, nf_t15, nf_s15, nf_d16, nf_t16, nf_s16, nf_d17, nf_t17, nf_s17, nf_d18, nf_t18, nf_s18, nf_d19, nf_t19, nf_s19, nf_d20, nf_t20, nf_s20, List.set_cons_zero, List.set_cons_succ]
  refine v_putF K I 0 rfl rfl iX8 tyX8 tyX8_ok nmX8 6 (by decide) rfl (by decide +kernel) rfl rfl (Nat.le_of_ble_eq_true rfl) dX8_init_45 ?_
  refine v_aload_n K dX8_init_48 rfl ?_
  refine v_bipush K (12) dX8_init_49 (by decide) ?_
  refine v_newa K (by decide +kernel) (12) rfl (by omega) ⟨by show (((((0 + 1) + 1) + 1) + 1) + 1) + 1 ≤ 16; omega, by show (((((0 + (570)) + (570)) + (2280)) + (570)) + (12)) + (12) ≤ 5800; omega⟩ dX8_init_51 (fun q51 => ?_)
  try dsimp only [Nat.reduceAdd, pk_t, pk_f, pk_n, nf_rep1, nf_rep0, nf_d0, nf_t0, nf_s0, nf_ac, nf_an, nf_d1, nf_t1, nf_s1, nf_d2, nf_t2, nf_s2, nf_d3, nf_t3, nf_s3, nf_d4, nf_t4, nf_s4, nf_d5, nf_t5, nf_s5, nf_d6, nf_t6, nf_s6, nf_d7, nf_t7, nf_s7, nf_d8, nf_t8, nf_s8, nf_d9, nf_t9, nf_s9, nf_d10, nf_t10, nf_s10, nf_d11, nf_t11, nf_s11, nf_d12, nf_t12, nf_s12, nf_d13, nf_t13, nf_s13, nf_d14, nf_t14, nf_s14, nf_d15, nf_t15, nf_s15, nf_d16, nf_t16, nf_s16, nf_d17, nf_t17, nf_s17, nf_d18, nf_t18, nf_s18, nf_d19, nf_t19, nf_s19, nf_d20, nf_t20, nf_s20, List.set_cons_zero, List.set_cons_succ]
  refine v_putF K I 0 rfl rfl iX8 tyX8 tyX8_ok nmX8 8 (by decide) rfl (by decide +kernel) rfl rfl (Nat.le_of_ble_eq_true rfl) dX8_init_53 ?_
  refine v_aload_n K dX8_init_56 rfl ?_
  refine v_bipush K (12) dX8_init_57 (by decide) ?_
  refine v_newa K (by decide +kernel) (12) rfl (by omega) ⟨by show ((((((0 + 1) + 1) + 1) + 1) + 1) + 1) + 1 ≤ 16; omega, by show ((((((0 + (570)) + (570)) + (2280)) + (570)) + (12)) + (12)) + (12) ≤ 5800; omega⟩ dX8_init_59 (fun q59 => ?_)
  try dsimp only [Nat.reduceAdd, pk_t, pk_f, pk_n, nf_rep1, nf_rep0, nf_d0, nf_t0, nf_s0, nf_ac, nf_an, nf_d1, nf_t1, nf_s1, nf_d2, nf_t2, nf_s2, nf_d3, nf_t3, nf_s3, nf_d4, nf_t4, nf_s4, nf_d5, nf_t5, nf_s5, nf_d6, nf_t6, nf_s6, nf_d7, nf_t7, nf_s7, nf_d8, nf_t8, nf_s8, nf_d9, nf_t9, nf_s9, nf_d10, nf_t10, nf_s10, nf_d11, nf_t11, nf_s11, nf_d12, nf_t12, nf_s12, nf_d13, nf_t13, nf_s13, nf_d14, nf_t14, nf_s14, nf_d15, nf_t15, nf_s15, nf_d16, nf_t16, nf_s16, nf_d17, nf_t17, nf_s17, nf_d18, nf_t18, nf_s18, nf_d19, nf_t19, nf_s19, nf_d20, nf_t20, nf_s20, List.set_cons_zero, List.set_cons_succ]
  refine v_putF K I 0 rfl rfl iX8 tyX8 tyX8_ok nmX8 9 (by decide) rfl (by decide +kernel) rfl rfl (Nat.le_of_ble_eq_true rfl) dX8_init_61 ?_
  refine v_aload_n K dX8_init_64 rfl ?_
  refine v_bipush K (30) dX8_init_65 (by decide) ?_
  refine v_newa K (by decide +kernel) (30) rfl (by omega) ⟨by show (((((((0 + 1) + 1) + 1) + 1) + 1) + 1) + 1) + 1 ≤ 16; omega, by show (((((((0 + (570)) + (570)) + (2280)) + (570)) + (12)) + (12)) + (12)) + (30) ≤ 5800; omega⟩ dX8_init_67 (fun q67 => ?_)
  try dsimp only [Nat.reduceAdd, pk_t, pk_f, pk_n, nf_rep1, nf_rep0, nf_d0, nf_t0, nf_s0, nf_ac, nf_an, nf_d1, nf_t1, nf_s1, nf_d2, nf_t2, nf_s2, nf_d3, nf_t3, nf_s3, nf_d4, nf_t4, nf_s4, nf_d5, nf_t5, nf_s5, nf_d6, nf_t6, nf_s6, nf_d7, nf_t7, nf_s7, nf_d8, nf_t8, nf_s8, nf_d9, nf_t9, nf_s9, nf_d10, nf_t10, nf_s10, nf_d11, nf_t11, nf_s11, nf_d12, nf_t12, nf_s12, nf_d13, nf_t13, nf_s13, nf_d14, nf_t14, nf_s14, nf_d15, nf_t15, nf_s15, nf_d16, nf_t16, nf_s16, nf_d17, nf_t17, nf_s17, nf_d18, nf_t18, nf_s18, nf_d19, nf_t19, nf_s19, nf_d20, nf_t20, nf_s20, List.set_cons_zero, List.set_cons_succ]
  refine v_putF K I 0 rfl rfl iX8 tyX8 tyX8_ok nmX8 12 (by decide) rfl (by decide +kernel) rfl rfl (Nat.le_of_ble_eq_true rfl) dX8_init_69 ?_
  refine v_aload_n K dX8_init_72 rfl ?_
  refine v_bipush K (26) dX8_init_73 (by decide) ?_
  refine v_newa K (by decide +kernel) (26) rfl (by omega) ⟨by show ((((((((0 + 1) + 1) + 1) + 1) + 1) + 1) + 1) + 1) + 1 ≤ 16; omega, by show ((((((((0 + (570)) + (570)) + (2280)) + (570)) + (12)) + (12)) + (12)) + (30)) + (26) ≤ 5800; omega⟩ dX8_init_75 (fun q75 => ?_)
  try dsimp only [Nat.reduceAdd, pk_t, pk_f, pk_n, nf_rep1, nf_rep0, nf_d0, nf_t0, nf_s0, nf_ac, nf_an, nf_d1, nf_t1, nf_s1, nf_d2, nf_t2, nf_s2, nf_d3, nf_t3, nf_s3, nf_d4, nf_t4, nf_s4, nf_d5, nf_t5, nf_s5, nf_d6, nf_t6, nf_s6, nf_d7, nf_t7, nf_s7, nf_d8, nf_t8, nf_s8, nf_d9, nf_t9, nf_s9, nf_d10, nf_t10, nf_s10, nf_d11, nf_t11, nf_s11, nf_d12, nf_t12, nf_s12, nf_d13, nf_t13, nf_s13, nf_d14, nf_t14, nf_s14, nf_d15, nf_t15, nf_s15, nf_d16, nf_t16, nf_s16, nf_d17, nf_t17, nf_s17, nf_d18, nf_t18, nf_s18, nf_d19, nf_t19, nf_s19, nf_d20, nf_t20, nf_s20, List.set_cons_zero, List.set_cons_succ]
  refine v_putF K I 0 rfl rfl iX8 tyX8 tyX8_ok nmX8 13 (by decide) rfl (by decide +kernel) rfl rfl (Nat.le_of_ble_eq_true rfl) dX8_init_77 ?_
  refine v_aload_n K dX8_init_80 rfl ?_
  refine v_sipush K (520) dX8_init_81 (by decide) ?_
  refine v_newa K (by decide +kernel) (520) rfl (by omega) ⟨by show (((((((((0 + 1) + 1) + 1) + 1) + 1) + 1) + 1) + 1) + 1) + 1 ≤ 16; omega, by show (((((((((0 + (570)) + (570)) + (2280)) + (570)) + (12)) + (12)) + (12)) + (30)) + (26)) + (520) ≤ 5800; omega⟩ dX8_init_84 (fun q84 => ?_)
  try dsimp only [Nat.reduceAdd, pk_t, pk_f, pk_n, nf_rep1, nf_rep0, nf_d0, nf_t0, nf_s0, nf_ac, nf_an, nf_d1, nf_t1, nf_s1, nf_d2, nf_t2, nf_s2, nf_d3, nf_t3, nf_s3, nf_d4, nf_t4, nf_s4, nf_d5, nf_t5, nf_s5, nf_d6, nf_t6, nf_s6, nf_d7, nf_t7, nf_s7, nf_d8, nf_t8, nf_s8, nf_d9, nf_t9, nf_s9, nf_d10, nf_t10, nf_s10, nf_d11, nf_t11, nf_s11, nf_d12, nf_t12, nf_s12, nf_d13, nf_t13, nf_s13, nf_d14, nf_t14, nf_s14, nf_d15, nf_t15, nf_s15, nf_d16, nf_t16, nf_s16, nf_d17, nf_t17, nf_s17, nf_d18, nf_t18, nf_s18, nf_d19, nf_t19, nf_s19, nf_d20, nf_t20, nf_s20, List.set_cons_zero, List.set_cons_succ]
  refine v_putF K I 0 rfl rfl iX8 tyX8 tyX8_ok nmX8 15 (by decide) rfl (by decide +kernel) rfl rfl (Nat.le_of_ble_eq_true rfl) dX8_init_86 ?_
  refine v_aload_n K dX8_init_89 rfl ?_
  refine v_bipush K (20) dX8_init_90 (by decide) ?_
  refine v_newa K (by decide +kernel) (20) rfl (by omega) ⟨by show ((((((((((0 + 1) + 1) + 1) + 1) + 1) + 1) + 1) + 1) + 1) + 1) + 1 ≤ 16; omega, by show ((((((((((0 + (570)) + (570)) + (2280)) + (570)) + (12)) + (12)) + (12)) + (30)) + (26)) + (520)) + (20) ≤ 5800; omega⟩ dX8_init_92 (fun q92 => ?_)
  try dsimp only [Nat.reduceAdd, pk_t, pk_f, pk_n, nf_rep1, nf_rep0, nf_d0, nf_t0, nf_s0, nf_ac, nf_an, nf_d1, nf_t1, nf_s1, nf_d2, nf_t2, nf_s2, nf_d3, nf_t3, nf_s3, nf_d4, nf_t4, nf_s4, nf_d5, nf_t5, nf_s5, nf_d6, nf_t6, nf_s6, nf_d7, nf_t7, nf_s7, nf_d8, nf_t8, nf_s8, nf_d9, nf_t9, nf_s9, nf_d10, nf_t10, nf_s10, nf_d11, nf_t11, nf_s11, nf_d12, nf_t12, nf_s12, nf_d13, nf_t13, nf_s13, nf_d14, nf_t14, nf_s14, nf_d15, nf_t15, nf_s15, nf_d16, nf_t16, nf_s16, nf_d17, nf_t17, nf_s17, nf_d18, nf_t18, nf_s18, nf_d19, nf_t19, nf_s19, nf_d20, nf_t20, nf_s20, List.set_cons_zero, List.set_cons_succ]
  refine v_putF K I 0 rfl rfl iX8 tyX8 tyX8_ok nmX8 16 (by decide) rfl (by decide +kernel) rfl rfl (Nat.le_of_ble_eq_true rfl) dX8_init_94 ?_
  refine v_aload_n K dX8_init_97 rfl ?_
  refine v_bipush K (60) dX8_init_98 (by decide) ?_
  refine v_newa K (by decide +kernel) (60) rfl (by omega) ⟨by show (((((((((((0 + 1) + 1) + 1) + 1) + 1) + 1) + 1) + 1) + 1) + 1) + 1) + 1 ≤ 16; omega, by show (((((((((((0 + (570)) + (570)) + (2280)) + (570)) + (12)) + (12)) + (12)) + (30)) + (26)) + (520)) + (20)) + (60) ≤ 5800; omega⟩ dX8_init_100 (fun q100 => ?_)
  try dsimp only [Nat.reduceAdd, pk_t, pk_f, pk_n, nf_rep1, nf_rep0, nf_d0, nf_t0, nf_s0, nf_ac, nf_an, nf_d1, nf_t1, nf_s1, nf_d2, nf_t2, nf_s2, nf_d3, nf_t3, nf_s3, nf_d4, nf_t4, nf_s4, nf_d5, nf_t5, nf_s5, nf_d6, nf_t6, nf_s6, nf_d7, nf_t7, nf_s7, nf_d8, nf_t8, nf_s8, nf_d9, nf_t9, nf_s9, nf_d10, nf_t10, nf_s10, nf_d11, nf_t11, nf_s11, nf_d12, nf_t12, nf_s12, nf_d13, nf_t13, nf_s13, nf_d14, nf_t14, nf_s14, nf_d15, nf_t15, nf_s15, nf_d16, nf_t16, nf_s16, nf_d17, nf_t17, nf_s17, nf_d18, nf_t18, nf_s18, nf_d19, nf_t19, nf_s19, nf_d20, nf_t20, nf_s20, List.set_cons_zero, List.set_cons_succ]
  refine v_putF K I 0 rfl rfl iX8 tyX8 tyX8_ok nmX8 17 (by decide) rfl (by decide +kernel) rfl rfl (Nat.le_of_ble_eq_true rfl) dX8_init_102 ?_
  refine v_aload_n K dX8_init_105 rfl ?_
  refine v_bipush K (60) dX8_init_106 (by decide) ?_
  refine v_newa K (by decide +kernel) (60) rfl (by omega) ⟨by show ((((((((((((0 + 1) + 1) + 1) + 1) + 1) + 1) + 1) + 1) + 1) + 1) + 1) + 1) + 1 ≤ 16; omega, by show ((((((((((((0 + (570)) + (570)) + (2280)) + (570)) + (12)) + (12)) + (12)) + (30)) + (26)) + (520)) + (20)) + (60)) + (60) ≤ 5800; omega⟩ dX8_init_108 (fun q108 => ?_)
  try dsimp only [Nat.reduceAdd, pk_t, pk_f, pk_n, nf_rep1, nf_rep0, nf_d0, nf_t0, nf_s0, nf_ac, nf_an, nf_d1, nf_t1, nf_s1, nf_d2, nf_t2, nf_s2, nf_d3, nf_t3, nf_s3, nf_d4, nf_t4, nf_s4, nf_d5, nf_t5, nf_s5, nf_d6, nf_t6, nf_s6, nf_d7, nf_t7, nf_s7, nf_d8, nf_t8, nf_s8, nf_d9, nf_t9, nf_s9, nf_d10, nf_t10, nf_s10, nf_d11, nf_t11, nf_s11, nf_d12, nf_t12, nf_s12, nf_d13, nf_t13, nf_s13, nf_d14, nf_t14, nf_s14, nf_d15, nf_t15, nf_s15, nf_d16, nf_t16, nf_s16, nf_d17, nf_t17, nf_s17, nf_d18, nf_t18, nf_s18, nf_d19, nf_t19, nf_s19, nf_d20, nf_t20, nf_s20, List.set_cons_zero, List.set_cons_succ]
  refine v_putF K I 0 rfl rfl iX8 tyX8 tyX8_ok nmX8 22 (by decide) rfl (by decide +kernel) rfl rfl (Nat.le_of_ble_eq_true rfl) dX8_init_110 ?_
  refine v_aload_n K dX8_init_113 rfl ?_
  refine v_sipush K (520) dX8_init_114 (by decide) ?_
  refine v_newa K (by decide +kernel) (520) rfl (by omega) ⟨by show (((((((((((((0 + 1) + 1) + 1) + 1) + 1) + 1) + 1) + 1) + 1) + 1) + 1) + 1) + 1) + 1 ≤ 16; omega, by show (((((((((((((0 + (570)) + (570)) + (2280)) + (570)) + (12)) + (12)) + (12)) + (30)) + (26)) + (520)) + (20)) + (60)) + (60)) + (520) ≤ 5800; omega⟩ dX8_init_117 (fun q117 => ?_)
  try dsimp only [Nat.reduceAdd, pk_t, pk_f, pk_n, nf_rep1, nf_rep0, nf_d0, nf_t0, nf_s0, nf_ac, nf_an, nf_d1, nf_t1, nf_s1, nf_d2, nf_t2, nf_s2, nf_d3, nf_t3, nf_s3, nf_d4, nf_t4, nf_s4, nf_d5, nf_t5, nf_s5, nf_d6, nf_t6, nf_s6, nf_d7, nf_t7, nf_s7, nf_d8, nf_t8, nf_s8, nf_d9, nf_t9, nf_s9, nf_d10, nf_t10, nf_s10, nf_d11, nf_t11, nf_s11, nf_d12, nf_t12, nf_s12, nf_d13, nf_t13, nf_s13, nf_d14, nf_t14, nf_s14, nf_d15, nf_t15, nf_s15, nf_d16, nf_t16, nf_s16, nf_d17, nf_t17, nf_s17, nf_d18, nf_t18, nf_s18, nf_d19, nf_t19, nf_s19, nf_d20, nf_t20, nf_s20, List.set_cons_zero, List.set_cons_succ]
  refine v_putF K I 0 rfl rfl iX8 tyX8 tyX8_ok nmX8 24 (by decide) rfl (by decide +kernel) rfl rfl (Nat.le_of_ble_eq_true rfl) dX8_init_119 ?_
  refine v_aload_n K dX8_init_122 rfl ?_
  refine v_bipush K (20) dX8_init_123 (by decide) ?_
  refine v_newa K (by decide +kernel) (20) rfl (by omega) ⟨by show ((((((((((((((0 + 1) + 1) + 1) + 1) + 1) + 1) + 1) + 1) + 1) + 1) + 1) + 1) + 1) + 1) + 1 ≤ 16; omega, by show ((((((((((((((0 + (570)) + (570)) + (2280)) + (570)) + (12)) + (12)) + (12)) + (30)) + (26)) + (520)) + (20)) + (60)) + (60)) + (520)) + (20) ≤ 5800; omega⟩ dX8_init_125 (fun q125 => ?_)
  try dsimp only [Nat.reduceAdd, pk_t, pk_f, pk_n, nf_rep1, nf_rep0, nf_d0, nf_t0, nf_s0, nf_ac, nf_an, nf_d1, nf_t1, nf_s1, nf_d2, nf_t2, nf_s2, nf_d3, nf_t3, nf_s3, nf_d4, nf_t4, nf_s4, nf_d5, nf_t5, nf_s5, nf_d6, nf_t6, nf_s6, nf_d7, nf_t7, nf_s7, nf_d8, nf_t8, nf_s8, nf_d9, nf_t9, nf_s9, nf_d10, nf_t10, nf_s10, nf_d11, nf_t11, nf_s11, nf_d12, nf_t12, nf_s12, nf_d13, nf_t13, nf_s13, nf_d14, nf_t14, nf_s14, nf_d15, nf_t15, nf_s15, nf_d16, nf_t16, nf_s16, nf_d17, nf_t17, nf_s17, nf_d18, nf_t18, nf_s18, nf_d19, nf_t19, nf_s19, nf_d20, nf_t20, nf_s20, List.set_cons_zero, List.set_cons_succ]
  refine v_putF K I 0 rfl rfl iX8 tyX8 tyX8_ok nmX8 25 (by decide) rfl (by decide +kernel) rfl rfl (Nat.le_of_ble_eq_true rfl) dX8_init_127 ?_
  refine v_aload_n K dX8_init_130 rfl ?_
  refine v_sipush K (420) dX8_init_131 (by decide) ?_
  refine v_newa K (by decide +kernel) (420) rfl (by omega) ⟨by show (((((((((((((((0 + 1) + 1) + 1) + 1) + 1) + 1) + 1) + 1) + 1) + 1) + 1) + 1) + 1) + 1) + 1) + 1 ≤ 16; omega, by show (((((((((((((((0 + (570)) + (570)) + (2280)) + (570)) + (12)) + (12)) + (12)) + (30)) + (26)) + (520)) + (20)) + (60)) + (60)) + (520)) + (20)) + (420) ≤ 5800; omega⟩ dX8_init_134 (fun q134 => ?_)
  try dsimp only [Nat.reduceAdd, pk_t, pk_f, pk_n, nf_rep1, nf_rep0, nf_d0, nf_t0, nf_s0, nf_ac, nf_an, nf_d1, nf_t1, nf_s1, nf_d2, nf_t2, nf_s2, nf_d3, nf_t3, nf_s3, nf_d4, nf_t4, nf_s4, nf_d5, nf_t5, nf_s5, nf_d6, nf_t6, nf_s6, nf_d7, nf_t7, nf_s7, nf_d8, nf_t8, nf_s8, nf_d9, nf_t9, nf_s9, nf_d10, nf_t10, nf_s10, nf_d11, nf_t11, nf_s11, nf_d12, nf_t12, nf_s12, nf_d13, nf_t13, nf_s13, nf_d14, nf_t14, nf_s14, nf_d15, nf_t15, nf_s15, nf_d16, nf_t16, nf_s16, nf_d17, nf_t17, nf_s17, nf_d18, nf_t18, nf_s18, nf_d19, nf_t19, nf_s19, nf_d20, nf_t20, nf_s20, List.set_cons_zero, List.set_cons_succ]
  refine v_putF K I 0 rfl rfl iX8 tyX8 tyX8_ok nmX8 26 (by decide) rfl (by decide +kernel) rfl rfl (Nat.le_of_ble_eq_true rfl) dX8_init_136 ?_
  refine v_iconst K (0) dX8_init_139 (by decide) ?_
  refine v_istore_n K dX8_init_140 (by decide) ?_
  have lp : ∀ s, s ≤ 26 → ∀ (x : Int32), x = nI s → V X ((((((((((((((((0 + 1) + 1) + 1) + 1) + 1) + 1) + 1) + 1) + 1) + 1) + 1) + 1) + 1) + 1) + 1) + 1) ((((((((((((((((0 + (570)) + (570)) + (2280)) + (570)) + (12)) + (12)) + (12)) + (30)) + (26)) + (520)) + (20)) + (60)) + (60)) + (520)) + (20)) + (420)) 141 [(0, .ref y0), (1, .int x)] [] [cM y0 (.inr (8, [.ref q8, .ref q17, .ref q26, .int 0, .ref q35, .int 0, .ref q43, .int 0, .ref q51, .ref q59, .int 0, .int 0, .ref q67, .ref q75, .int 0, .ref q84, .ref q92, .ref q100, .int 0, .int 0, .int 0, .int 0, .ref q108, .int 0, .ref q117, .ref q125, .ref q134, .int 0])), arF (XI X) q8 570 (fI s), arF (XI X) q17 570 (fun _ => 0), arF (XI X) q26 2280 (fun _ => 0), arF (XI X) q35 570 (fun _ => 0), arF (XI X) q43 12 (fun _ => 0), arF (XI X) q51 12 (fun _ => 0), arF (XI X) q59 12 (fun _ => 0), arF (XI X) q67 30 (fun _ => 0), arF (XI X) q75 26 (fun _ => 0), arF (XI X) q84 520 (fun _ => 0), arF (XI X) q92 20 (fun _ => 0), arF (XI X) q100 60 (fun _ => 0), arF (XI X) q108 60 (fun _ => 0), arF (XI X) q117 520 (fun _ => 0), arF (XI X) q125 20 (fun _ => 0), arF (XI X) q134 420 (fun _ => 0)] := by
    refine loop_up 26 ?_
    intro s hs ih x hx
    subst hx
    refine v_iload_n K dX8_init_141 rfl ?_
    refine v_bipush K (26) dX8_init_142 (by decide) ?_
    refine v_ic_ge K 184 dX8_init_144 (by decide) (fun c144 => ?_) (fun c144 => ?_)
    · have he := up_end (N := 26) rfl (by omega) hs c144
      subst he
      refine v_car 5 [] rfl (lay_nil (xs := []) ⟨Nat.zero_le _, by decide, fun k h => absurd h (Nat.not_lt_zero k)⟩) ?_
      try dsimp only [Nat.reduceAdd, pk_t, pk_f, pk_n, nf_rep1, nf_rep0, nf_d0, nf_t0, nf_s0, nf_ac, nf_an, nf_d1, nf_t1, nf_s1, nf_d2, nf_t2, nf_s2, nf_d3, nf_t3, nf_s3, nf_d4, nf_t4, nf_s4, nf_d5, nf_t5, nf_s5, nf_d6, nf_t6, nf_s6, nf_d7, nf_t7, nf_s7, nf_d8, nf_t8, nf_s8, nf_d9, nf_t9, nf_s9, nf_d10, nf_t10, nf_s10, nf_d11, nf_t11, nf_s11, nf_d12, nf_t12, nf_s12, nf_d13, nf_t13, nf_s13, nf_d14, nf_t14, nf_s14, nf_d15, nf_t15, nf_s15, nf_d16, nf_t16, nf_s16, nf_d17, nf_t17, nf_s17, nf_d18, nf_t18, nf_s18, nf_d19, nf_t19, nf_s19, nf_d20, nf_t20, nf_s20, List.set_cons_zero, List.set_cons_succ]
      refine v_car 6 [] rfl (lay_nil (xs := []) ⟨Nat.zero_le _, by decide, fun k h => absurd h (Nat.not_lt_zero k)⟩) ?_
      try dsimp only [Nat.reduceAdd, pk_t, pk_f, pk_n, nf_rep1, nf_rep0, nf_d0, nf_t0, nf_s0, nf_ac, nf_an, nf_d1, nf_t1, nf_s1, nf_d2, nf_t2, nf_s2, nf_d3, nf_t3, nf_s3, nf_d4, nf_t4, nf_s4, nf_d5, nf_t5, nf_s5, nf_d6, nf_t6, nf_s6, nf_d7, nf_t7, nf_s7, nf_d8, nf_t8, nf_s8, nf_d9, nf_t9, nf_s9, nf_d10, nf_t10, nf_s10, nf_d11, nf_t11, nf_s11, nf_d12, nf_t12, nf_s12, nf_d13, nf_t13, nf_s13, nf_d14, nf_t14, nf_s14, nf_d15, nf_t15, nf_s15, nf_d16, nf_t16, nf_s16, nf_d17, nf_t17, nf_s17, nf_d18, nf_t18, nf_s18, nf_d19, nf_t19, nf_s19, nf_d20, nf_t20, nf_s20, List.set_cons_zero, List.set_cons_succ]
      refine v_car 7 [] rfl (lay_nil (xs := []) ⟨Nat.zero_le _, by decide, fun k h => absurd h (Nat.not_lt_zero k)⟩) ?_
      try dsimp only [Nat.reduceAdd, pk_t, pk_f, pk_n, nf_rep1, nf_rep0, nf_d0, nf_t0, nf_s0, nf_ac, nf_an, nf_d1, nf_t1, nf_s1, nf_d2, nf_t2, nf_s2, nf_d3, nf_t3, nf_s3, nf_d4, nf_t4, nf_s4, nf_d5, nf_t5, nf_s5, nf_d6, nf_t6, nf_s6, nf_d7, nf_t7, nf_s7, nf_d8, nf_t8, nf_s8, nf_d9, nf_t9, nf_s9, nf_d10, nf_t10, nf_s10, nf_d11, nf_t11, nf_s11, nf_d12, nf_t12, nf_s12, nf_d13, nf_t13, nf_s13, nf_d14, nf_t14, nf_s14, nf_d15, nf_t15, nf_s15, nf_d16, nf_t16, nf_s16, nf_d17, nf_t17, nf_s17, nf_d18, nf_t18, nf_s18, nf_d19, nf_t19, nf_s19, nf_d20, nf_t20, nf_s20, List.set_cons_zero, List.set_cons_succ]
      refine v_car 8 (List.replicate 30 0) rfl (lay_rep (by decide)) ?_
      try dsimp only [Nat.reduceAdd, pk_t, pk_f, pk_n, nf_rep1, nf_rep0, nf_d0, nf_t0, nf_s0, nf_ac, nf_an, nf_d1, nf_t1, nf_s1, nf_d2, nf_t2, nf_s2, nf_d3, nf_t3, nf_s3, nf_d4, nf_t4, nf_s4, nf_d5, nf_t5, nf_s5, nf_d6, nf_t6, nf_s6, nf_d7, nf_t7, nf_s7, nf_d8, nf_t8, nf_s8, nf_d9, nf_t9, nf_s9, nf_d10, nf_t10, nf_s10, nf_d11, nf_t11, nf_s11, nf_d12, nf_t12, nf_s12, nf_d13, nf_t13, nf_s13, nf_d14, nf_t14, nf_s14, nf_d15, nf_t15, nf_s15, nf_d16, nf_t16, nf_s16, nf_d17, nf_t17, nf_s17, nf_d18, nf_t18, nf_s18, nf_d19, nf_t19, nf_s19, nf_d20, nf_t20, nf_s20, List.set_cons_zero, List.set_cons_succ]
      refine v_car 9 [] rfl (lay_nil (xs := []) ⟨Nat.zero_le _, by decide, fun k h => absurd h (Nat.not_lt_zero k)⟩) ?_
      try dsimp only [Nat.reduceAdd, pk_t, pk_f, pk_n, nf_rep1, nf_rep0, nf_d0, nf_t0, nf_s0, nf_ac, nf_an, nf_d1, nf_t1, nf_s1, nf_d2, nf_t2, nf_s2, nf_d3, nf_t3, nf_s3, nf_d4, nf_t4, nf_s4, nf_d5, nf_t5, nf_s5, nf_d6, nf_t6, nf_s6, nf_d7, nf_t7, nf_s7, nf_d8, nf_t8, nf_s8, nf_d9, nf_t9, nf_s9, nf_d10, nf_t10, nf_s10, nf_d11, nf_t11, nf_s11, nf_d12, nf_t12, nf_s12, nf_d13, nf_t13, nf_s13, nf_d14, nf_t14, nf_s14, nf_d15, nf_t15, nf_s15, nf_d16, nf_t16, nf_s16, nf_d17, nf_t17, nf_s17, nf_d18, nf_t18, nf_s18, nf_d19, nf_t19, nf_s19, nf_d20, nf_t20, nf_s20, List.set_cons_zero, List.set_cons_succ]
      refine v_car 10 (List.replicate 520 0) rfl (lay_rep (by decide)) ?_
      try dsimp only [Nat.reduceAdd, pk_t, pk_f, pk_n, nf_rep1, nf_rep0, nf_d0, nf_t0, nf_s0, nf_ac, nf_an, nf_d1, nf_t1, nf_s1, nf_d2, nf_t2, nf_s2, nf_d3, nf_t3, nf_s3, nf_d4, nf_t4, nf_s4, nf_d5, nf_t5, nf_s5, nf_d6, nf_t6, nf_s6, nf_d7, nf_t7, nf_s7, nf_d8, nf_t8, nf_s8, nf_d9, nf_t9, nf_s9, nf_d10, nf_t10, nf_s10, nf_d11, nf_t11, nf_s11, nf_d12, nf_t12, nf_s12, nf_d13, nf_t13, nf_s13, nf_d14, nf_t14, nf_s14, nf_d15, nf_t15, nf_s15, nf_d16, nf_t16, nf_s16, nf_d17, nf_t17, nf_s17, nf_d18, nf_t18, nf_s18, nf_d19, nf_t19, nf_s19, nf_d20, nf_t20, nf_s20, List.set_cons_zero, List.set_cons_succ]
      refine v_car 11 [] rfl (lay_nil (xs := []) ⟨Nat.zero_le _, by decide, fun k h => absurd h (Nat.not_lt_zero k)⟩) ?_
      try dsimp only [Nat.reduceAdd, pk_t, pk_f, pk_n, nf_rep1, nf_rep0, nf_d0, nf_t0, nf_s0, nf_ac, nf_an, nf_d1, nf_t1, nf_s1, nf_d2, nf_t2, nf_s2, nf_d3, nf_t3, nf_s3, nf_d4, nf_t4, nf_s4, nf_d5, nf_t5, nf_s5, nf_d6, nf_t6, nf_s6, nf_d7, nf_t7, nf_s7, nf_d8, nf_t8, nf_s8, nf_d9, nf_t9, nf_s9, nf_d10, nf_t10, nf_s10, nf_d11, nf_t11, nf_s11, nf_d12, nf_t12, nf_s12, nf_d13, nf_t13, nf_s13, nf_d14, nf_t14, nf_s14, nf_d15, nf_t15, nf_s15, nf_d16, nf_t16, nf_s16, nf_d17, nf_t17, nf_s17, nf_d18, nf_t18, nf_s18, nf_d19, nf_t19, nf_s19, nf_d20, nf_t20, nf_s20, List.set_cons_zero, List.set_cons_succ]
      refine v_car 12 [] rfl (lay_nil (xs := []) ⟨Nat.zero_le _, by decide, fun k h => absurd h (Nat.not_lt_zero k)⟩) ?_
      try dsimp only [Nat.reduceAdd, pk_t, pk_f, pk_n, nf_rep1, nf_rep0, nf_d0, nf_t0, nf_s0, nf_ac, nf_an, nf_d1, nf_t1, nf_s1, nf_d2, nf_t2, nf_s2, nf_d3, nf_t3, nf_s3, nf_d4, nf_t4, nf_s4, nf_d5, nf_t5, nf_s5, nf_d6, nf_t6, nf_s6, nf_d7, nf_t7, nf_s7, nf_d8, nf_t8, nf_s8, nf_d9, nf_t9, nf_s9, nf_d10, nf_t10, nf_s10, nf_d11, nf_t11, nf_s11, nf_d12, nf_t12, nf_s12, nf_d13, nf_t13, nf_s13, nf_d14, nf_t14, nf_s14, nf_d15, nf_t15, nf_s15, nf_d16, nf_t16, nf_s16, nf_d17, nf_t17, nf_s17, nf_d18, nf_t18, nf_s18, nf_d19, nf_t19, nf_s19, nf_d20, nf_t20, nf_s20, List.set_cons_zero, List.set_cons_succ]
      refine v_car 14 [] rfl (lay_nil (xs := []) ⟨Nat.zero_le _, by decide, fun k h => absurd h (Nat.not_lt_zero k)⟩) ?_
      try dsimp only [Nat.reduceAdd, pk_t, pk_f, pk_n, nf_rep1, nf_rep0, nf_d0, nf_t0, nf_s0, nf_ac, nf_an, nf_d1, nf_t1, nf_s1, nf_d2, nf_t2, nf_s2, nf_d3, nf_t3, nf_s3, nf_d4, nf_t4, nf_s4, nf_d5, nf_t5, nf_s5, nf_d6, nf_t6, nf_s6, nf_d7, nf_t7, nf_s7, nf_d8, nf_t8, nf_s8, nf_d9, nf_t9, nf_s9, nf_d10, nf_t10, nf_s10, nf_d11, nf_t11, nf_s11, nf_d12, nf_t12, nf_s12, nf_d13, nf_t13, nf_s13, nf_d14, nf_t14, nf_s14, nf_d15, nf_t15, nf_s15, nf_d16, nf_t16, nf_s16, nf_d17, nf_t17, nf_s17, nf_d18, nf_t18, nf_s18, nf_d19, nf_t19, nf_s19, nf_d20, nf_t20, nf_s20, List.set_cons_zero, List.set_cons_succ]
      refine v_car 15 [] rfl (lay_nil (xs := []) ⟨Nat.zero_le _, by decide, fun k h => absurd h (Nat.not_lt_zero k)⟩) ?_
      try dsimp only [Nat.reduceAdd, pk_t, pk_f, pk_n, nf_rep1, nf_rep0, nf_d0, nf_t0, nf_s0, nf_ac, nf_an, nf_d1, nf_t1, nf_s1, nf_d2, nf_t2, nf_s2, nf_d3, nf_t3, nf_s3, nf_d4, nf_t4, nf_s4, nf_d5, nf_t5, nf_s5, nf_d6, nf_t6, nf_s6, nf_d7, nf_t7, nf_s7, nf_d8, nf_t8, nf_s8, nf_d9, nf_t9, nf_s9, nf_d10, nf_t10, nf_s10, nf_d11, nf_t11, nf_s11, nf_d12, nf_t12, nf_s12, nf_d13, nf_t13, nf_s13, nf_d14, nf_t14, nf_s14, nf_d15, nf_t15, nf_s15, nf_d16, nf_t16, nf_s16, nf_d17, nf_t17, nf_s17, nf_d18, nf_t18, nf_s18, nf_d19, nf_t19, nf_s19, nf_d20, nf_t20, nf_s20, List.set_cons_zero, List.set_cons_succ]
      refine v_car 16 [] rfl (lay_nil (xs := []) ⟨Nat.zero_le _, by decide, fun k h => absurd h (Nat.not_lt_zero k)⟩) ?_
      try dsimp only [Nat.reduceAdd, pk_t, pk_f, pk_n, nf_rep1, nf_rep0, nf_d0, nf_t0, nf_s0, nf_ac, nf_an, nf_d1, nf_t1, nf_s1, nf_d2, nf_t2, nf_s2, nf_d3, nf_t3, nf_s3, nf_d4, nf_t4, nf_s4, nf_d5, nf_t5, nf_s5, nf_d6, nf_t6, nf_s6, nf_d7, nf_t7, nf_s7, nf_d8, nf_t8, nf_s8, nf_d9, nf_t9, nf_s9, nf_d10, nf_t10, nf_s10, nf_d11, nf_t11, nf_s11, nf_d12, nf_t12, nf_s12, nf_d13, nf_t13, nf_s13, nf_d14, nf_t14, nf_s14, nf_d15, nf_t15, nf_s15, nf_d16, nf_t16, nf_s16, nf_d17, nf_t17, nf_s17, nf_d18, nf_t18, nf_s18, nf_d19, nf_t19, nf_s19, nf_d20, nf_t20, nf_s20, List.set_cons_zero, List.set_cons_succ]
      refine v_wide (k1' := 16) (k2' := 5800) (by omega) (by omega) ?_
      refine v_retA K E dX8_init_184 ?_
      exact ⟨(fun n => ([y0, q8, q17, q26, q35, q43, q51, q59, q67, q75, q84, q92, q100, q108, q117, q125, q134] : List Nat).getD n 0), rfl, _, _, _, _, _, _, _, _, _, _, _, _, _, _, _, _, _, _, _, _, _, _, ⟨allR_I, histR_0, fun z => absurd z Bool.false_ne_true, List.length_replicate, List.length_replicate⟩, rfl⟩
    · have hlt := up_lt (N := 26) rfl (by omega) hs c144
      refine v_aload_n K dX8_init_147 rfl ?_
      refine v_get K 0 rfl hasF_c rfl iX8 0 (by decide) rfl (by decide +kernel) rfl dX8_init_148 ?_
      refine v_sipush K (212) dX8_init_151 (by decide) ?_
      refine v_iconst K (3) dX8_init_154 (by decide) ?_
      refine v_iload_n K dX8_init_155 rfl ?_
      refine v_imul K dX8_init_156 ?_
      rw [show (3 : Int32) * nI s = nI (3 * s) from pk_mul 3 s]
      refine v_iadd K dX8_init_157 ?_
      rw [show (212 : Int32) + nI (3 * s) = nI (212 + 3 * s) from nI_add 212 _]
      refine v_iconst K (1) dX8_init_158 (by decide) ?_
      refine v_fast K 1 rfl (212 + 3 * s) ?hx159_1 ?ix159_1 dX8_init_159 ?_
      case hx159_1 => exact rfl
      case ix159_1 => exact ⟨by omega, by decide⟩
      try dsimp only [Nat.reduceAdd, pk_t, pk_f, pk_n, nf_rep1, nf_rep0, nf_d0, nf_t0, nf_s0, nf_ac, nf_an, nf_d1, nf_t1, nf_s1, nf_d2, nf_t2, nf_s2, nf_d3, nf_t3, nf_s3, nf_d4, nf_t4, nf_s4, nf_d5, nf_t5, nf_s5, nf_d6, nf_t6, nf_s6, nf_d7, nf_t7, nf_s7, nf_d8, nf_t8, nf_s8, nf_d9, nf_t9, nf_s9, nf_d10, nf_t10, nf_s10, nf_d11, nf_t11, nf_s11, nf_d12, nf_t12, nf_s12, nf_d13, nf_t13, nf_s13, nf_d14, nf_t14, nf_s14, nf_d15, nf_t15, nf_s15, nf_d16, nf_t16, nf_s16, nf_d17, nf_t17, nf_s17, nf_d18, nf_t18, nf_s18, nf_d19, nf_t19, nf_s19, nf_d20, nf_t20, nf_s20, List.set_cons_zero, List.set_cons_succ]
      refine v_aload_n K dX8_init_160 rfl ?_
      refine v_get K 0 rfl hasF_c rfl iX8 0 (by decide) rfl (by decide +kernel) rfl dX8_init_161 ?_
      refine v_sipush K (212) dX8_init_164 (by decide) ?_
      refine v_iconst K (3) dX8_init_167 (by decide) ?_
      refine v_iload_n K dX8_init_168 rfl ?_
      refine v_imul K dX8_init_169 ?_
      rw [show (3 : Int32) * nI s = nI (3 * s) from pk_mul 3 s]
      refine v_iadd K dX8_init_170 ?_
      rw [show (212 : Int32) + nI (3 * s) = nI (212 + 3 * s) from nI_add 212 _]
      refine v_iconst K (1) dX8_init_171 (by decide) ?_
      refine v_iadd K dX8_init_172 ?_
      refine v_bipush K (97) dX8_init_173 (by decide) ?_
      refine v_iload_n K dX8_init_175 rfl ?_
      refine v_iadd K dX8_init_176 ?_
      rw [show (97 : Int32) + nI s = nI (97 + s) from nI_add 97 s]
      refine v_fast K 1 rfl (212 + 3 * s + 1) ?hx177_2 ?ix177_2 dX8_init_177 ?_
      case hx177_2 => exact nI_1 _
      case ix177_2 => exact ⟨by omega, by decide⟩
      try dsimp only [Nat.reduceAdd, pk_t, pk_f, pk_n, nf_rep1, nf_rep0, nf_d0, nf_t0, nf_s0, nf_ac, nf_an, nf_d1, nf_t1, nf_s1, nf_d2, nf_t2, nf_s2, nf_d3, nf_t3, nf_s3, nf_d4, nf_t4, nf_s4, nf_d5, nf_t5, nf_s5, nf_d6, nf_t6, nf_s6, nf_d7, nf_t7, nf_s7, nf_d8, nf_t8, nf_s8, nf_d9, nf_t9, nf_s9, nf_d10, nf_t10, nf_s10, nf_d11, nf_t11, nf_s11, nf_d12, nf_t12, nf_s12, nf_d13, nf_t13, nf_s13, nf_d14, nf_t14, nf_s14, nf_d15, nf_t15, nf_s15, nf_d16, nf_t16, nf_s16, nf_d17, nf_t17, nf_s17, nf_d18, nf_t18, nf_s18, nf_d19, nf_t19, nf_s19, nf_d20, nf_t20, nf_s20, List.set_cons_zero, List.set_cons_succ]
      refine v_iinc K dX8_init_178 rfl (by decide) iinc_1 ?_
      refine v_goto K 141 dX8_init_181 (by decide) ?_
      exact v_j (ih hlt _ (nI_1 s)) rfl rfl (by rw [fI_s] <;> rfl)
  exact v_j (lp 0 (Nat.zero_le _) 0 rfl) rfl rfl (by rw [fI_0] <;> rfl)
