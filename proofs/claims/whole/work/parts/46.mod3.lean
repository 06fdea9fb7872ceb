theorem hd_X8_writes : yX8_writes.cls = RX8 ∧ yX8_writes.cls ≠ "java/lang/invoke/MethodHandle" ∧ yX8_writes.cls ≠ "java/lang/invoke/VarHandle" ∧ (parseMethodDescriptor yX8_writes.desc).map (fun d => d.parameters.length) = some 1 := by decide +kernel
set_option maxHeartbeats 4000000 in
set_option maxRecDepth 100000 in
theorem c_X8_writes (cI cB : ClassId) (m : Nat → Nat) (hl it sz sl ut tl sp tw tm mm rl : Int32) (os : List Int32) (c : Int32) (hos : os.length < 26) : Ct cI cB yX8_writes wsX8_writes { frames := 0, cells := 0, slots := 0, locals := 0 } [.ref (m 0), .int c] [moM m hl it sz sl ut (nI os.length) tl sp tw tm mm rl, arL cI (m 9) 26 os] (dn [moM m hl it sz sl ut (nI (os ++ [c]).length) tl sp tw tm mm rl, arL cI (m 9) 26 (os ++ [c])]) := by
  refine ct_of (cc := cX8_writes) (maxL := 2) (ret := none) (by decide) rfl (Nat.le_of_ble_eq_true rfl) [(0, .ref (m 0)), (1, .int c)] rfl ?_
  intro X hI hB K E
  subst hI
  subst hB
  have iX8 : ∀ w ∈ u_ws RX8 TX8 28, w ∈ wsX8_writes := by decide +kernel
  refine v_aload_n K dX8_writes_0 rfl ?_
  refine v_get K 0 rfl hasF_c rfl iX8 13 (by decide) rfl (by decide +kernel) rfl dX8_writes_1 ?_
  refine v_aload_n K dX8_writes_4 rfl ?_
  refine v_get K 0 rfl hasF_c rfl iX8 14 (by decide) rfl (by decide +kernel) rfl dX8_writes_5 ?_
  refine v_iload_n K dX8_writes_8 rfl ?_
  refine v_last K 1 rfl ?hx9_1 ?ix9_1 dX8_writes_9 ?_
  case hx9_1 => exact rfl
  case ix9_1 => exact hos
  refine v_aload_n K dX8_writes_10 rfl ?_
  refine v_dup K dX8_writes_11 rfl ?_
  refine v_get K 0 rfl hasF_c rfl iX8 14 (by decide) rfl (by decide +kernel) rfl dX8_writes_12 ?_
  refine v_iconst K (1) dX8_writes_15 (by decide) ?_
  refine v_iadd K dX8_writes_16 ?_
  refine v_put K 0 rfl rfl iX8 tyX8 tyX8_ok nmX8 14 (by decide) rfl (by decide +kernel) rfl rfl (Nat.le_of_ble_eq_true rfl) dX8_writes_17 ?_
  refine v_ret K E dX8_writes_20 ?_ rfl
  exact ⟨rfl, by rw [len1] <;> rfl⟩

theorem hd_X8_writesItself : yX8_writesItself.cls = RX8 ∧ yX8_writesItself.cls ≠ "java/lang/invoke/MethodHandle" ∧ yX8_writesItself.cls ≠ "java/lang/invoke/VarHandle" ∧ (parseMethodDescriptor yX8_writesItself.desc).map (fun d => d.parameters.length) = some 0 := by decide +kernel
set_option maxHeartbeats 4000000 in
set_option maxRecDepth 100000 in
theorem c_X8_writesItself (cI cB : ClassId) (m : Nat → Nat) (hl it sl ut tl sp tw tm mm rl : Int32) (xs os : List Int32) (hos : os.length + xs.length ≤ 26) : Ct cI cB yX8_writesItself wsX8_writesItself { frames := 1, cells := 0, slots := 0, locals := 21 } [.ref (m 0)] [moM m hl it (nI xs.length) sl ut (nI os.length) tl sp tw tm mm rl, arL cI (m 5) 12 xs, arL cI (m 9) 26 os] (dn [moM m hl it (nI xs.length) sl ut (nI (os ++ xs).length) tl sp tw tm mm rl, arL cI (m 5) 12 xs, arL cI (m 9) 26 (os ++ xs)]) := by
  refine ct_of (cc := cX8_writesItself) (maxL := 2) (ret := none) (by decide) rfl (Nat.le_of_ble_eq_true rfl) [(0, .ref (m 0))] rfl ?_
  intro X hI hB K E
  subst hI
  subst hB
  have iX8 : ∀ w ∈ u_ws RX8 TX8 28, w ∈ wsX8_writesItself := by decide +kernel
  refine v_arlen 1 rfl (fun hX => ?_)
  have lp : ∀ k, k ≤ xs.length → ∀ x : Int32, x = nI k → V X 0 0 2 [(0, .ref (m 0)), (1, .int x)] [] [moM m hl it (nI xs.length) sl ut (nI (os ++ xs.take k).length) tl sp tw tm mm rl, arL (XI X) (m 5) 12 xs, arL (XI X) (m 9) 26 (os ++ xs.take k)] := by
    refine loop_up xs.length ?_
    intro k hk ih x hx
    subst hx
    refine v_iload_n K dX8_writesItself_2 rfl ?_
    refine v_aload_n K dX8_writesItself_3 rfl ?_
    refine v_get K 0 rfl hasF_c rfl iX8 7 (by decide) rfl (by decide +kernel) rfl dX8_writesItself_4 ?_
    refine v_ic_ge K 26 dX8_writesItself_7 (by decide) (fun c7 => ?_) (fun c7 => ?_)
    · refine v_ret K E dX8_writesItself_26 ?_ rfl
      have he := up_end rfl (by omega) hk c7
      exact ⟨rfl, by rw [he, List.take_length] <;> rfl⟩
    · have hlt := up_lt rfl (by omega) hk c7
      refine v_aload_n K dX8_writesItself_10 rfl ?_
      refine v_aload_n K dX8_writesItself_11 rfl ?_
      refine v_get K 0 rfl hasF_c rfl iX8 6 (by decide) rfl (by decide +kernel) rfl dX8_writesItself_12 ?_
      refine v_iload_n K dX8_writesItself_15 rfl ?_
      refine v_lald K 1 rfl (k) ?hx16_1 ?ix16_1 dX8_writesItself_16 ?_
      case hx16_1 => exact rfl
      case ix16_1 => exact hlt
      refine v_callVv K [0, 2] (c_X8_writes (XI X) (XB X) _ _ _ _ _ _ _ _ _ _ _ _ _ _ ?hc17_0_2) rfl gX8_writesItself_X8_writes rfl rfl hd_X8_writes ⟨rfl, rfl⟩ ⟨by decide, by decide⟩ 0 rfl hasF_c rfl (by decide) (Nat.le_of_ble_eq_true rfl) ⟨Nat.zero_le _, Nat.zero_le _⟩ rfl dX8_writesItself_17 ?_
      case hc17_0_2 => rw [List.length_append, tkl hk]; omega
      refine v_iinc K dX8_writesItself_20 rfl (by decide) iinc_1 ?_
      refine v_goto K 2 dX8_writesItself_23 (by decide) ?_
      exact v_j (ih hlt _ (nI_1 k)) rfl rfl (by rw [List.append_assoc, tk1 hlt] <;> rfl)
  refine v_iconst K (0) dX8_writesItself_0 (by decide) ?_
  refine v_istore_n K dX8_writesItself_1 (by decide) ?_
  exact v_j (lp 0 (Nat.zero_le _) 0 rfl) rfl rfl (by rw [List.take_zero, List.append_nil] <;> rfl)

theorem hd_X8_usesNone : yX8_usesNone.cls = RX8 ∧ yX8_usesNone.cls ≠ "java/lang/invoke/MethodHandle" ∧ yX8_usesNone.cls ≠ "java/lang/invoke/VarHandle" ∧ (parseMethodDescriptor yX8_usesNone.desc).map (fun d => d.parameters.length) = some 0 := by decide +kernel
set_option maxHeartbeats 4000000 in
set_option maxRecDepth 100000 in
theorem c_X8_usesNone (cI cB : ClassId) (m : Nat → Nat) (hl it sz sl ut ol tl sp tw tm mm rl : Int32) (us : List Int32)  : Ct cI cB yX8_usesNone wsX8_usesNone { frames := 0, cells := 0, slots := 0, locals := 0 } [.ref (m 0)] [moM m hl it sz sl ut ol tl sp tw tm mm rl, arL cI (m 8) 30 us] (dn [moM m hl it sz sl ut ol tl sp tw tm mm rl, arL cI (m 8) 30 (List.replicate 30 0)]) := by
  refine ct_of (cc := cX8_usesNone) (maxL := 2) (ret := none) (by decide) rfl (Nat.le_of_ble_eq_true rfl) [(0, .ref (m 0))] rfl ?_
  intro X hI hB K E
  subst hI
  subst hB
  have iX8 : ∀ w ∈ u_ws RX8 TX8 28, w ∈ wsX8_usesNone := by decide +kernel
  have lp : ∀ k, k ≤ 30 → ∀ x : Int32, x = nI k → V X 0 0 2 [(0, .ref (m 0)), (1, .int x)] [] [moM m hl it sz sl ut ol tl sp tw tm mm rl, arL (XI X) (m 8) 30 (List.replicate k 0)] := by
    refine loop_up 30 ?_
    intro k hk ih x hx
    subst hx
    refine v_iload_n K dX8_usesNone_2 rfl ?_
    refine v_bipush K (30) dX8_usesNone_3 (by decide) ?_
    refine v_ic_ge K 21 dX8_usesNone_5 (by decide) (fun c5 => ?_) (fun c5 => ?_)
    · refine v_ret K E dX8_usesNone_21 ?_ rfl
      have he := up_end (N := 30) rfl (by omega) hk c5
      exact ⟨rfl, by rw [he] <;> rfl⟩
    · have hlt := up_lt (N := 30) rfl (by omega) hk c5
      refine v_aload_n K dX8_usesNone_8 rfl ?_
      refine v_get K 0 rfl hasF_c rfl iX8 12 (by decide) rfl (by decide +kernel) rfl dX8_usesNone_9 ?_
      refine v_iload_n K dX8_usesNone_12 rfl ?_
      refine v_iconst K (0) dX8_usesNone_13 (by decide) ?_
      refine v_last K 1 rfl ?hx14_1 ?ix14_1 dX8_usesNone_14 ?_
      case hx14_1 => rw [List.length_replicate]
      case ix14_1 => rw [List.length_replicate]; exact hlt
      refine v_iinc K dX8_usesNone_15 rfl (by decide) iinc_1 ?_
      refine v_goto K 2 dX8_usesNone_18 (by decide) ?_
      exact v_j (ih hlt _ (nI_1 k)) rfl rfl (by rw [List.replicate_succ'] <;> rfl)
  refine v_ltk 1 0 rfl ?_
  rw [List.take_zero]
  refine v_iconst K (0) dX8_usesNone_0 (by decide) ?_
  refine v_istore_n K dX8_usesNone_1 (by decide) ?_
  exact v_j (lp 0 (Nat.zero_le _) 0 rfl) rfl rfl rfl

theorem hd_X8_uses : yX8_uses.cls = RX8 ∧ yX8_uses.cls ≠ "java/lang/invoke/MethodHandle" ∧ yX8_uses.cls ≠ "java/lang/invoke/VarHandle" ∧ (parseMethodDescriptor yX8_uses.desc).map (fun d => d.parameters.length) = some 0 := by decide +kernel
set_option maxHeartbeats 4000000 in
set_option maxRecDepth 100000 in
theorem c_X8_uses (cI cB : ClassId) (m : Nat → Nat) (hl it sz sl ut ol tl sp tw tm mm rl : Int32) (S : Bk) (f : Nat → Int32) (xs rf sd us : List Int32) (hA : allR S f) : Ct cI cB yX8_uses wsX8_uses { frames := 4, cells := 0, slots := 0, locals := 93 } [.ref (m 0)] [moM m hl it sz sl ut ol tl sp tw tm mm rl, arF cI (m 1) 570 f, arL cI (m 5) 12 xs, arL cI (m 6) 12 rf, arL cI (m 7) 12 sd, arL cI (m 8) 30 us] (fun ov M => ov = none ∧ ∃ (sz sl ut : Int32) (xs rf sd : List Int32), M = [moM m hl it sz sl ut ol tl sp tw tm mm rl, arF cI (m 1) 570 f, arL cI (m 5) 12 xs, arL cI (m 6) 12 rf, arL cI (m 7) 12 sd, arL cI (m 8) 30 (usS S S.2.2.2.2.1.length)]) := by
  refine ct_of (cc := cX8_uses) (maxL := 2) (ret := none) (by decide) rfl (Nat.le_of_ble_eq_true rfl) [(0, .ref (m 0))] rfl ?_
  intro X hI hB K E
  subst hI
  subst hB
  have iX8 : ∀ w ∈ u_ws RX8 TX8 28, w ∈ wsX8_uses := by decide +kernel
  have h20 := hA.1.2.2.2.2.1
  have lp : ∀ k, k ≤ S.2.2.2.2.1.length → ∀ (x : Int32), x = nI k → ∀ (sz sl ut : Int32) (xs rf sd : List Int32), V X 0 0 6 [(0, .ref (m 0)), (1, .int x)] [] [moM m hl it sz sl ut ol tl sp tw tm mm rl, arF (XI X) (m 1) 570 f, arL (XI X) (m 5) 12 xs, arL (XI X) (m 6) 12 rf, arL (XI X) (m 7) 12 sd, arL (XI X) (m 8) 30 (usS S k)] := by
    refine loop_up S.2.2.2.2.1.length ?_
    intro k hk ih x hx sz sl ut xs rf sd
    subst hx
    refine v_iload_n K dX8_uses_6 rfl ?_
    refine v_aload_n K dX8_uses_7 rfl ?_
    refine v_get K 0 rfl hasF_c rfl iX8 0 (by decide) rfl (by decide +kernel) rfl dX8_uses_8 ?_
    refine v_iconst K (1) dX8_uses_11 (by decide) ?_
    refine v_fald K 1 rfl (1) ?hx12_1 ?ix12_1 dX8_uses_12 ?_
    case hx12_1 => exact rfl
    case ix12_1 => exact ⟨by decide, by decide⟩
    rw [hA.2.2.1]
    refine v_ic_ge K 31 dX8_uses_13 (by decide) (fun c13 => ?_) (fun c13 => ?_)
    · refine v_ret K E dX8_uses_31 ?_ rfl
      have he := up_end rfl (by omega) hk c13
      exact ⟨rfl, _, _, _, _, _, _, by rw [← he] <;> rfl⟩
    · have hlt := up_lt rfl (by omega) hk c13
      have hww := hA.1.2.2.2.2.2.2.2.2 k hlt
      refine v_aload_n K dX8_uses_16 rfl ?_
      refine v_iload_n K dX8_uses_17 rfl ?_
      refine v_callVv K [0, 1, 2] (c_X8_lays (XI X) (XB X) _ _ _ _ _ _ _ _ _ _ _ _ _ S _ _ _ ?hc18_0_2 ?hc18_1_2) rfl gX8_uses_X8_lays rfl rfl hd_X8_lays ⟨rfl, rfl⟩ ⟨by decide, by decide⟩ 0 rfl hasF_c rfl (by decide) (Nat.le_of_ble_eq_true rfl) ⟨Nat.zero_le _, Nat.zero_le _⟩ rfl dX8_uses_18 ?_
      case hc18_0_2 => exact hA
      case hc18_1_2 => exact hlt
      try dsimp only [Nat.reduceAdd, nf_rep1, nf_rep0, nf_d0, nf_t0, nf_s0, nf_ac, nf_an, nf_d1, nf_t1, nf_s1, nf_d2, nf_t2, nf_s2, nf_d3, nf_t3, nf_s3, nf_d4, nf_t4, nf_s4, nf_d5, nf_t5, nf_s5, nf_d6, nf_t6, nf_s6, nf_d7, nf_t7, nf_s7, nf_d8, nf_t8, nf_s8, nf_d9, nf_t9, nf_s9, nf_d10, nf_t10, nf_s10, nf_d11, nf_t11, nf_s11, nf_d12, nf_t12, nf_s12, nf_d13, nf_t13, nf_s13, nf_d14, nf_t14, nf_s14, nf_d15, nf_t15, nf_s15, nf_d16, nf_t16, nf_s16, nf_d17, nf_t17, nf_s17, nf_d18, nf_t18, nf_s18, nf_d19, nf_t19, nf_s19, nf_d20, nf_t20, nf_s20]
      refine v_aload_n K dX8_uses_21 rfl ?_
      refine v_callVv K [0, 1, 2, 3, 4, 5] (c_X8_findsSounds (XI X) (XB X) _ _ _ _ _ _ _ _ _ _ _ _ S _ _ _ _ _ ?hc22_0_3 ?hc22_1_3 ?hc22_2_3) rfl gX8_uses_X8_findsSounds rfl rfl hd_X8_findsSounds ⟨rfl, rfl⟩ ⟨by decide, by decide⟩ 0 rfl hasF_c rfl (by decide) (Nat.le_of_ble_eq_true rfl) ⟨Nat.zero_le _, Nat.zero_le _⟩ rfl dX8_uses_22 ?_
      case hc22_0_3 => exact hA
      case hc22_1_3 => exact hww.2.2.1
      case hc22_2_3 => exact usS_len S k
      try dsimp only [Nat.reduceAdd, nf_rep1, nf_rep0, nf_d0, nf_t0, nf_s0, nf_ac, nf_an, nf_d1, nf_t1, nf_s1, nf_d2, nf_t2, nf_s2, nf_d3, nf_t3, nf_s3, nf_d4, nf_t4, nf_s4, nf_d5, nf_t5, nf_s5, nf_d6, nf_t6, nf_s6, nf_d7, nf_t7, nf_s7, nf_d8, nf_t8, nf_s8, nf_d9, nf_t9, nf_s9, nf_d10, nf_t10, nf_s10, nf_d11, nf_t11, nf_s11, nf_d12, nf_t12, nf_s12, nf_d13, nf_t13, nf_s13, nf_d14, nf_t14, nf_s14, nf_d15, nf_t15, nf_s15, nf_d16, nf_t16, nf_s16, nf_d17, nf_t17, nf_s17, nf_d18, nf_t18, nf_s18, nf_d19, nf_t19, nf_s19, nf_d20, nf_t20, nf_s20]
      refine v_iinc K dX8_uses_25 rfl (by decide) iinc_1 ?_
      refine v_goto K 6 dX8_uses_28 (by decide) ?_
      exact v_j (ih hlt _ (nI_1 k) _ _ _ _ _ _) rfl rfl rfl
  refine v_aload_n K dX8_uses_0 rfl ?_
  refine v_callVv K [0, 5] (c_X8_usesNone (XI X) (XB X) _ _ _ _ _ _ _ _ _ _ _ _ _ _ ) rfl gX8_uses_X8_usesNone rfl rfl hd_X8_usesNone ⟨rfl, rfl⟩ ⟨by decide, by decide⟩ 0 rfl hasF_c rfl (by decide) (Nat.le_of_ble_eq_true rfl) ⟨Nat.zero_le _, Nat.zero_le _⟩ rfl dX8_uses_1 ?_
  try dsimp only [Nat.reduceAdd, nf_rep1, nf_rep0, nf_d0, nf_t0, nf_s0, nf_ac, nf_an, nf_d1, nf_t1, nf_s1, nf_d2, nf_t2, nf_s2, nf_d3, nf_t3, nf_s3, nf_d4, nf_t4, nf_s4, nf_d5, nf_t5, nf_s5, nf_d6, nf_t6, nf_s6, nf_d7, nf_t7, nf_s7, nf_d8, nf_t8, nf_s8, nf_d9, nf_t9, nf_s9, nf_d10, nf_t10, nf_s10, nf_d11, nf_t11, nf_s11, nf_d12, nf_t12, nf_s12, nf_d13, nf_t13, nf_s13, nf_d14, nf_t14, nf_s14, nf_d15, nf_t15, nf_s15, nf_d16, nf_t16, nf_s16, nf_d17, nf_t17, nf_s17, nf_d18, nf_t18, nf_s18, nf_d19, nf_t19, nf_s19, nf_d20, nf_t20, nf_s20]
  refine v_iconst K (0) dX8_uses_4 (by decide) ?_
  refine v_istore_n K dX8_uses_5 (by decide) ?_
  exact v_j (lp 0 (Nat.zero_le _) 0 rfl _ _ _ _ _ _) rfl rfl rfl

theorem hd_X8_writesAs : yX8_writesAs.cls = RX8 ∧ yX8_writesAs.cls ≠ "java/lang/invoke/MethodHandle" ∧ yX8_writesAs.cls ≠ "java/lang/invoke/VarHandle" ∧ (parseMethodDescriptor yX8_writesAs.desc).map (fun d => d.parameters.length) = some 1 := by decide +kernel
set_option maxHeartbeats 4000000 in
set_option maxRecDepth 100000 in
theorem c_X8_writesAs (cI cB : ClassId) (m : Nat → Nat) (hl it sl ut ol tl sp tw tm mm rl : Int32) (S : Bk) (f : Nat → Int32) (xs rf sd us os : List Int32) (kd : Int32) (hA : allR S f) (hL : ∀ x ∈ xs, low x) (hu : us.length = 30) : Ct cI cB yX8_writesAs wsX8_writesAs { frames := 4, cells := 0, slots := 0, locals := 93 } [.ref (m 0), .int kd] [moM m hl it (nI xs.length) sl ut ol tl sp tw tm mm rl, arF cI (m 1) 570 f, arL cI (m 5) 12 xs, arL cI (m 6) 12 rf, arL cI (m 7) 12 sd, arL cI (m 8) 30 us, arL cI (m 9) 26 os] (dn [moM m hl it (nI xs.length) (kx kd sl (nI (hrW S xs).1.length)) (kx kd ut (nI (hrW S xs).2.2.length)) (nI (spW S xs kd).length) tl sp tw tm mm rl, arF cI (m 1) 570 f, arL cI (m 5) 12 xs, arL cI (m 6) 12 (kx kd rf (hrW S xs).2.1), arL cI (m 7) 12 (kx kd sd (hrW S xs).1), arL cI (m 8) 30 (kx kd us (incL us (hrW S xs).2.2)), arL cI (m 9) 26 (spW S xs kd)]) := by
  refine ct_of (cc := cX8_writesAs) (maxL := 5) (ret := none) (by decide) rfl (Nat.le_of_ble_eq_true rfl) [(0, .ref (m 0)), (1, .int kd)] rfl ?_
  intro X hI hB K E
  subst hI
  subst hB
  have iX8 : ∀ w ∈ u_ws RX8 TX8 28, w ∈ wsX8_writesAs := by decide +kernel
  have hok := hrW_ok hA.1 hL
  have hsl := hok.1
  have hfl := flS_len hA.1 _ hok.2.1
  refine v_arlen 2 rfl (fun hX => ?_)
  have lpi : ∀ (k s : Nat) (os : List Int32), s < 26 → os.length + 2 ≤ 26 → (∀ y, V X 0 0 97 [(0, .ref (m 0)), (1, .int kd), (2, .int (nI k)), (3, .int (nI (212 + 3 * s))), (4, .int y)] [] [moM m hl it (nI xs.length) (nI (hrW S xs).1.length) (nI (hrW S xs).2.2.length) (nI (os ++ nthS S s).length) tl sp tw tm mm rl, arF (XI X) (m 1) 570 f, arL (XI X) (m 5) 12 xs, arL (XI X) (m 6) 12 (hrW S xs).2.1, arL (XI X) (m 7) 12 (hrW S xs).1, arL (XI X) (m 8) 30 (incL us (hrW S xs).2.2), arL (XI X) (m 9) 26 (os ++ nthS S s)]) → ∀ t, t ≤ (nthS S s).length → ∀ x : Int32, x = nI (1 + t) → V X 0 0 67 [(0, .ref (m 0)), (1, .int kd), (2, .int (nI k)), (3, .int (nI (212 + 3 * s))), (4, .int x)] [] [moM m hl it (nI xs.length) (nI (hrW S xs).1.length) (nI (hrW S xs).2.2.length) (nI (os ++ (nthS S s).take t).length) tl sp tw tm mm rl, arF (XI X) (m 1) 570 f, arL (XI X) (m 5) 12 xs, arL (XI X) (m 6) 12 (hrW S xs).2.1, arL (XI X) (m 7) 12 (hrW S xs).1, arL (XI X) (m 8) 30 (incL us (hrW S xs).2.2), arL (XI X) (m 9) 26 (os ++ (nthS S s).take t)] := by
    intro k s os hs hos hk0
    have hAs := hA.2.2.2.2.1 s hs
    have hws := hA.1.2.2.2.2.2.2.2.1 s hs
    refine loop_up (nthS S s).length ?_
    intro t ht ih x hx
    subst hx
    refine v_iload K dX8_writesAs_67 rfl ?_
    refine v_aload_n K dX8_writesAs_69 rfl ?_
    refine v_get K 0 rfl hasF_c rfl iX8 0 (by decide) rfl (by decide +kernel) rfl dX8_writesAs_70 ?_
    refine v_iload_n K dX8_writesAs_73 rfl ?_
    refine v_fald K 1 rfl (212 + 3 * s) ?hx74_1 ?ix74_1 dX8_writesAs_74 ?_
    case hx74_1 => exact rfl
    case ix74_1 => exact ⟨by omega, by decide⟩
    rw [hAs.1]
    refine v_ic_gt K 97 dX8_writesAs_75 (by decide) (fun c75 => ?_) (fun c75 => ?_)
    · have he : t = (nthS S s).length := by rw [nI_ltI (by omega) (by omega)] at c75; omega
      exact v_j (hk0 _) rfl rfl (by rw [he, List.take_length] <;> rfl)
    · have hlt : t < (nthS S s).length := by rw [nI_ltI (by omega) (by omega)] at c75; omega
      refine v_aload_n K dX8_writesAs_78 rfl ?_
      refine v_aload_n K dX8_writesAs_79 rfl ?_
      refine v_get K 0 rfl hasF_c rfl iX8 0 (by decide) rfl (by decide +kernel) rfl dX8_writesAs_80 ?_
      refine v_iload_n K dX8_writesAs_83 rfl ?_
      refine v_iload K dX8_writesAs_84 rfl ?_
      refine v_iadd K dX8_writesAs_86 ?_
      refine v_fald K 1 rfl (212 + 3 * s + 1 + t) ?hx87_2 ?ix87_2 dX8_writesAs_87 ?_
      case hx87_2 => rw [nI_add]; exact congrArg nI (by omega)
      case ix87_2 => exact ⟨by omega, by decide⟩
      rw [hAs.2 t hlt]
      refine v_callVv K [0, 6] (c_X8_writes (XI X) (XB X) _ _ _ _ _ _ _ _ _ _ _ _ _ _ ?hc88_0_3) rfl gX8_writesAs_X8_writes rfl rfl hd_X8_writes ⟨rfl, rfl⟩ ⟨by decide, by decide⟩ 0 rfl hasF_c rfl (by decide) (Nat.le_of_ble_eq_true rfl) ⟨Nat.zero_le _, Nat.zero_le _⟩ rfl dX8_writesAs_88 ?_
      case hc88_0_3 => rw [List.length_append, tkl ht]; omega
      try dsimp only [Nat.reduceAdd, nf_rep1, nf_rep0, nf_d0, nf_t0, nf_s0, nf_ac, nf_an, nf_d1, nf_t1, nf_s1, nf_d2, nf_t2, nf_s2, nf_d3, nf_t3, nf_s3, nf_d4, nf_t4, nf_s4, nf_d5, nf_t5, nf_s5, nf_d6, nf_t6, nf_s6, nf_d7, nf_t7, nf_s7, nf_d8, nf_t8, nf_s8, nf_d9, nf_t9, nf_s9, nf_d10, nf_t10, nf_s10, nf_d11, nf_t11, nf_s11, nf_d12, nf_t12, nf_s12, nf_d13, nf_t13, nf_s13, nf_d14, nf_t14, nf_s14, nf_d15, nf_t15, nf_s15, nf_d16, nf_t16, nf_s16, nf_d17, nf_t17, nf_s17, nf_d18, nf_t18, nf_s18, nf_d19, nf_t19, nf_s19, nf_d20, nf_t20, nf_s20]
      refine v_iinc K dX8_writesAs_91 rfl (by decide) iinc_1 ?_
      refine v_goto K 67 dX8_writesAs_94 (by decide) ?_
      exact v_j (ih hlt _ (nI_1 _)) rfl rfl (by rw [List.append_assoc, tk1 hlt] <;> rfl)
  have lp : ¬ kd = 1 → ∀ k, k ≤ (hrW S xs).1.length → ∀ x : Int32, x = nI k → V X 0 0 21 [(0, .ref (m 0)), (1, .int kd), (2, .int x)] [] [moM m hl it (nI xs.length) (nI (hrW S xs).1.length) (nI (hrW S xs).2.2.length) (nI (flS S.2.2.2.1 ((hrW S xs).1.take k)).length) tl sp tw tm mm rl, arF (XI X) (m 1) 570 f, arL (XI X) (m 5) 12 xs, arL (XI X) (m 6) 12 (hrW S xs).2.1, arL (XI X) (m 7) 12 (hrW S xs).1, arL (XI X) (m 8) 30 (incL us (hrW S xs).2.2), arL (XI X) (m 9) 26 (flS S.2.2.2.1 ((hrW S xs).1.take k))] := by
    intro c7
    refine loop_up (hrW S xs).1.length ?_
    intro k hk ih x hx
    subst hx
    have hfk := flS_len hA.1 ((hrW S xs).1.take k) (fun c hc => hok.2.1 c (List.mem_of_mem_take hc))
    rw [tkl hk] at hfk
    refine v_iload_n K dX8_writesAs_21 rfl ?_
    refine v_aload_n K dX8_writesAs_22 rfl ?_
    refine v_get K 0 rfl hasF_c rfl iX8 10 (by decide) rfl (by decide +kernel) rfl dX8_writesAs_23 ?_
    refine v_ic_ge K 116 dX8_writesAs_26 (by decide) (fun c26 => ?_) (fun c26 => ?_)
    · have he := up_end rfl (by omega) hk c26
      rw [he, List.take_length]
      refine v_aload_n K dX8_writesAs_116 rfl ?_
      refine v_get K 0 rfl hasF_c rfl iX8 14 (by decide) rfl (by decide +kernel) rfl dX8_writesAs_117 ?_
      refine v_if_ne K 127 dX8_writesAs_120 (by decide) (fun c120 => ?_) (fun c120 => ?_)
      · refine v_iload_n K dX8_writesAs_127 rfl ?_
        refine v_iconst K (2) dX8_writesAs_128 (by decide) ?_
        refine v_ic_ne K 138 dX8_writesAs_129 (by decide) (fun c129 => ?_) (fun c129 => ?_)
        · refine v_ret K E dX8_writesAs_138 ?_ rfl
          exact ⟨rfl, by simp only [kx_n c7]; rw [spW_n hA.1 hL c7, wr2_n (fun z => c120 (by rw [z] <;> rfl)), wr3_n c129] <;> rfl⟩
        · refine v_aload_n K dX8_writesAs_132 rfl ?_
          refine v_bipush K (39) dX8_writesAs_133 (by decide) ?_
          refine v_callVv K [0, 6] (c_X8_writes (XI X) (XB X) _ _ _ _ _ _ _ _ _ _ _ _ _ _ ?hc135_0_4) rfl gX8_writesAs_X8_writes rfl rfl hd_X8_writes ⟨rfl, rfl⟩ ⟨by decide, by decide⟩ 0 rfl hasF_c rfl (by decide) (Nat.le_of_ble_eq_true rfl) ⟨Nat.zero_le _, Nat.zero_le _⟩ rfl dX8_writesAs_135 ?_
          case hc135_0_4 => omega
          try dsimp only [Nat.reduceAdd, nf_rep1, nf_rep0, nf_d0, nf_t0, nf_s0, nf_ac, nf_an, nf_d1, nf_t1, nf_s1, nf_d2, nf_t2, nf_s2, nf_d3, nf_t3, nf_s3, nf_d4, nf_t4, nf_s4, nf_d5, nf_t5, nf_s5, nf_d6, nf_t6, nf_s6, nf_d7, nf_t7, nf_s7, nf_d8, nf_t8, nf_s8, nf_d9, nf_t9, nf_s9, nf_d10, nf_t10, nf_s10, nf_d11, nf_t11, nf_s11, nf_d12, nf_t12, nf_s12, nf_d13, nf_t13, nf_s13, nf_d14, nf_t14, nf_s14, nf_d15, nf_t15, nf_s15, nf_d16, nf_t16, nf_s16, nf_d17, nf_t17, nf_s17, nf_d18, nf_t18, nf_s18, nf_d19, nf_t19, nf_s19, nf_d20, nf_t20, nf_s20]
          refine v_ret K E dX8_writesAs_138 ?_ rfl
          subst c129
          exact ⟨rfl, by simp only [kx_n c7]; rw [spW_n hA.1 hL c7, wr2_n (fun z => c120 (by rw [z] <;> rfl)), wr3_2 (by omega)] <;> rfl⟩
      · refine v_aload_n K dX8_writesAs_123 rfl ?_
        refine v_callVv K [0, 2, 6] (c_X8_writesItself (XI X) (XB X) _ _ _ _ _ _ _ _ _ _ _ _ _ ?hc124_0_5) rfl gX8_writesAs_X8_writesItself rfl rfl hd_X8_writesItself ⟨rfl, rfl⟩ ⟨by decide, by decide⟩ 0 rfl hasF_c rfl (by decide) (Nat.le_of_ble_eq_true rfl) ⟨Nat.zero_le _, Nat.zero_le _⟩ rfl dX8_writesAs_124 ?_
        case hc124_0_5 => have h0 := nI_z (by omega) c120; omega
        try dsimp only [Nat.reduceAdd, nf_rep1, nf_rep0, nf_d0, nf_t0, nf_s0, nf_ac, nf_an, nf_d1, nf_t1, nf_s1, nf_d2, nf_t2, nf_s2, nf_d3, nf_t3, nf_s3, nf_d4, nf_t4, nf_s4, nf_d5, nf_t5, nf_s5, nf_d6, nf_t6, nf_s6, nf_d7, nf_t7, nf_s7, nf_d8, nf_t8, nf_s8, nf_d9, nf_t9, nf_s9, nf_d10, nf_t10, nf_s10, nf_d11, nf_t11, nf_s11, nf_d12, nf_t12, nf_s12, nf_d13, nf_t13, nf_s13, nf_d14, nf_t14, nf_s14, nf_d15, nf_t15, nf_s15, nf_d16, nf_t16, nf_s16, nf_d17, nf_t17, nf_s17, nf_d18, nf_t18, nf_s18, nf_d19, nf_t19, nf_s19, nf_d20, nf_t20, nf_s20]
        refine v_iload_n K dX8_writesAs_127 rfl ?_
        refine v_iconst K (2) dX8_writesAs_128 (by decide) ?_
        refine v_ic_ne K 138 dX8_writesAs_129 (by decide) (fun c129 => ?_) (fun c129 => ?_)
        · refine v_ret K E dX8_writesAs_138 ?_ rfl
          have h0 := List.length_eq_zero_iff.mp (nI_z (by omega) c120)
          exact ⟨rfl, by simp only [kx_n c7]; rw [spW_n hA.1 hL c7, h0, wr2_0 (by omega), wr3_n c129, List.nil_append] <;> rfl⟩
        · refine v_aload_n K dX8_writesAs_132 rfl ?_
          refine v_bipush K (39) dX8_writesAs_133 (by decide) ?_
          refine v_callVv K [0, 6] (c_X8_writes (XI X) (XB X) _ _ _ _ _ _ _ _ _ _ _ _ _ _ ?hc135_0_6) rfl gX8_writesAs_X8_writes rfl rfl hd_X8_writes ⟨rfl, rfl⟩ ⟨by decide, by decide⟩ 0 rfl hasF_c rfl (by decide) (Nat.le_of_ble_eq_true rfl) ⟨Nat.zero_le _, Nat.zero_le _⟩ rfl dX8_writesAs_135 ?_
          case hc135_0_6 => have h0 := nI_z (by omega) c120; rw [List.length_append]; omega
          try dsimp only [Nat.reduceAdd, nf_rep1, nf_rep0, nf_d0, nf_t0, nf_s0, nf_ac, nf_an, nf_d1, nf_t1, nf_s1, nf_d2, nf_t2, nf_s2, nf_d3, nf_t3, nf_s3, nf_d4, nf_t4, nf_s4, nf_d5, nf_t5, nf_s5, nf_d6, nf_t6, nf_s6, nf_d7, nf_t7, nf_s7, nf_d8, nf_t8, nf_s8, nf_d9, nf_t9, nf_s9, nf_d10, nf_t10, nf_s10, nf_d11, nf_t11, nf_s11, nf_d12, nf_t12, nf_s12, nf_d13, nf_t13, nf_s13, nf_d14, nf_t14, nf_s14, nf_d15, nf_t15, nf_s15, nf_d16, nf_t16, nf_s16, nf_d17, nf_t17, nf_s17, nf_d18, nf_t18, nf_s18, nf_d19, nf_t19, nf_s19, nf_d20, nf_t20, nf_s20]
          refine v_ret K E dX8_writesAs_138 ?_ rfl
          have h0 := List.length_eq_zero_iff.mp (nI_z (by omega) c120)
          subst c129
          exact ⟨rfl, by simp only [kx_n c7]; rw [spW_n hA.1 hL c7, h0, wr2_0 (by omega), wr3_2 (by omega), List.nil_append] <;> rfl⟩
    · have hlt := up_lt rfl (by omega) hk c26
      have hmem := hok.2.1 _ (List.getElem_mem hlt)
      rw [← gd_in (d := -5) hlt] at hmem
      refine v_aload_n K dX8_writesAs_29 rfl ?_
      refine v_get K 0 rfl hasF_c rfl iX8 9 (by decide) rfl (by decide +kernel) rfl dX8_writesAs_30 ?_
      refine v_iload_n K dX8_writesAs_33 rfl ?_
      refine v_lald K 4 rfl (k) ?hx34_7 ?ix34_7 dX8_writesAs_34 ?_
      case hx34_7 => exact rfl
      case ix34_7 => exact hlt
      refine v_i2l K dX8_writesAs_35 ?_
      refine v_ldc2 K (65) (by decide +kernel) dX8_writesAs_36 ?_
      refine v_ldc2 K (90) (by decide +kernel) dX8_writesAs_39 ?_
      refine v_callSi K [] (c_X8_in (XI X) (XB X) _ _ _ ) rfl gX8_writesAs_X8_in rfl rfl hd_X8_in ⟨rfl, rfl⟩ ⟨by decide, by decide⟩ (by decide) (Nat.le_of_ble_eq_true rfl) ⟨Nat.zero_le _, Nat.zero_le _⟩ rfl dX8_writesAs_42 ?_
      try dsimp only [Nat.reduceAdd, nf_rep1, nf_rep0, nf_d0, nf_t0, nf_s0, nf_ac, nf_an, nf_d1, nf_t1, nf_s1, nf_d2, nf_t2, nf_s2, nf_d3, nf_t3, nf_s3, nf_d4, nf_t4, nf_s4, nf_d5, nf_t5, nf_s5, nf_d6, nf_t6, nf_s6, nf_d7, nf_t7, nf_s7, nf_d8, nf_t8, nf_s8, nf_d9, nf_t9, nf_s9, nf_d10, nf_t10, nf_s10, nf_d11, nf_t11, nf_s11, nf_d12, nf_t12, nf_s12, nf_d13, nf_t13, nf_s13, nf_d14, nf_t14, nf_s14, nf_d15, nf_t15, nf_s15, nf_d16, nf_t16, nf_s16, nf_d17, nf_t17, nf_s17, nf_d18, nf_t18, nf_s18, nf_d19, nf_t19, nf_s19, nf_d20, nf_t20, nf_s20]
      rw [in65]
      refine v_if_eq K 100 dX8_writesAs_45 (by decide) (fun c45 => ?_) (fun c45 => ?_)
      · have hlow := hmem.resolve_right (fun z => absurd (bI_0 c45) (by unfold cpt; rw [decide_eq_true z]; exact Bool.noConfusion))
        refine v_aload_n K dX8_writesAs_100 rfl ?_
        refine v_aload_n K dX8_writesAs_101 rfl ?_
        refine v_get K 0 rfl hasF_c rfl iX8 9 (by decide) rfl (by decide +kernel) rfl dX8_writesAs_102 ?_
        refine v_iload_n K dX8_writesAs_105 rfl ?_
        refine v_lald K 4 rfl (k) ?hx106_9 ?ix106_9 dX8_writesAs_106 ?_
        case hx106_9 => exact rfl
        case ix106_9 => exact hlt
        refine v_callVv K [0, 6] (c_X8_writes (XI X) (XB X) _ _ _ _ _ _ _ _ _ _ _ _ _ _ ?hc107_0_10) rfl gX8_writesAs_X8_writes rfl rfl hd_X8_writes ⟨rfl, rfl⟩ ⟨by decide, by decide⟩ 0 rfl hasF_c rfl (by decide) (Nat.le_of_ble_eq_true rfl) ⟨Nat.zero_le _, Nat.zero_le _⟩ rfl dX8_writesAs_107 ?_
        case hc107_0_10 => omega
        try dsimp only [Nat.reduceAdd, nf_rep1, nf_rep0, nf_d0, nf_t0, nf_s0, nf_ac, nf_an, nf_d1, nf_t1, nf_s1, nf_d2, nf_t2, nf_s2, nf_d3, nf_t3, nf_s3, nf_d4, nf_t4, nf_s4, nf_d5, nf_t5, nf_s5, nf_d6, nf_t6, nf_s6, nf_d7, nf_t7, nf_s7, nf_d8, nf_t8, nf_s8, nf_d9, nf_t9, nf_s9, nf_d10, nf_t10, nf_s10, nf_d11, nf_t11, nf_s11, nf_d12, nf_t12, nf_s12, nf_d13, nf_t13, nf_s13, nf_d14, nf_t14, nf_s14, nf_d15, nf_t15, nf_s15, nf_d16, nf_t16, nf_s16, nf_d17, nf_t17, nf_s17, nf_d18, nf_t18, nf_s18, nf_d19, nf_t19, nf_s19, nf_d20, nf_t20, nf_s20]
        refine v_iinc K dX8_writesAs_110 rfl (by decide) iinc_1 ?_
        refine v_goto K 21 dX8_writesAs_113 (by decide) ?_
        exact v_j (ih hlt _ (nI_1 k)) rfl rfl (by rw [flS_add hlt, sgn_low hlow] <;> rfl)
      · have hcap := of_decide_eq_true (bI_1 c45)
        obtain ⟨s, hs, hc1, hc2⟩ := cpt_n hcap
        refine v_sipush K (212) dX8_writesAs_48 (by decide) ?_
        refine v_iconst K (3) dX8_writesAs_51 (by decide) ?_
        refine v_aload_n K dX8_writesAs_52 rfl ?_
        refine v_get K 0 rfl hasF_c rfl iX8 9 (by decide) rfl (by decide +kernel) rfl dX8_writesAs_53 ?_
        refine v_iload_n K dX8_writesAs_56 rfl ?_
        refine v_lald K 4 rfl (k) ?hx57_11 ?ix57_11 dX8_writesAs_57 ?_
        case hx57_11 => exact rfl
        case ix57_11 => exact hlt
        refine v_bipush K (65) dX8_writesAs_58 (by decide) ?_
        refine v_isub K dX8_writesAs_60 ?_
        refine v_imul K dX8_writesAs_61 ?_
        refine v_iadd K dX8_writesAs_62 ?_
        rw [hc2, show (3 : Int32) * nI s = nI (3 * s) from pk_mul 3 s, show (212 : Int32) + nI (3 * s) = nI (212 + 3 * s) from nI_add 212 _]
        refine v_istore_n K dX8_writesAs_63 (by decide) ?_
        refine v_iconst K (1) dX8_writesAs_64 (by decide) ?_
        refine v_istore K dX8_writesAs_65 (by decide) ?_
        refine v_j (lpi k s (flS S.2.2.2.1 ((hrW S xs).1.take k)) hs (by omega) (fun y => ?_) 0 (Nat.zero_le _) 1 rfl) rfl rfl (by rw [List.take_zero, List.append_nil] <;> rfl)
        refine v_goto K 110 dX8_writesAs_97 (by decide) ?_
        refine v_iinc K dX8_writesAs_110 rfl (by decide) iinc_1 ?_
        refine v_goto K 21 dX8_writesAs_113 (by decide) ?_
        exact v_j (ih hlt _ (nI_1 k)) rfl rfl (by rw [flS_add hlt, hc1, sgn_c hs] <;> rfl)
  refine v_ltk 6 0 rfl ?_
  rw [List.take_zero]
  try dsimp only [Nat.reduceAdd, nf_rep1, nf_rep0, nf_d0, nf_t0, nf_s0, nf_ac, nf_an, nf_d1, nf_t1, nf_s1, nf_d2, nf_t2, nf_s2, nf_d3, nf_t3, nf_s3, nf_d4, nf_t4, nf_s4, nf_d5, nf_t5, nf_s5, nf_d6, nf_t6, nf_s6, nf_d7, nf_t7, nf_s7, nf_d8, nf_t8, nf_s8, nf_d9, nf_t9, nf_s9, nf_d10, nf_t10, nf_s10, nf_d11, nf_t11, nf_s11, nf_d12, nf_t12, nf_s12, nf_d13, nf_t13, nf_s13, nf_d14, nf_t14, nf_s14, nf_d15, nf_t15, nf_s15, nf_d16, nf_t16, nf_s16, nf_d17, nf_t17, nf_s17, nf_d18, nf_t18, nf_s18, nf_d19, nf_t19, nf_s19, nf_d20, nf_t20, nf_s20]
  refine v_aload_n K dX8_writesAs_0 rfl ?_
  refine v_iconst K (0) dX8_writesAs_1 (by decide) ?_
  refine v_put K 0 rfl rfl iX8 tyX8 tyX8_ok nmX8 14 (by decide) rfl (by decide +kernel) rfl rfl (Nat.le_of_ble_eq_true rfl) dX8_writesAs_2 ?_
  try dsimp only [Nat.reduceAdd, nf_rep1, nf_rep0, nf_d0, nf_t0, nf_s0, nf_ac, nf_an, nf_d1, nf_t1, nf_s1, nf_d2, nf_t2, nf_s2, nf_d3, nf_t3, nf_s3, nf_d4, nf_t4, nf_s4, nf_d5, nf_t5, nf_s5, nf_d6, nf_t6, nf_s6, nf_d7, nf_t7, nf_s7, nf_d8, nf_t8, nf_s8, nf_d9, nf_t9, nf_s9, nf_d10, nf_t10, nf_s10, nf_d11, nf_t11, nf_s11, nf_d12, nf_t12, nf_s12, nf_d13, nf_t13, nf_s13, nf_d14, nf_t14, nf_s14, nf_d15, nf_t15, nf_s15, nf_d16, nf_t16, nf_s16, nf_d17, nf_t17, nf_s17, nf_d18, nf_t18, nf_s18, nf_d19, nf_t19, nf_s19, nf_d20, nf_t20, nf_s20]
  refine v_iload_n K dX8_writesAs_5 rfl ?_
  refine v_iconst K (1) dX8_writesAs_6 (by decide) ?_
  refine v_ic_ne K 15 dX8_writesAs_7 (by decide) (fun c7 => ?_) (fun c7 => ?_)
  · refine v_aload_n K dX8_writesAs_15 rfl ?_
    refine v_callVv K [0, 1, 2, 3, 4, 5] (c_X8_findsSounds (XI X) (XB X) _ _ _ _ _ _ _ _ _ _ _ _ S _ _ _ _ _ ?hc16_0_12 ?hc16_1_12 ?hc16_2_12) rfl gX8_writesAs_X8_findsSounds rfl rfl hd_X8_findsSounds ⟨rfl, rfl⟩ ⟨by decide, by decide⟩ 0 rfl hasF_c rfl (by decide) (Nat.le_of_ble_eq_true rfl) ⟨Nat.zero_le _, Nat.zero_le _⟩ rfl dX8_writesAs_16 ?_
    case hc16_0_12 => exact hA
    case hc16_1_12 => exact hL
    case hc16_2_12 => exact hu
    try dsimp only [Nat.reduceAdd, nf_rep1, nf_rep0, nf_d0, nf_t0, nf_s0, nf_ac, nf_an, nf_d1, nf_t1, nf_s1, nf_d2, nf_t2, nf_s2, nf_d3, nf_t3, nf_s3, nf_d4, nf_t4, nf_s4, nf_d5, nf_t5, nf_s5, nf_d6, nf_t6, nf_s6, nf_d7, nf_t7, nf_s7, nf_d8, nf_t8, nf_s8, nf_d9, nf_t9, nf_s9, nf_d10, nf_t10, nf_s10, nf_d11, nf_t11, nf_s11, nf_d12, nf_t12, nf_s12, nf_d13, nf_t13, nf_s13, nf_d14, nf_t14, nf_s14, nf_d15, nf_t15, nf_s15, nf_d16, nf_t16, nf_s16, nf_d17, nf_t17, nf_s17, nf_d18, nf_t18, nf_s18, nf_d19, nf_t19, nf_s19, nf_d20, nf_t20, nf_s20]
    refine v_iconst K (0) dX8_writesAs_19 (by decide) ?_
    refine v_istore_n K dX8_writesAs_20 (by decide) ?_
    exact v_j (lp c7 0 (Nat.zero_le _) 0 rfl) rfl rfl rfl
  · refine v_aload_n K dX8_writesAs_10 rfl ?_
    refine v_callVv K [0, 2, 6] (c_X8_writesItself (XI X) (XB X) _ _ _ _ _ _ _ _ _ _ _ _ [] ?hc11_0_13) rfl gX8_writesAs_X8_writesItself rfl rfl hd_X8_writesItself ⟨rfl, rfl⟩ ⟨by decide, by decide⟩ 0 rfl hasF_c rfl (by decide) (Nat.le_of_ble_eq_true rfl) ⟨Nat.zero_le _, Nat.zero_le _⟩ rfl dX8_writesAs_11 ?_
    case hc11_0_13 => simp only [List.length_nil]; omega
    try dsimp only [Nat.reduceAdd, nf_rep1, nf_rep0, nf_d0, nf_t0, nf_s0, nf_ac, nf_an, nf_d1, nf_t1, nf_s1, nf_d2, nf_t2, nf_s2, nf_d3, nf_t3, nf_s3, nf_d4, nf_t4, nf_s4, nf_d5, nf_t5, nf_s5, nf_d6, nf_t6, nf_s6, nf_d7, nf_t7, nf_s7, nf_d8, nf_t8, nf_s8, nf_d9, nf_t9, nf_s9, nf_d10, nf_t10, nf_s10, nf_d11, nf_t11, nf_s11, nf_d12, nf_t12, nf_s12, nf_d13, nf_t13, nf_s13, nf_d14, nf_t14, nf_s14, nf_d15, nf_t15, nf_s15, nf_d16, nf_t16, nf_s16, nf_d17, nf_t17, nf_s17, nf_d18, nf_t18, nf_s18, nf_d19, nf_t19, nf_s19, nf_d20, nf_t20, nf_s20]
    refine v_ret K E dX8_writesAs_14 ?_ rfl
    subst c7
    exact ⟨rfl, by rw [spW_1 (by omega)] <;> rfl⟩
