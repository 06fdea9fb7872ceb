theorem hd_X4_lines : yX4_lines.cls = RX4 ∧ yX4_lines.cls ≠ "java/lang/invoke/MethodHandle" ∧ yX4_lines.cls ≠ "java/lang/invoke/VarHandle" ∧ (parseMethodDescriptor yX4_lines.desc).map (fun d => d.parameters.length) = some 0 := by decide +kernel
set_option maxHeartbeats 4000000 in
set_option maxRecDepth 100000 in
theorem c_X4_lines (cI cB : ClassId) (rs c ca l la most w : Nat) (L : List (List Int32))  : Ct cI cB yX4_lines wsX4_lines { frames := 1, cells := 0, slots := 0, locals := 20 } [.ref rs] [rowsM cI rs c ca l la most w L] (dv (nI L.length) [rowsM cI rs c ca l la most w L]) := by
  refine ct_of (cc := cX4_lines) (maxL := 1) (ret := (some .int)) (by decide) rfl (Nat.le_of_ble_eq_true rfl) [(0, .ref rs)] rfl ?_
  intro X hI hB K E
  subst hI
  subst hB
  have iX4 : ∀ w ∈ u_ws RX4 TX4 3, w ∈ wsX4_lines := by decide +kernel
  refine v_orows 0 rfl (fun C hC => ?_)
  refine v_aload_n K dX4_lines_0 rfl ?_
  refine v_get K 0 rfl hasF_c rfl iX4 2 (by decide) rfl (by decide +kernel) rfl dX4_lines_1 ?_
  refine v_callVi K [2] (c_X3_size (XI X) (XB X) _ _ _ _ ) rfl gX4_lines_X3_size rfl rfl hd_X3_size ⟨rfl, rfl⟩ ⟨by decide, by decide⟩ 2 rfl rowF rfl (by decide) (Nat.le_of_ble_eq_true rfl) ⟨Nat.zero_le _, Nat.zero_le _⟩ rfl dX4_lines_4 ?_
  refine v_crows 0 _ rfl rfl hC rfl ?_
  refine v_iret K E dX4_lines_7 ?_ rfl
  exact ⟨by rw [lens_len], rfl⟩

theorem hd_X4_has : yX4_has.cls = RX4 ∧ yX4_has.cls ≠ "java/lang/invoke/MethodHandle" ∧ yX4_has.cls ≠ "java/lang/invoke/VarHandle" ∧ (parseMethodDescriptor yX4_has.desc).map (fun d => d.parameters.length) = some 1 := by decide +kernel
set_option maxHeartbeats 4000000 in
set_option maxRecDepth 100000 in
theorem c_X4_has (cI cB : ClassId) (rs c ca l la most w : Nat) (L : List (List Int32)) (i : Int32)  : Ct cI cB yX4_has wsX4_has { frames := 1, cells := 0, slots := 0, locals := 20 } [.ref rs, .int i] [rowsM cI rs c ca l la most w L] (dv (bI (hasL L i)) [rowsM cI rs c ca l la most w L]) := by
  refine ct_of (cc := cX4_has) (maxL := 2) (ret := (some .boolean)) (by decide) rfl (Nat.le_of_ble_eq_true rfl) [(0, .ref rs), (1, .int i)] rfl ?_
  intro X hI hB K E
  subst hI
  subst hB
  have iX4 : ∀ w ∈ u_ws RX4 TX4 3, w ∈ wsX4_has := by decide +kernel
  refine v_orows 0 rfl (fun C hC => ?_)
  refine v_iload_n K dX4_has_0 rfl ?_
  refine v_if_lt K 19 dX4_has_1 (by decide) (fun c1 => ?_) (fun c1 => ?_)
  · refine v_iconst K (0) dX4_has_19 (by decide) ?_
    refine v_crows 0 _ rfl rfl hC rfl ?_
    refine v_zret K E dX4_has_20 (by first | exact Or.inl rfl | exact Or.inr rfl) ?_ rfl
    exact ⟨by rw [has_neg c1], rfl⟩
  · refine v_iload_n K dX4_has_4 rfl ?_
    refine v_aload_n K dX4_has_5 rfl ?_
    refine v_get K 0 rfl hasF_c rfl iX4 2 (by decide) rfl (by decide +kernel) rfl dX4_has_6 ?_
    refine v_callVi K [2] (c_X3_size (XI X) (XB X) _ _ _ _ ) rfl gX4_has_X3_size rfl rfl hd_X3_size ⟨rfl, rfl⟩ ⟨by decide, by decide⟩ 2 rfl rowF rfl (by decide) (Nat.le_of_ble_eq_true rfl) ⟨Nat.zero_le _, Nat.zero_le _⟩ rfl dX4_has_9 ?_
    refine v_ic_ge K 19 dX4_has_12 (by decide) (fun c12 => ?_) (fun c12 => ?_)
    · refine v_iconst K (0) dX4_has_19 (by decide) ?_
      refine v_crows 0 _ rfl rfl hC rfl ?_
      refine v_zret K E dX4_has_20 (by first | exact Or.inl rfl | exact Or.inr rfl) ?_ rfl
      exact ⟨by rw [has_out (rl_N hC) c12], rfl⟩
    · refine v_iconst K (1) dX4_has_15 (by decide) ?_
      refine v_goto K 20 dX4_has_16 (by decide) ?_
      refine v_crows 0 _ rfl rfl hC rfl ?_
      refine v_zret K E dX4_has_20 (by first | exact Or.inl rfl | exact Or.inr rfl) ?_ rfl
      exact ⟨by rw [has_in (rl_N hC) c1 c12], rfl⟩

theorem hd_X4_length : yX4_length.cls = RX4 ∧ yX4_length.cls ≠ "java/lang/invoke/MethodHandle" ∧ yX4_length.cls ≠ "java/lang/invoke/VarHandle" ∧ (parseMethodDescriptor yX4_length.desc).map (fun d => d.parameters.length) = some 1 := by decide +kernel
set_option maxHeartbeats 4000000 in
set_option maxRecDepth 100000 in
theorem c_X4_length (cI cB : ClassId) (rs c ca l la most w : Nat) (L : List (List Int32)) (i : Int32)  : Ct cI cB yX4_length wsX4_length { frames := 1, cells := 0, slots := 0, locals := 21 } [.ref rs, .int i] [rowsM cI rs c ca l la most w L] (dv (gt (lens L) i) [rowsM cI rs c ca l la most w L]) := by
  refine ct_of (cc := cX4_length) (maxL := 2) (ret := (some .int)) (by decide) rfl (Nat.le_of_ble_eq_true rfl) [(0, .ref rs), (1, .int i)] rfl ?_
  intro X hI hB K E
  subst hI
  subst hB
  have iX4 : ∀ w ∈ u_ws RX4 TX4 3, w ∈ wsX4_length := by decide +kernel
  refine v_orows 0 rfl (fun C hC => ?_)
  refine v_aload_n K dX4_length_0 rfl ?_
  refine v_get K 0 rfl hasF_c rfl iX4 2 (by decide) rfl (by decide +kernel) rfl dX4_length_1 ?_
  refine v_iload_n K dX4_length_4 rfl ?_
  refine v_callVi K [2] (c_X3_get (XI X) (XB X) _ _ _ _ _ ) rfl gX4_length_X3_get rfl rfl hd_X3_get ⟨rfl, rfl⟩ ⟨by decide, by decide⟩ 2 rfl rowF rfl (by decide) (Nat.le_of_ble_eq_true rfl) ⟨Nat.zero_le _, Nat.zero_le _⟩ rfl dX4_length_5 ?_
  refine v_crows 0 _ rfl rfl hC rfl ?_
  refine v_iret K E dX4_length_8 ?_ rfl
  exact ⟨rfl, rfl⟩

theorem hd_X4_wholeLength : yX4_wholeLength.cls = RX4 ∧ yX4_wholeLength.cls ≠ "java/lang/invoke/MethodHandle" ∧ yX4_wholeLength.cls ≠ "java/lang/invoke/VarHandle" ∧ (parseMethodDescriptor yX4_wholeLength.desc).map (fun d => d.parameters.length) = some 0 := by decide +kernel
set_option maxHeartbeats 4000000 in
set_option maxRecDepth 100000 in
theorem c_X4_wholeLength (cI cB : ClassId) (rs c ca l la most w : Nat) (L : List (List Int32))  : Ct cI cB yX4_wholeLength wsX4_wholeLength { frames := 1, cells := 0, slots := 0, locals := 21 } [.ref rs] [rowsM cI rs c ca l la most w L] (dv (nI (sumL L)) [rowsM cI rs c ca l la most w L]) := by
  refine ct_of (cc := cX4_wholeLength) (maxL := 3) (ret := (some .int)) (by decide) rfl (Nat.le_of_ble_eq_true rfl) [(0, .ref rs)] rfl ?_
  intro X hI hB K E
  subst hI
  subst hB
  have iX4 : ∀ w ∈ u_ws RX4 TX4 3, w ∈ wsX4_wholeLength := by decide +kernel
  refine v_rowsrl 0 rfl (fun hE => ?_)
  obtain ⟨C0, hC0⟩ := hE
  have hN := rl_N hC0
  have lp : ∀ k, k ≤ L.length → ∀ (x : Int32) (n : Nat), x = nI k → n + sumL (L.drop k) = sumL L → V X 0 0 4 [(0, .ref rs), (1, .int (nI n)), (2, .int x)] [] [rowsM (XI X) rs c ca l la most w L] := by
    refine loop_up L.length ?_
    intro k hk ih x n hx hn
    subst hx
    refine v_iload_n K dX4_wholeLength_4 rfl ?_
    refine v_orows 0 rfl (fun C hC => ?_)
    refine v_aload_n K dX4_wholeLength_5 rfl ?_
    refine v_get K 0 rfl hasF_c rfl iX4 2 (by decide) rfl (by decide +kernel) rfl dX4_wholeLength_6 ?_
    refine v_callVi K [2] (c_X3_size (XI X) (XB X) _ _ _ _ ) rfl gX4_wholeLength_X3_size rfl rfl hd_X3_size ⟨rfl, rfl⟩ ⟨by decide, by decide⟩ 2 rfl rowF rfl (by decide) (Nat.le_of_ble_eq_true rfl) ⟨Nat.zero_le _, Nat.zero_le _⟩ rfl dX4_wholeLength_9 ?_
    refine v_ic_ge K 32 dX4_wholeLength_12 (by decide) (fun c12 => ?_) (fun c12 => ?_)
    · refine v_crows 0 _ rfl rfl hC rfl ?_
      rw [lens_len] at c12
      refine v_iload_n K dX4_wholeLength_32 rfl ?_
      refine v_iret K E dX4_wholeLength_33 ?_ rfl
      exact ⟨by rw [up_end rfl hN hk c12] at hn; rw [List.drop_length] at hn; rw [← hn]; rfl, rfl⟩
    · refine v_iload_n K dX4_wholeLength_15 rfl ?_
      refine v_aload_n K dX4_wholeLength_16 rfl ?_
      refine v_get K 0 rfl hasF_c rfl iX4 2 (by decide) rfl (by decide +kernel) rfl dX4_wholeLength_17 ?_
      refine v_iload_n K dX4_wholeLength_20 rfl ?_
      refine v_callVi K [2] (c_X3_get (XI X) (XB X) _ _ _ _ _ ) rfl gX4_wholeLength_X3_get rfl rfl hd_X3_get ⟨rfl, rfl⟩ ⟨by decide, by decide⟩ 2 rfl rowF rfl (by decide) (Nat.le_of_ble_eq_true rfl) ⟨Nat.zero_le _, Nat.zero_le _⟩ rfl dX4_wholeLength_21 ?_
      refine v_crows 0 _ rfl rfl hC rfl ?_
      rw [lens_len] at c12
      have hlt := up_lt rfl hN hk c12
      rw [gl_n hlt hN]
      refine v_iadd K dX4_wholeLength_24 ?_
      rw [nI_add]
      refine v_istore_n K dX4_wholeLength_25 (by decide) ?_
      refine v_iinc K dX4_wholeLength_26 rfl (by decide) iinc_1 ?_
      refine v_goto K 4 dX4_wholeLength_29 (by decide) ?_
      exact v_j (ih hlt _ (n + (L.getD k []).length) (nI_1 k) (by rw [← hn, sumL_step hlt]; omega)) rfl rfl rfl
  refine v_iconst K (0) dX4_wholeLength_0 (by decide) ?_
  refine v_istore_n K dX4_wholeLength_1 (by decide) ?_
  refine v_iconst K (0) dX4_wholeLength_2 (by decide) ?_
  refine v_istore_n K dX4_wholeLength_3 (by decide) ?_
  exact v_j (lp 0 (Nat.zero_le _) 0 0 rfl (Nat.zero_add _)) rfl rfl rfl

theorem hd_X4_get : yX4_get.cls = RX4 ∧ yX4_get.cls ≠ "java/lang/invoke/MethodHandle" ∧ yX4_get.cls ≠ "java/lang/invoke/VarHandle" ∧ (parseMethodDescriptor yX4_get.desc).map (fun d => d.parameters.length) = some 2 := by decide +kernel
set_option maxHeartbeats 4000000 in
set_option maxRecDepth 100000 in
theorem c_X4_get (cI cB : ClassId) (rs c ca l la most w : Nat) (L : List (List Int32)) (i j : Int32)  : Ct cI cB yX4_get wsX4_get { frames := 1, cells := 0, slots := 0, locals := 21 } [.ref rs, .int i, .int j] [rowsM cI rs c ca l la most w L] (dv (gg L i j) [rowsM cI rs c ca l la most w L]) := by
  refine ct_of (cc := cX4_get) (maxL := 4) (ret := (some .int)) (by decide) rfl (Nat.le_of_ble_eq_true rfl) [(0, .ref rs), (1, .int i), (2, .int j)] rfl ?_
  intro X hI hB K E
  subst hI
  subst hB
  have iX4 : ∀ w ∈ u_ws RX4 TX4 3, w ∈ wsX4_get := by decide +kernel
  refine v_orows 0 rfl (fun C hC => ?_)
  refine v_iload_n K dX4_get_0 rfl ?_
  refine v_if_lt K 20 dX4_get_1 (by decide) (fun c1 => ?_) (fun c1 => ?_)
  · refine v_iconst K (0) dX4_get_20 (by decide) ?_
    refine v_istore_n K dX4_get_21 (by decide) ?_
    refine v_iload_n K dX4_get_22 rfl ?_
    refine v_if_eq K 44 dX4_get_23 (by decide) (fun _ => ?_) (fun c => absurd (by decide) c)
    refine v_bipush K (-5) dX4_get_44 (by decide) ?_
    refine v_crows 0 _ rfl rfl hC rfl ?_
    refine v_iret K E dX4_get_46 ?_ rfl
    exact ⟨by rw [gg_neg c1], rfl⟩
  · refine v_iload_n K dX4_get_4 rfl ?_
    refine v_aload_n K dX4_get_5 rfl ?_
    refine v_get K 0 rfl hasF_c rfl iX4 2 (by decide) rfl (by decide +kernel) rfl dX4_get_6 ?_
    refine v_iload_n K dX4_get_9 rfl ?_
    refine v_callVi K [2] (c_X3_get (XI X) (XB X) _ _ _ _ _ ) rfl gX4_get_X3_get rfl rfl hd_X3_get ⟨rfl, rfl⟩ ⟨by decide, by decide⟩ 2 rfl rowF rfl (by decide) (Nat.le_of_ble_eq_true rfl) ⟨Nat.zero_le _, Nat.zero_le _⟩ rfl dX4_get_10 ?_
    refine v_ic_ge K 20 dX4_get_13 (by decide) (fun c13 => ?_) (fun c13 => ?_)
    · refine v_iconst K (0) dX4_get_20 (by decide) ?_
      refine v_istore_n K dX4_get_21 (by decide) ?_
      refine v_iload_n K dX4_get_22 rfl ?_
      refine v_if_eq K 44 dX4_get_23 (by decide) (fun _ => ?_) (fun c => absurd (by decide) c)
      refine v_bipush K (-5) dX4_get_44 (by decide) ?_
      refine v_crows 0 _ rfl rfl hC rfl ?_
      refine v_iret K E dX4_get_46 ?_ rfl
      exact ⟨by rw [gg_out hC c13], rfl⟩
    · refine v_iconst K (1) dX4_get_16 (by decide) ?_
      refine v_goto K 21 dX4_get_17 (by decide) ?_
      refine v_istore_n K dX4_get_21 (by decide) ?_
      refine v_iload_n K dX4_get_22 rfl ?_
      refine v_if_eq K 44 dX4_get_23 (by decide) (fun c => absurd c (by decide)) (fun _ => ?_)
      refine v_aload_n K dX4_get_26 rfl ?_
      refine v_get K 0 rfl hasF_c rfl iX4 1 (by decide) rfl (by decide +kernel) rfl dX4_get_27 ?_
      refine v_iload_n K dX4_get_30 rfl ?_
      refine v_aload_n K dX4_get_31 rfl ?_
      refine v_get K 0 rfl hasF_c rfl iX4 0 (by decide) rfl (by decide +kernel) rfl dX4_get_32 ?_
      refine v_imul K dX4_get_35 ?_
      refine v_iload_n K dX4_get_36 rfl ?_
      refine v_iadd K dX4_get_37 ?_
      refine v_callVi K [1] (c_X3_get (XI X) (XB X) _ _ _ _ _ ) rfl gX4_get_X3_get rfl rfl hd_X3_get ⟨rfl, rfl⟩ ⟨by decide, by decide⟩ 1 rfl rowF rfl (by decide) (Nat.le_of_ble_eq_true rfl) ⟨Nat.zero_le _, Nat.zero_le _⟩ rfl dX4_get_38 ?_
      refine v_goto K 46 dX4_get_41 (by decide) ?_
      refine v_crows 0 _ rfl rfl hC rfl ?_
      refine v_iret K E dX4_get_46 ?_ rfl
      exact ⟨by rw [gg_in hC c1 c13], rfl⟩

theorem hd_X4_put : yX4_put.cls = RX4 ∧ yX4_put.cls ≠ "java/lang/invoke/MethodHandle" ∧ yX4_put.cls ≠ "java/lang/invoke/VarHandle" ∧ (parseMethodDescriptor yX4_put.desc).map (fun d => d.parameters.length) = some 2 := by decide +kernel
set_option maxHeartbeats 4000000 in
set_option maxRecDepth 100000 in
theorem c_X4_put (cI cB : ClassId) (rs c ca l la most w : Nat) (L : List (List Int32)) (i : Int32) (r a cap : Nat) (xs : List Int32)  : Ct cI cB yX4_put wsX4_put { frames := 2, cells := 0, slots := 0, locals := 41 } [.ref rs, .int i, .ref r] [rowsM cI rs c ca l la most w L, rowM cI r a cap xs] (dn [rowsM cI rs c ca l la most w (ptL w L i xs), rowM cI r a cap xs]) := by
  refine ct_of (cc := cX4_put) (maxL := 5) (ret := none) (by decide) rfl (Nat.le_of_ble_eq_true rfl) [(0, .ref rs), (1, .int i), (2, .ref r)] rfl ?_
  intro X hI hB K E
  subst hI
  subst hB
  have iX4 : ∀ w ∈ u_ws RX4 TX4 3, w ∈ wsX4_put := by decide +kernel
  refine v_rowsrl 0 rfl (fun hE => ?_)
  obtain ⟨C0, hC0⟩ := hE
  have hN := rl_N hC0
  refine v_rowlen 1 rfl (fun hX => ?_)
  refine v_aload_n K dX4_put_0 rfl ?_
  refine v_iload_n K dX4_put_1 rfl ?_
  refine v_callVi K [0] (c_X4_has (XI X) (XB X) _ _ _ _ _ _ _ _ _ ) rfl gX4_put_X4_has rfl rfl hd_X4_has ⟨rfl, rfl⟩ ⟨by decide, by decide⟩ 0 rfl rowsF rfl (by decide) (Nat.le_of_ble_eq_true rfl) ⟨Nat.zero_le _, Nat.zero_le _⟩ rfl dX4_put_2 ?_
  refine v_if_eq K 66 dX4_put_5 (by decide) (fun c5 => ?_) (fun c5 => ?_)
  · refine v_ret K E dX4_put_66 ?_ rfl
    exact ⟨rfl, by unfold ptL; rw [if_neg (by rw [bI_0 c5]; exact Bool.false_ne_true)] <;> rfl⟩
  · refine v_aload_n K dX4_put_8 rfl ?_
    refine v_callVi K [1] (c_X3_size (XI X) (XB X) _ _ _ _ ) rfl gX4_put_X3_size rfl rfl hd_X3_size ⟨rfl, rfl⟩ ⟨by decide, by decide⟩ 1 rfl rowF rfl (by decide) (Nat.le_of_ble_eq_true rfl) ⟨Nat.zero_le _, Nat.zero_le _⟩ rfl dX4_put_9 ?_
    refine v_aload_n K dX4_put_12 rfl ?_
    refine v_get K 0 rfl rowsF rfl iX4 0 (by decide) rfl (by decide +kernel) rfl dX4_put_13 ?_
    refine v_mmin K (by decide +kernel) (by decide +kernel) (by decide +kernel) (by decide +kernel) (by decide) (Nat.le_of_ble_eq_true rfl) ⟨Nat.zero_le _, Nat.zero_le _⟩ dX4_put_16 ?_
    have hL := bI_1 c5
    obtain ⟨I, hI, rfl⟩ := hasL_of hN hL
    rw [min_nI hX hC0.1.2.1]
    refine v_istore_n K dX4_put_19 (by decide) ?_
    refine v_orows 0 rfl (fun C hC => ?_)
    refine v_aload_n K dX4_put_20 rfl ?_
    refine v_get K 0 rfl hasF_c rfl iX4 2 (by decide) rfl (by decide +kernel) rfl dX4_put_21 ?_
    refine v_iload_n K dX4_put_24 rfl ?_
    refine v_iload_n K dX4_put_25 rfl ?_
    refine v_callVv K [2] (c_X3_set (XI X) (XB X) _ _ _ _ _ _ ) rfl gX4_put_X3_set rfl rfl hd_X3_set ⟨rfl, rfl⟩ ⟨by decide, by decide⟩ 2 rfl rowF rfl (by decide) (Nat.le_of_ble_eq_true rfl) ⟨Nat.zero_le _, Nat.zero_le _⟩ rfl dX4_put_26 ?_
    refine v_iconst K (0) dX4_put_29 (by decide) ?_
    refine v_istore K dX4_put_30 (by decide) ?_
    have lp : ∀ k, k ≤ min xs.length w → ∀ (x : Int32) (C1 : List Int32), x = nI k → prl most w I k xs C C1 → V X 0 0 32 [(0, .ref rs), (1, .int (nI I)), (2, .ref r), (3, .int (nI (min xs.length w))), (4, .int x)] [] [cM rs (.inr (4, [.int (nI w), .ref c, .ref l])), rowM (XI X) c ca (most * w) C1, rowM (XI X) l la most (stL (lens L) (nI I) (nI (min xs.length w))), rowM (XI X) r a cap xs] := by
      refine loop_up (min xs.length w) ?_
      intro k hk ih x C1 hx hp
      subst hx
      refine v_iload K dX4_put_32 rfl ?_
      refine v_iload_n K dX4_put_34 rfl ?_
      refine v_ic_ge K 66 dX4_put_35 (by decide) (fun c35 => ?_) (fun c35 => ?_)
      · refine v_crows 0 (L.set I (xs.take w)) rfl rfl (prl_end hC (by rw [← up_end rfl (by omega) hk c35]; exact hp)) (by rw [← lens_set (by omega), List.length_take, Nat.min_comm]) ?_
        refine v_ret K E dX4_put_66 ?_ rfl
        exact ⟨rfl, by unfold ptL; rw [if_pos hL, nI_clamp (by omega)] <;> rfl⟩
      · refine v_aload_n K dX4_put_38 rfl ?_
        refine v_get K 0 rfl hasF_c rfl iX4 1 (by decide) rfl (by decide +kernel) rfl dX4_put_39 ?_
        refine v_iload_n K dX4_put_42 rfl ?_
        refine v_aload_n K dX4_put_43 rfl ?_
        refine v_get K 0 rfl hasF_c rfl iX4 0 (by decide) rfl (by decide +kernel) rfl dX4_put_44 ?_
        refine v_imul K dX4_put_47 ?_
        refine v_iload K dX4_put_48 rfl ?_
        refine v_iadd K dX4_put_50 ?_
        refine v_aload_n K dX4_put_51 rfl ?_
        refine v_iload K dX4_put_52 rfl ?_
        have hlt := up_lt rfl (by omega) hk c35
        have hm := mul_lt (w := w) (k := k) (Nat.lt_of_lt_of_le hI hC.2.2.1) (by omega)
        have hb := hC.1.2.2
        refine v_callVi K [3] (c_X3_get (XI X) (XB X) _ _ _ _ _ ) rfl gX4_put_X3_get rfl rfl hd_X3_get ⟨rfl, rfl⟩ ⟨by decide, by decide⟩ 3 rfl rowF rfl (by decide) (Nat.le_of_ble_eq_true rfl) ⟨Nat.zero_le _, Nat.zero_le _⟩ rfl dX4_put_54 ?_
        rw [ix_n, gt_n (by omega)]
        refine v_callVv K [1] (c_X3_set (XI X) (XB X) _ _ _ _ _ _ ) rfl gX4_put_X3_set rfl rfl hd_X3_set ⟨rfl, rfl⟩ ⟨by decide, by decide⟩ 1 rfl rowF rfl (by decide) (Nat.le_of_ble_eq_true rfl) ⟨Nat.zero_le _, Nat.zero_le _⟩ rfl dX4_put_57 ?_
        refine v_iinc K dX4_put_60 rfl (by decide) iinc_1 ?_
        refine v_goto K 32 dX4_put_63 (by decide) ?_
        exact v_j (ih hlt _ (C1.set (I * w + k) (xs.getD k (-5))) (nI_1 k) (prl_step hp (by omega) hm)) rfl rfl (by rw [← st_n (xs := C1) (k := I * w + k) (by omega)]; rfl)
    exact v_j (lp 0 (Nat.zero_le _) 0 C rfl (prl_0 hC.2.1)) rfl rfl rfl

theorem hd_X4_add : yX4_add.cls = RX4 ∧ yX4_add.cls ≠ "java/lang/invoke/MethodHandle" ∧ yX4_add.cls ≠ "java/lang/invoke/VarHandle" ∧ (parseMethodDescriptor yX4_add.desc).map (fun d => d.parameters.length) = some 1 := by decide +kernel
set_option maxHeartbeats 4000000 in
set_option maxRecDepth 100000 in
theorem c_X4_add (cI cB : ClassId) (rs c ca l la most w : Nat) (L : List (List Int32)) (r a cap : Nat) (xs : List Int32)  : Ct cI cB yX4_add wsX4_add { frames := 3, cells := 0, slots := 0, locals := 65 } [.ref rs, .ref r] [rowsM cI rs c ca l la most w L, rowM cI r a cap xs] (dn [rowsM cI rs c ca l la most w (adLn most w L xs), rowM cI r a cap xs]) := by
  refine ct_of (cc := cX4_add) (maxL := 2) (ret := none) (by decide) rfl (Nat.le_of_ble_eq_true rfl) [(0, .ref rs), (1, .ref r)] rfl ?_
  intro X hI hB K E
  subst hI
  subst hB
  have iX4 : ∀ w ∈ u_ws RX4 TX4 3, w ∈ wsX4_add := by decide +kernel
  refine v_orows 0 rfl (fun C hC => ?_)
  have hN := rl_N hC
  refine v_aload_n K dX4_add_0 rfl ?_
  refine v_get K 0 rfl hasF_c rfl iX4 2 (by decide) rfl (by decide +kernel) rfl dX4_add_1 ?_
  refine v_callVi K [2] (c_X3_isFull (XI X) (XB X) _ _ _ _ ) rfl gX4_add_X3_isFull rfl rfl hd_X3_isFull ⟨rfl, rfl⟩ ⟨by decide, by decide⟩ 2 rfl rowF rfl (by decide) (Nat.le_of_ble_eq_true rfl) ⟨Nat.zero_le _, Nat.zero_le _⟩ rfl dX4_add_4 ?_
  refine v_if_ne K 32 dX4_add_7 (by decide) (fun c7 => ?_) (fun c7 => ?_)
  · refine v_crows 0 _ rfl rfl hC rfl ?_
    refine v_ret K E dX4_add_32 ?_ rfl
    exact ⟨rfl, by unfold adLn; rw [if_neg (by have h := of_decide_eq_true (bI_1 c7); rw [lens_len] at h; omega)] <;> rfl⟩
  · replace c7 := bI_0 c7
    refine v_aload_n K dX4_add_10 rfl ?_
    refine v_get K 0 rfl hasF_c rfl iX4 2 (by decide) rfl (by decide +kernel) rfl dX4_add_11 ?_
    refine v_iconst K (0) dX4_add_14 (by decide) ?_
    refine v_callVv K [2] (c_X3_add (XI X) (XB X) _ _ _ _ _ ) rfl gX4_add_X3_add rfl rfl hd_X3_add ⟨rfl, rfl⟩ ⟨by decide, by decide⟩ 2 rfl rowF rfl (by decide) (Nat.le_of_ble_eq_true rfl) ⟨Nat.zero_le _, Nat.zero_le _⟩ rfl dX4_add_15 ?_
    refine v_aload_n K dX4_add_18 rfl ?_
    refine v_aload_n K dX4_add_19 rfl ?_
    refine v_get K 0 rfl hasF_c rfl iX4 2 (by decide) rfl (by decide +kernel) rfl dX4_add_20 ?_
    refine v_callVi K [2] (c_X3_size (XI X) (XB X) _ _ _ _ ) rfl gX4_add_X3_size rfl rfl hd_X3_size ⟨rfl, rfl⟩ ⟨by decide, by decide⟩ 2 rfl rowF rfl (by decide) (Nat.le_of_ble_eq_true rfl) ⟨Nat.zero_le _, Nat.zero_le _⟩ rfl dX4_add_23 ?_
    refine v_iconst K (1) dX4_add_26 (by decide) ?_
    refine v_isub K dX4_add_27 ?_
    have hm : L.length < most := by have h := of_decide_eq_false c7; rw [lens_len] at h; omega
    refine v_crows 0 (L ++ [[]]) rfl rfl (rl_add hC hm) (lens_add hm) ?_
    rw [lens_add hm, lens_len, List.length_append, List.length_singleton, sub1 (by omega), Nat.add_sub_cancel]
    refine v_aload_n K dX4_add_28 rfl ?_
    refine v_callVv K [0, 1] (c_X4_put (XI X) (XB X) _ _ _ _ _ _ _ _ _ _ _ _ _ ) rfl gX4_add_X4_put rfl rfl hd_X4_put ⟨rfl, rfl⟩ ⟨by decide, by decide⟩ 0 rfl rowsF rfl (by decide) (Nat.le_of_ble_eq_true rfl) ⟨Nat.zero_le _, Nat.zero_le _⟩ rfl dX4_add_29 ?_
    refine v_ret K E dX4_add_32 ?_ rfl
    exact ⟨rfl, by rw [← adLn_put hN hm] <;> rfl⟩

theorem hd_X4_putOne : yX4_putOne.cls = RX4 ∧ yX4_putOne.cls ≠ "java/lang/invoke/MethodHandle" ∧ yX4_putOne.cls ≠ "java/lang/invoke/VarHandle" ∧ (parseMethodDescriptor yX4_putOne.desc).map (fun d => d.parameters.length) = some 2 := by decide +kernel
set_option maxHeartbeats 4000000 in
set_option maxRecDepth 100000 in
theorem c_X4_putOne (cI cB : ClassId) (rs c ca l la most w : Nat) (L : List (List Int32)) (i v : Int32) (hw : 0 < w) : Ct cI cB yX4_putOne wsX4_putOne { frames := 2, cells := 0, slots := 0, locals := 41 } [.ref rs, .int i, .int v] [rowsM cI rs c ca l la most w L] (dn [rowsM cI rs c ca l la most w (poL L i v)]) := by
  refine ct_of (cc := cX4_putOne) (maxL := 3) (ret := none) (by decide) rfl (Nat.le_of_ble_eq_true rfl) [(0, .ref rs), (1, .int i), (2, .int v)] rfl ?_
  intro X hI hB K E
  subst hI
  subst hB
  have iX4 : ∀ w ∈ u_ws RX4 TX4 3, w ∈ wsX4_putOne := by decide +kernel
  refine v_rowsrl 0 rfl (fun hE => ?_)
  obtain ⟨C0, hC0⟩ := hE
  have hN := rl_N hC0
  refine v_aload_n K dX4_putOne_0 rfl ?_
  refine v_iload_n K dX4_putOne_1 rfl ?_
  refine v_callVi K [0] (c_X4_has (XI X) (XB X) _ _ _ _ _ _ _ _ _ ) rfl gX4_putOne_X4_has rfl rfl hd_X4_has ⟨rfl, rfl⟩ ⟨by decide, by decide⟩ 0 rfl rowsF rfl (by decide) (Nat.le_of_ble_eq_true rfl) ⟨Nat.zero_le _, Nat.zero_le _⟩ rfl dX4_putOne_2 ?_
  refine v_if_eq K 38 dX4_putOne_5 (by decide) (fun c5 => ?_) (fun c5 => ?_)
  · refine v_ret K E dX4_putOne_38 ?_ rfl
    exact ⟨rfl, by unfold poL; rw [if_neg (by rw [bI_0 c5]; exact Bool.false_ne_true)] <;> rfl⟩
  · refine v_aload_n K dX4_putOne_8 rfl ?_
    refine v_get K 0 rfl rowsF rfl iX4 0 (by decide) rfl (by decide +kernel) rfl dX4_putOne_9 ?_
    refine v_if_le K 38 dX4_putOne_12 (by decide) (fun c12 => ?_) (fun c12 => ?_)
    · exact absurd c12 (nI_nle hw (by have := hC0.1.2.1; omega))
    · have hL := bI_1 c5
      obtain ⟨I, hI, rfl⟩ := hasL_of hN hL
      refine v_orows 0 rfl (fun C hC => ?_)
      refine v_aload_n K dX4_putOne_15 rfl ?_
      refine v_get K 0 rfl hasF_c rfl iX4 2 (by decide) rfl (by decide +kernel) rfl dX4_putOne_16 ?_
      refine v_iload_n K dX4_putOne_19 rfl ?_
      refine v_iconst K (1) dX4_putOne_20 (by decide) ?_
      refine v_callVv K [2] (c_X3_set (XI X) (XB X) _ _ _ _ _ _ ) rfl gX4_putOne_X3_set rfl rfl hd_X3_set ⟨rfl, rfl⟩ ⟨by decide, by decide⟩ 2 rfl rowF rfl (by decide) (Nat.le_of_ble_eq_true rfl) ⟨Nat.zero_le _, Nat.zero_le _⟩ rfl dX4_putOne_21 ?_
      refine v_aload_n K dX4_putOne_24 rfl ?_
      refine v_get K 0 rfl hasF_c rfl iX4 1 (by decide) rfl (by decide +kernel) rfl dX4_putOne_25 ?_
      refine v_iload_n K dX4_putOne_28 rfl ?_
      refine v_aload_n K dX4_putOne_29 rfl ?_
      refine v_get K 0 rfl hasF_c rfl iX4 0 (by decide) rfl (by decide +kernel) rfl dX4_putOne_30 ?_
      refine v_imul K dX4_putOne_33 ?_
      refine v_iload_n K dX4_putOne_34 rfl ?_
      refine v_callVv K [1] (c_X3_set (XI X) (XB X) _ _ _ _ _ _ ) rfl gX4_putOne_X3_set rfl rfl hd_X3_set ⟨rfl, rfl⟩ ⟨by decide, by decide⟩ 1 rfl rowF rfl (by decide) (Nat.le_of_ble_eq_true rfl) ⟨Nat.zero_le _, Nat.zero_le _⟩ rfl dX4_putOne_35 ?_
      refine v_crows 0 (L.set I [v]) rfl rfl (by rw [show nI I * nI w = nI (I * w) from pk_mul I w, st_n (by have := mul_lt (Nat.lt_of_lt_of_le hI hC.2.2.1) hw; have := hC.1.2.2; omega)]; exact rl_one hC hI hw v) (by rw [← lens_set (by omega)]; rfl) ?_
      refine v_ret K E dX4_putOne_38 ?_ rfl
      exact ⟨rfl, by unfold poL; rw [if_pos hL, nI_clamp (by omega)] <;> rfl⟩

theorem hd_X4_copyTo : yX4_copyTo.cls = RX4 ∧ yX4_copyTo.cls ≠ "java/lang/invoke/MethodHandle" ∧ yX4_copyTo.cls ≠ "java/lang/invoke/VarHandle" ∧ (parseMethodDescriptor yX4_copyTo.desc).map (fun d => d.parameters.length) = some 2 := by decide +kernel
set_option maxHeartbeats 4000000 in
set_option maxRecDepth 100000 in
theorem c_X4_copyTo (cI cB : ClassId) (rs c ca l la most w : Nat) (L : List (List Int32)) (i : Int32) (r a cap : Nat) (xs : List Int32)  : Ct cI cB yX4_copyTo wsX4_copyTo { frames := 2, cells := 0, slots := 0, locals := 44 } [.ref rs, .int i, .ref r] [rowsM cI rs c ca l la most w L, rowM cI r a cap xs] (dn [rowsM cI rs c ca l la most w L, rowM cI r a cap (aaL cap [] (ln L i))]) := by
  refine ct_of (cc := cX4_copyTo) (maxL := 4) (ret := none) (by decide) rfl (Nat.le_of_ble_eq_true rfl) [(0, .ref rs), (1, .int i), (2, .ref r)] rfl ?_
  intro X hI hB K E
  subst hI
  subst hB
  have iX4 : ∀ w ∈ u_ws RX4 TX4 3, w ∈ wsX4_copyTo := by decide +kernel
  refine v_rowsrl 0 rfl (fun hE => ?_)
  obtain ⟨C0, hC0⟩ := hE
  have hN := rl_N hC0
  have hw := hC0.1.2.1
  have hY : (ln L i).length < 1000000000 := ln_len hC0
  have lp : ∀ k, k ≤ (ln L i).length → ∀ (x : Int32) (zs : List Int32), x = nI k → aaL cap zs ((ln L i).drop k) = aaL cap [] (ln L i) → V X 0 0 6 [(0, .ref rs), (1, .int i), (2, .ref r), (3, .int x)] [] [rowsM (XI X) rs c ca l la most w L, rowM (XI X) r a cap zs] := by
    refine loop_up (ln L i).length ?_
    intro k hk ih x zs hx hy
    subst hx
    refine v_iload_n K dX4_copyTo_6 rfl ?_
    refine v_orows 0 rfl (fun C hC => ?_)
    refine v_aload_n K dX4_copyTo_7 rfl ?_
    refine v_get K 0 rfl hasF_c rfl iX4 2 (by decide) rfl (by decide +kernel) rfl dX4_copyTo_8 ?_
    refine v_iload_n K dX4_copyTo_11 rfl ?_
    refine v_callVi K [2] (c_X3_get (XI X) (XB X) _ _ _ _ _ ) rfl gX4_copyTo_X3_get rfl rfl hd_X3_get ⟨rfl, rfl⟩ ⟨by decide, by decide⟩ 2 rfl rowF rfl (by decide) (Nat.le_of_ble_eq_true rfl) ⟨Nat.zero_le _, Nat.zero_le _⟩ rfl dX4_copyTo_12 ?_
    refine v_ic_ge K 34 dX4_copyTo_15 (by decide) (fun c15 => ?_) (fun c15 => ?_)
    · refine v_crows 0 _ rfl rfl hC rfl ?_
      refine v_ret K E dX4_copyTo_34 ?_ rfl
      exact ⟨rfl, by rw [← hy, cp_end hN hY hk c15, List.drop_length] <;> rfl⟩
    · refine v_crows 0 _ rfl rfl hC rfl ?_
      refine v_aload_n K dX4_copyTo_18 rfl ?_
      refine v_aload_n K dX4_copyTo_19 rfl ?_
      refine v_iload_n K dX4_copyTo_20 rfl ?_
      refine v_iload_n K dX4_copyTo_21 rfl ?_
      refine v_callVi K [0] (c_X4_get (XI X) (XB X) _ _ _ _ _ _ _ _ _ _ ) rfl gX4_copyTo_X4_get rfl rfl hd_X4_get ⟨rfl, rfl⟩ ⟨by decide, by decide⟩ 0 rfl rowsF rfl (by decide) (Nat.le_of_ble_eq_true rfl) ⟨Nat.zero_le _, Nat.zero_le _⟩ rfl dX4_copyTo_22 ?_
      have hlt := cp_lt hN hY hk c15
      rw [show gg L i (nI k) = gt (ln L i) (nI k) from rfl]
      refine v_callVv K [1] (c_X3_add (XI X) (XB X) _ _ _ _ _ ) rfl gX4_copyTo_X3_add rfl rfl hd_X3_add ⟨rfl, rfl⟩ ⟨by decide, by decide⟩ 1 rfl rowF rfl (by decide) (Nat.le_of_ble_eq_true rfl) ⟨Nat.zero_le _, Nat.zero_le _⟩ rfl dX4_copyTo_25 ?_
      refine v_iinc K dX4_copyTo_28 rfl (by decide) iinc_1 ?_
      refine v_goto K 6 dX4_copyTo_31 (by decide) ?_
      exact v_j (ih hlt _ _ (nI_1 k) (by rw [← hy]; exact (aaL_step hlt hY).symm)) rfl rfl rfl
  refine v_aload_n K dX4_copyTo_0 rfl ?_
  refine v_callVv K [1] (c_X3_clear (XI X) (XB X) _ _ _ _ ) rfl gX4_copyTo_X3_clear rfl rfl hd_X3_clear ⟨rfl, rfl⟩ ⟨by decide, by decide⟩ 1 rfl rowF rfl (by decide) (Nat.le_of_ble_eq_true rfl) ⟨Nat.zero_le _, Nat.zero_le _⟩ rfl dX4_copyTo_1 ?_
  refine v_iconst K (0) dX4_copyTo_4 (by decide) ?_
  refine v_istore_n K dX4_copyTo_5 (by decide) ?_
  exact v_j (lp 0 (Nat.zero_le _) 0 [] rfl rfl) rfl rfl rfl

theorem hd_X4_copyFrom : yX4_copyFrom.cls = RX4 ∧ yX4_copyFrom.cls ≠ "java/lang/invoke/MethodHandle" ∧ yX4_copyFrom.cls ≠ "java/lang/invoke/VarHandle" ∧ (parseMethodDescriptor yX4_copyFrom.desc).map (fun d => d.parameters.length) = some 1 := by decide +kernel
set_option maxHeartbeats 4000000 in
set_option maxRecDepth 100000 in
theorem c_X4_copyFrom (cI cB : ClassId) (rs c ca l la most w : Nat) (L : List (List Int32)) (rs2 c2 ca2 l2 la2 most2 : Nat) (L2 : List (List Int32))  : Ct cI cB yX4_copyFrom wsX4_copyFrom { frames := 3, cells := 0, slots := 0, locals := 64 } [.ref rs, .ref rs2] [rowsM cI rs c ca l la most w L, rowsM cI rs2 c2 ca2 l2 la2 most2 w L2] (dn [rowsM cI rs c ca l la most w (L2.take most), rowsM cI rs2 c2 ca2 l2 la2 most2 w L2]) := by
  refine ct_of (cc := cX4_copyFrom) (maxL := 3) (ret := none) (by decide) rfl (Nat.le_of_ble_eq_true rfl) [(0, .ref rs), (1, .ref rs2)] rfl ?_
  intro X hI hB K E
  subst hI
  subst hB
  have iX4 : ∀ w ∈ u_ws RX4 TX4 3, w ∈ wsX4_copyFrom := by decide +kernel
  refine v_orows 0 rfl (fun C hC => ?_)
  refine v_orows 3 rfl (fun C2 h2 => ?_)
  have hN := rl_N hC
  have hN2 := rl_N h2
  have hb := hC.1.2.2
  have hb2 := h2.1.2.2
  refine v_aload_n K dX4_copyFrom_0 rfl ?_
  refine v_get K 0 rfl hasF_c rfl iX4 2 (by decide) rfl (by decide +kernel) rfl dX4_copyFrom_1 ?_
  refine v_aload_n K dX4_copyFrom_4 rfl ?_
  refine v_get K 3 rfl hasF_c rfl iX4 2 (by decide) rfl (by decide +kernel) rfl dX4_copyFrom_5 ?_
  refine v_callVv K [2, 5] (c_X3_copyFrom (XI X) (XB X) _ _ _ _ _ _ _ _ ) rfl gX4_copyFrom_X3_copyFrom rfl rfl hd_X3_copyFrom ⟨rfl, rfl⟩ ⟨by decide, by decide⟩ 2 rfl rowF rfl (by decide) (Nat.le_of_ble_eq_true rfl) ⟨Nat.zero_le _, Nat.zero_le _⟩ rfl dX4_copyFrom_8 ?_
  refine v_iconst K (0) dX4_copyFrom_11 (by decide) ?_
  refine v_istore_n K dX4_copyFrom_12 (by decide) ?_
  have hT : (L2.take most).length * w ≤ most * w := Nat.mul_le_mul_right w (by rw [List.length_take]; omega)
  have hT2 : (L2.take most).length * w ≤ most2 * w := Nat.mul_le_mul_right w (by rw [List.length_take]; have := h2.2.2.1; omega)
  have lp : ∀ k, k ≤ (L2.take most).length * w → ∀ (x : Int32) (C1 : List Int32), x = nI k → C1.length = most * w → (∀ p, p < k → C1.getD p 0 = C2.getD p 0) → V X 0 0 13 [(0, .ref rs), (1, .ref rs2), (2, .int x)] [] [cM rs (.inr (4, [.int (nI w), .ref c, .ref l])), rowM (XI X) c ca (most * w) C1, rowM (XI X) l la most (lens (L2.take most)), cM rs2 (.inr (4, [.int (nI w), .ref c2, .ref l2])), rowM (XI X) c2 ca2 (most2 * w) C2, rowM (XI X) l2 la2 most2 (lens L2)] := by
    refine loop_up ((L2.take most).length * w) ?_
    intro k hk ih x C1 hx h1 hp
    subst hx
    refine v_iload_n K dX4_copyFrom_13 rfl ?_
    refine v_aload_n K dX4_copyFrom_14 rfl ?_
    refine v_get K 0 rfl hasF_c rfl iX4 2 (by decide) rfl (by decide +kernel) rfl dX4_copyFrom_15 ?_
    refine v_callVi K [2] (c_X3_size (XI X) (XB X) _ _ _ _ ) rfl gX4_copyFrom_X3_size rfl rfl hd_X3_size ⟨rfl, rfl⟩ ⟨by decide, by decide⟩ 2 rfl rowF rfl (by decide) (Nat.le_of_ble_eq_true rfl) ⟨Nat.zero_le _, Nat.zero_le _⟩ rfl dX4_copyFrom_18 ?_
    refine v_aload_n K dX4_copyFrom_21 rfl ?_
    refine v_get K 0 rfl hasF_c rfl iX4 0 (by decide) rfl (by decide +kernel) rfl dX4_copyFrom_22 ?_
    refine v_imul K dX4_copyFrom_25 ?_
    rw [lens_len, pk_mul]
    refine v_ic_ge K 51 dX4_copyFrom_26 (by decide) (fun c26 => ?_) (fun c26 => ?_)
    · refine v_crows 0 (L2.take most) rfl rfl (rl_copy hC h2 h1 (fun p hp2 => hp p (by rw [up_end rfl (by omega) hk c26]; exact hp2))) rfl ?_
      refine v_crows 1 L2 rfl rfl h2 rfl ?_
      refine v_ret K E dX4_copyFrom_51 ?_ rfl
      exact ⟨rfl, rfl⟩
    · have hlt := up_lt rfl (by omega) hk c26
      refine v_aload_n K dX4_copyFrom_29 rfl ?_
      refine v_get K 0 rfl hasF_c rfl iX4 1 (by decide) rfl (by decide +kernel) rfl dX4_copyFrom_30 ?_
      refine v_iload_n K dX4_copyFrom_33 rfl ?_
      refine v_aload_n K dX4_copyFrom_34 rfl ?_
      refine v_get K 3 rfl hasF_c rfl iX4 1 (by decide) rfl (by decide +kernel) rfl dX4_copyFrom_35 ?_
      refine v_iload_n K dX4_copyFrom_38 rfl ?_
      refine v_callVi K [4] (c_X3_get (XI X) (XB X) _ _ _ _ _ ) rfl gX4_copyFrom_X3_get rfl rfl hd_X3_get ⟨rfl, rfl⟩ ⟨by decide, by decide⟩ 4 rfl rowF rfl (by decide) (Nat.le_of_ble_eq_true rfl) ⟨Nat.zero_le _, Nat.zero_le _⟩ rfl dX4_copyFrom_39 ?_
      refine v_callVv K [1] (c_X3_set (XI X) (XB X) _ _ _ _ _ _ ) rfl gX4_copyFrom_X3_set rfl rfl hd_X3_set ⟨rfl, rfl⟩ ⟨by decide, by decide⟩ 1 rfl rowF rfl (by decide) (Nat.le_of_ble_eq_true rfl) ⟨Nat.zero_le _, Nat.zero_le _⟩ rfl dX4_copyFrom_42 ?_
      refine v_iinc K dX4_copyFrom_45 rfl (by decide) iinc_1 ?_
      refine v_goto K 13 dX4_copyFrom_48 (by decide) ?_
      exact v_j (ih hlt _ (C1.set k (C2.getD k (-5))) (nI_1 k) (by rw [List.length_set]; exact h1) (fun p hp2 => cp_set h1 h2.2.1 (by omega) (by omega) hp hp2)) rfl rfl (by rw [← st_n (xs := C1) (k := k) (by omega), ← gt_n (xs := C2) (k := k) (by omega)]; rfl)
  exact v_j (lp 0 (Nat.zero_le _) 0 C rfl hC.2.1 (fun p hp => absurd hp (Nat.not_lt_zero p))) rfl rfl (by rw [← lens_take]; rfl)

theorem hd_X4_clear : yX4_clear.cls = RX4 ∧ yX4_clear.cls ≠ "java/lang/invoke/MethodHandle" ∧ yX4_clear.cls ≠ "java/lang/invoke/VarHandle" ∧ (parseMethodDescriptor yX4_clear.desc).map (fun d => d.parameters.length) = some 0 := by decide +kernel
set_option maxHeartbeats 4000000 in
set_option maxRecDepth 100000 in
theorem c_X4_clear (cI cB : ClassId) (rs c ca l la most w : Nat) (L : List (List Int32))  : Ct cI cB yX4_clear wsX4_clear { frames := 1, cells := 0, slots := 0, locals := 20 } [.ref rs] [rowsM cI rs c ca l la most w L] (dn [rowsM cI rs c ca l la most w []]) := by
  refine ct_of (cc := cX4_clear) (maxL := 1) (ret := none) (by decide) rfl (Nat.le_of_ble_eq_true rfl) [(0, .ref rs)] rfl ?_
  intro X hI hB K E
  subst hI
  subst hB
  have iX4 : ∀ w ∈ u_ws RX4 TX4 3, w ∈ wsX4_clear := by decide +kernel
  refine v_orows 0 rfl (fun C hC => ?_)
  refine v_aload_n K dX4_clear_0 rfl ?_
  refine v_get K 0 rfl hasF_c rfl iX4 2 (by decide) rfl (by decide +kernel) rfl dX4_clear_1 ?_
  refine v_callVv K [2] (c_X3_clear (XI X) (XB X) _ _ _ _ ) rfl gX4_clear_X3_clear rfl rfl hd_X3_clear ⟨rfl, rfl⟩ ⟨by decide, by decide⟩ 2 rfl rowF rfl (by decide) (Nat.le_of_ble_eq_true rfl) ⟨Nat.zero_le _, Nat.zero_le _⟩ rfl dX4_clear_4 ?_
  refine v_crows 0 [] rfl rfl (rl_nil hC) rfl ?_
  refine v_ret K E dX4_clear_7 ?_ rfl
  exact ⟨rfl, rfl⟩

theorem hd_X4_isLike : yX4_isLike.cls = RX4 ∧ yX4_isLike.cls ≠ "java/lang/invoke/MethodHandle" ∧ yX4_isLike.cls ≠ "java/lang/invoke/VarHandle" ∧ (parseMethodDescriptor yX4_isLike.desc).map (fun d => d.parameters.length) = some 2 := by decide +kernel
set_option maxHeartbeats 4000000 in
set_option maxRecDepth 100000 in
theorem c_X4_isLike (cI cB : ClassId) (rs c ca l la most w : Nat) (L : List (List Int32)) (I : Nat) (r a cap : Nat) (xs : List Int32) (hI : I < L.length) : Ct cI cB yX4_isLike wsX4_isLike { frames := 2, cells := 0, slots := 0, locals := 44 } [.ref rs, .int (nI I), .ref r] [rowsM cI rs c ca l la most w L, rowM cI r a cap xs] (dv (bI (decide (L.getD I [] = xs))) [rowsM cI rs c ca l la most w L, rowM cI r a cap xs]) := by
  refine ct_of (cc := cX4_isLike) (maxL := 4) (ret := (some .boolean)) (by decide) rfl (Nat.le_of_ble_eq_true rfl) [(0, .ref rs), (1, .int (nI I)), (2, .ref r)] rfl ?_
  intro X hI hB K E
  subst hI
  subst hB
  have iX4 : ∀ w ∈ u_ws RX4 TX4 3, w ∈ wsX4_isLike := by decide +kernel
  refine v_rowlen 1 rfl (fun hX => ?_)
  refine v_orows 0 rfl (fun C hC => ?_)
  have hN := rl_N hC
  have hl := Nat.lt_of_le_of_lt (rl_len (k := I) hC) hC.1.2.1
  refine v_aload_n K dX4_isLike_0 rfl ?_
  refine v_get K 0 rfl hasF_c rfl iX4 2 (by decide) rfl (by decide +kernel) rfl dX4_isLike_1 ?_
  refine v_iload_n K dX4_isLike_4 rfl ?_
  refine v_callVi K [2] (c_X3_get (XI X) (XB X) _ _ _ _ _ ) rfl gX4_isLike_X3_get rfl rfl hd_X3_get ⟨rfl, rfl⟩ ⟨by decide, by decide⟩ 2 rfl rowF rfl (by decide) (Nat.le_of_ble_eq_true rfl) ⟨Nat.zero_le _, Nat.zero_le _⟩ rfl dX4_isLike_5 ?_
  rw [gl_n hI hN]
  refine v_aload_n K dX4_isLike_8 rfl ?_
  refine v_callVi K [3] (c_X3_size (XI X) (XB X) _ _ _ _ ) rfl gX4_isLike_X3_size rfl rfl hd_X3_size ⟨rfl, rfl⟩ ⟨by decide, by decide⟩ 3 rfl rowF rfl (by decide) (Nat.le_of_ble_eq_true rfl) ⟨Nat.zero_le _, Nat.zero_le _⟩ rfl dX4_isLike_9 ?_
  refine v_ic_eq K 17 dX4_isLike_12 (by decide) (fun c12 => ?_) (fun c12 => ?_)
  · refine v_crows 0 _ rfl rfl hC rfl ?_
    refine v_iconst K (0) dX4_isLike_17 (by decide) ?_
    refine v_istore_n K dX4_isLike_18 (by decide) ?_
    have he := like_len hl hX c12
    have lp : ∀ k, k ≤ xs.length → ∀ (x : Int32), x = nI k → (∀ j, j < k → (L.getD I []).getD j (-5) = xs.getD j (-5)) → V X 0 0 19 [(0, .ref rs), (1, .int (nI I)), (2, .ref r), (3, .int x)] [] [rowsM (XI X) rs c ca l la most w L, rowM (XI X) r a cap xs] := by
      refine loop_up xs.length ?_
      intro k hk ih x hx hp
      subst hx
      refine v_iload_n K dX4_isLike_19 rfl ?_
      refine v_aload_n K dX4_isLike_20 rfl ?_
      refine v_callVi K [1] (c_X3_size (XI X) (XB X) _ _ _ _ ) rfl gX4_isLike_X3_size rfl rfl hd_X3_size ⟨rfl, rfl⟩ ⟨by decide, by decide⟩ 1 rfl rowF rfl (by decide) (Nat.le_of_ble_eq_true rfl) ⟨Nat.zero_le _, Nat.zero_le _⟩ rfl dX4_isLike_21 ?_
      refine v_ic_ge K 49 dX4_isLike_24 (by decide) (fun c24 => ?_) (fun c24 => ?_)
      · refine v_iconst K (1) dX4_isLike_49 (by decide) ?_
        refine v_zret K E dX4_isLike_50 (by first | exact Or.inl rfl | exact Or.inr rfl) ?_ rfl
        exact ⟨by rw [like_1 he (fun j hj => hp j (by rw [up_end rfl hX hk c24]; exact hj))], rfl⟩
      · have hlt := up_lt rfl hX hk c24
        refine v_aload_n K dX4_isLike_27 rfl ?_
        refine v_iload_n K dX4_isLike_28 rfl ?_
        refine v_iload_n K dX4_isLike_29 rfl ?_
        refine v_callVi K [0] (c_X4_get (XI X) (XB X) _ _ _ _ _ _ _ _ _ _ ) rfl gX4_isLike_X4_get rfl rfl hd_X4_get ⟨rfl, rfl⟩ ⟨by decide, by decide⟩ 0 rfl rowsF rfl (by decide) (Nat.le_of_ble_eq_true rfl) ⟨Nat.zero_le _, Nat.zero_le _⟩ rfl dX4_isLike_30 ?_
        refine v_aload_n K dX4_isLike_33 rfl ?_
        refine v_iload_n K dX4_isLike_34 rfl ?_
        refine v_callVi K [1] (c_X3_get (XI X) (XB X) _ _ _ _ _ ) rfl gX4_isLike_X3_get rfl rfl hd_X3_get ⟨rfl, rfl⟩ ⟨by decide, by decide⟩ 1 rfl rowF rfl (by decide) (Nat.le_of_ble_eq_true rfl) ⟨Nat.zero_le _, Nat.zero_le _⟩ rfl dX4_isLike_35 ?_
        rw [gg_n hI hN (by omega), gt_n (by omega)]
        refine v_ic_eq K 43 dX4_isLike_38 (by decide) (fun c38 => ?_) (fun c38 => ?_)
        · refine v_iinc K dX4_isLike_43 rfl (by decide) iinc_1 ?_
          refine v_goto K 19 dX4_isLike_46 (by decide) ?_
          exact v_j (ih hlt _ (nI_1 k) (fun j hj => (Nat.lt_or_ge j k).elim (hp j) (fun h => by rw [show j = k by omega]; exact c38))) rfl rfl rfl
        · refine v_iconst K (0) dX4_isLike_41 (by decide) ?_
          refine v_zret K E dX4_isLike_42 (by first | exact Or.inl rfl | exact Or.inr rfl) ?_ rfl
          exact ⟨by rw [like_ne c38], rfl⟩
    exact v_j (lp 0 (Nat.zero_le _) 0 rfl (fun j hj => absurd hj (Nat.not_lt_zero j))) rfl rfl rfl
  · refine v_iconst K (0) dX4_isLike_15 (by decide) ?_
    refine v_crows 0 _ rfl rfl hC rfl ?_
    refine v_zret K E dX4_isLike_16 (by first | exact Or.inl rfl | exact Or.inr rfl) ?_ rfl
    exact ⟨by rw [like_0 hl hX c12], rfl⟩

theorem hd_X4_isLike_ : yX4_isLike_.cls = RX4 ∧ yX4_isLike_.cls ≠ "java/lang/invoke/MethodHandle" ∧ yX4_isLike_.cls ≠ "java/lang/invoke/VarHandle" ∧ (parseMethodDescriptor yX4_isLike_.desc).map (fun d => d.parameters.length) = some 3 := by decide +kernel
set_option maxHeartbeats 4000000 in
set_option maxRecDepth 100000 in
theorem c_X4_isLike_same (cI cB : ClassId) (rs c ca l la most w : Nat) (L : List (List Int32)) (I J : Nat) (hI : I < L.length) (hJ : J < L.length) : Ct cI cB yX4_isLike_ wsX4_isLike_ { frames := 2, cells := 0, slots := 0, locals := 44 } [.ref rs, .int (nI I), .ref rs, .int (nI J)] [rowsM cI rs c ca l la most w L] (dv (bI (decide (L.getD I [] = L.getD J []))) [rowsM cI rs c ca l la most w L]) := by
  refine ct_of (cc := cX4_isLike_) (maxL := 5) (ret := (some .boolean)) (by decide) rfl (Nat.le_of_ble_eq_true rfl) [(0, .ref rs), (1, .int (nI I)), (2, .ref rs), (3, .int (nI J))] rfl ?_
  intro X hI hB K E
  subst hI
  subst hB
  have iX4 : ∀ w ∈ u_ws RX4 TX4 3, w ∈ wsX4_isLike_ := by decide +kernel
  refine v_orows 0 rfl (fun C hC => ?_)
  have hN := rl_N hC
  have hl := Nat.lt_of_le_of_lt (rl_len (k := I) hC) hC.1.2.1
  have hN2 := hN
  have hl2 := Nat.lt_of_le_of_lt (rl_len (k := J) hC) hC.1.2.1
  refine v_aload_n K dX4_isLike__0 rfl ?_
  refine v_get K 0 rfl hasF_c rfl iX4 2 (by decide) rfl (by decide +kernel) rfl dX4_isLike__1 ?_
  refine v_iload_n K dX4_isLike__4 rfl ?_
  refine v_callVi K [2] (c_X3_get (XI X) (XB X) _ _ _ _ _ ) rfl gX4_isLike__X3_get rfl rfl hd_X3_get ⟨rfl, rfl⟩ ⟨by decide, by decide⟩ 2 rfl rowF rfl (by decide) (Nat.le_of_ble_eq_true rfl) ⟨Nat.zero_le _, Nat.zero_le _⟩ rfl dX4_isLike__5 ?_
  refine v_aload_n K dX4_isLike__8 rfl ?_
  refine v_get K 0 rfl hasF_c rfl iX4 2 (by decide) rfl (by decide +kernel) rfl dX4_isLike__9 ?_
  refine v_iload_n K dX4_isLike__12 rfl ?_
  refine v_callVi K [2] (c_X3_get (XI X) (XB X) _ _ _ _ _ ) rfl gX4_isLike__X3_get rfl rfl hd_X3_get ⟨rfl, rfl⟩ ⟨by decide, by decide⟩ 2 rfl rowF rfl (by decide) (Nat.le_of_ble_eq_true rfl) ⟨Nat.zero_le _, Nat.zero_le _⟩ rfl dX4_isLike__13 ?_
  rw [gl_n hI hN, gl_n hJ hN2]
  refine v_ic_eq K 21 dX4_isLike__16 (by decide) (fun c16 => ?_) (fun c16 => ?_)
  · refine v_crows 0 _ rfl rfl hC rfl ?_
    refine v_iconst K (0) dX4_isLike__21 (by decide) ?_
    refine v_istore K dX4_isLike__22 (by decide) ?_
    have he := like_len hl hl2 c16
    have lp : ∀ k, k ≤ (L.getD I []).length → ∀ (x : Int32), x = nI k → (∀ j, j < k → (L.getD I []).getD j (-5) = (L.getD J []).getD j (-5)) → V X 0 0 24 [(0, .ref rs), (1, .int (nI I)), (2, .ref rs), (3, .int (nI J)), (4, .int x)] [] [rowsM (XI X) rs c ca l la most w L] := by
      refine loop_up (L.getD I []).length ?_
      intro k hk ih x hx hp
      subst hx
      refine v_iload K dX4_isLike__24 rfl ?_
      refine v_orows 0 rfl (fun C3 hC3 => ?_)
      refine v_aload_n K dX4_isLike__26 rfl ?_
      refine v_get K 0 rfl hasF_c rfl iX4 2 (by decide) rfl (by decide +kernel) rfl dX4_isLike__27 ?_
      refine v_iload_n K dX4_isLike__30 rfl ?_
      refine v_callVi K [2] (c_X3_get (XI X) (XB X) _ _ _ _ _ ) rfl gX4_isLike__X3_get rfl rfl hd_X3_get ⟨rfl, rfl⟩ ⟨by decide, by decide⟩ 2 rfl rowF rfl (by decide) (Nat.le_of_ble_eq_true rfl) ⟨Nat.zero_le _, Nat.zero_le _⟩ rfl dX4_isLike__31 ?_
      refine v_crows 0 _ rfl rfl hC3 rfl ?_
      rw [gl_n hI hN]
      refine v_ic_ge K 62 dX4_isLike__34 (by decide) (fun c34 => ?_) (fun c34 => ?_)
      · refine v_iconst K (1) dX4_isLike__62 (by decide) ?_
        refine v_zret K E dX4_isLike__63 (by first | exact Or.inl rfl | exact Or.inr rfl) ?_ rfl
        exact ⟨by rw [like_1 he (fun j hj => hp j (by rw [up_end rfl hl hk c34, he]; exact hj))], rfl⟩
      · have hlt := up_lt rfl hl hk c34
        refine v_aload_n K dX4_isLike__37 rfl ?_
        refine v_iload_n K dX4_isLike__38 rfl ?_
        refine v_iload K dX4_isLike__39 rfl ?_
        refine v_callVi K [0] (c_X4_get (XI X) (XB X) _ _ _ _ _ _ _ _ _ _ ) rfl gX4_isLike__X4_get rfl rfl hd_X4_get ⟨rfl, rfl⟩ ⟨by decide, by decide⟩ 0 rfl rowsF rfl (by decide) (Nat.le_of_ble_eq_true rfl) ⟨Nat.zero_le _, Nat.zero_le _⟩ rfl dX4_isLike__41 ?_
        refine v_aload_n K dX4_isLike__44 rfl ?_
        refine v_iload_n K dX4_isLike__45 rfl ?_
        refine v_iload K dX4_isLike__46 rfl ?_
        refine v_callVi K [0] (c_X4_get (XI X) (XB X) _ _ _ _ _ _ _ _ _ _ ) rfl gX4_isLike__X4_get rfl rfl hd_X4_get ⟨rfl, rfl⟩ ⟨by decide, by decide⟩ 0 rfl rowsF rfl (by decide) (Nat.le_of_ble_eq_true rfl) ⟨Nat.zero_le _, Nat.zero_le _⟩ rfl dX4_isLike__48 ?_
        rw [gg_n hI hN (by omega), gg_n hJ hN2 (by omega)]
        refine v_ic_eq K 56 dX4_isLike__51 (by decide) (fun c51 => ?_) (fun c51 => ?_)
        · refine v_iinc K dX4_isLike__56 rfl (by decide) iinc_1 ?_
          refine v_goto K 24 dX4_isLike__59 (by decide) ?_
          exact v_j (ih hlt _ (nI_1 k) (fun j hj => (Nat.lt_or_ge j k).elim (hp j) (fun h => by rw [show j = k by omega]; exact c51))) rfl rfl rfl
        · refine v_iconst K (0) dX4_isLike__54 (by decide) ?_
          refine v_zret K E dX4_isLike__55 (by first | exact Or.inl rfl | exact Or.inr rfl) ?_ rfl
          exact ⟨by rw [like_ne c51], rfl⟩
    exact v_j (lp 0 (Nat.zero_le _) 0 rfl (fun j hj => absurd hj (Nat.not_lt_zero j))) rfl rfl rfl
  · refine v_iconst K (0) dX4_isLike__19 (by decide) ?_
    refine v_crows 0 _ rfl rfl hC rfl ?_
    refine v_zret K E dX4_isLike__20 (by first | exact Or.inl rfl | exact Or.inr rfl) ?_ rfl
    exact ⟨by rw [like_0 hl hl2 c16], rfl⟩

set_option maxHeartbeats 4000000 in
set_option maxRecDepth 100000 in
theorem c_X4_isLike_ (cI cB : ClassId) (rs c ca l la most w : Nat) (L : List (List Int32)) (I : Nat) (rs2 c2 ca2 l2 la2 most2 w2 : Nat) (L2 : List (List Int32)) (J : Nat) (hI : I < L.length) (hJ : J < L2.length) : Ct cI cB yX4_isLike_ wsX4_isLike_ { frames := 2, cells := 0, slots := 0, locals := 44 } [.ref rs, .int (nI I), .ref rs2, .int (nI J)] [rowsM cI rs c ca l la most w L, rowsM cI rs2 c2 ca2 l2 la2 most2 w2 L2] (dv (bI (decide (L.getD I [] = L2.getD J []))) [rowsM cI rs c ca l la most w L, rowsM cI rs2 c2 ca2 l2 la2 most2 w2 L2]) := by
  refine ct_of (cc := cX4_isLike_) (maxL := 5) (ret := (some .boolean)) (by decide) rfl (Nat.le_of_ble_eq_true rfl) [(0, .ref rs), (1, .int (nI I)), (2, .ref rs2), (3, .int (nI J))] rfl ?_
  intro X hI hB K E
  subst hI
  subst hB
  have iX4 : ∀ w ∈ u_ws RX4 TX4 3, w ∈ wsX4_isLike_ := by decide +kernel
  refine v_orows 0 rfl (fun C hC => ?_)
  refine v_orows 3 rfl (fun C2 hC2 => ?_)
  have hN := rl_N hC
  have hl := Nat.lt_of_le_of_lt (rl_len (k := I) hC) hC.1.2.1
  have hN2 := rl_N hC2
  have hl2 := Nat.lt_of_le_of_lt (rl_len (k := J) hC2) hC2.1.2.1
  refine v_aload_n K dX4_isLike__0 rfl ?_
  refine v_get K 0 rfl hasF_c rfl iX4 2 (by decide) rfl (by decide +kernel) rfl dX4_isLike__1 ?_
  refine v_iload_n K dX4_isLike__4 rfl ?_
  refine v_callVi K [2] (c_X3_get (XI X) (XB X) _ _ _ _ _ ) rfl gX4_isLike__X3_get rfl rfl hd_X3_get ⟨rfl, rfl⟩ ⟨by decide, by decide⟩ 2 rfl rowF rfl (by decide) (Nat.le_of_ble_eq_true rfl) ⟨Nat.zero_le _, Nat.zero_le _⟩ rfl dX4_isLike__5 ?_
  refine v_aload_n K dX4_isLike__8 rfl ?_
  refine v_get K 3 rfl hasF_c rfl iX4 2 (by decide) rfl (by decide +kernel) rfl dX4_isLike__9 ?_
  refine v_iload_n K dX4_isLike__12 rfl ?_
  refine v_callVi K [5] (c_X3_get (XI X) (XB X) _ _ _ _ _ ) rfl gX4_isLike__X3_get rfl rfl hd_X3_get ⟨rfl, rfl⟩ ⟨by decide, by decide⟩ 5 rfl rowF rfl (by decide) (Nat.le_of_ble_eq_true rfl) ⟨Nat.zero_le _, Nat.zero_le _⟩ rfl dX4_isLike__13 ?_
  rw [gl_n hI hN, gl_n hJ hN2]
  refine v_ic_eq K 21 dX4_isLike__16 (by decide) (fun c16 => ?_) (fun c16 => ?_)
  · refine v_crows 0 _ rfl rfl hC rfl ?_
    refine v_crows 1 _ rfl rfl hC2 rfl ?_
    refine v_iconst K (0) dX4_isLike__21 (by decide) ?_
    refine v_istore K dX4_isLike__22 (by decide) ?_
    have he := like_len hl hl2 c16
    have lp : ∀ k, k ≤ (L.getD I []).length → ∀ (x : Int32), x = nI k → (∀ j, j < k → (L.getD I []).getD j (-5) = (L2.getD J []).getD j (-5)) → V X 0 0 24 [(0, .ref rs), (1, .int (nI I)), (2, .ref rs2), (3, .int (nI J)), (4, .int x)] [] [rowsM (XI X) rs c ca l la most w L, rowsM (XI X) rs2 c2 ca2 l2 la2 most2 w2 L2] := by
      refine loop_up (L.getD I []).length ?_
      intro k hk ih x hx hp
      subst hx
      refine v_iload K dX4_isLike__24 rfl ?_
      refine v_orows 0 rfl (fun C3 hC3 => ?_)
      refine v_aload_n K dX4_isLike__26 rfl ?_
      refine v_get K 0 rfl hasF_c rfl iX4 2 (by decide) rfl (by decide +kernel) rfl dX4_isLike__27 ?_
      refine v_iload_n K dX4_isLike__30 rfl ?_
      refine v_callVi K [2] (c_X3_get (XI X) (XB X) _ _ _ _ _ ) rfl gX4_isLike__X3_get rfl rfl hd_X3_get ⟨rfl, rfl⟩ ⟨by decide, by decide⟩ 2 rfl rowF rfl (by decide) (Nat.le_of_ble_eq_true rfl) ⟨Nat.zero_le _, Nat.zero_le _⟩ rfl dX4_isLike__31 ?_
      refine v_crows 0 _ rfl rfl hC3 rfl ?_
      rw [gl_n hI hN]
      refine v_ic_ge K 62 dX4_isLike__34 (by decide) (fun c34 => ?_) (fun c34 => ?_)
      · refine v_iconst K (1) dX4_isLike__62 (by decide) ?_
        refine v_zret K E dX4_isLike__63 (by first | exact Or.inl rfl | exact Or.inr rfl) ?_ rfl
        exact ⟨by rw [like_1 he (fun j hj => hp j (by rw [up_end rfl hl hk c34, he]; exact hj))], rfl⟩
      · have hlt := up_lt rfl hl hk c34
        refine v_aload_n K dX4_isLike__37 rfl ?_
        refine v_iload_n K dX4_isLike__38 rfl ?_
        refine v_iload K dX4_isLike__39 rfl ?_
        refine v_callVi K [0] (c_X4_get (XI X) (XB X) _ _ _ _ _ _ _ _ _ _ ) rfl gX4_isLike__X4_get rfl rfl hd_X4_get ⟨rfl, rfl⟩ ⟨by decide, by decide⟩ 0 rfl rowsF rfl (by decide) (Nat.le_of_ble_eq_true rfl) ⟨Nat.zero_le _, Nat.zero_le _⟩ rfl dX4_isLike__41 ?_
        refine v_aload_n K dX4_isLike__44 rfl ?_
        refine v_iload_n K dX4_isLike__45 rfl ?_
        refine v_iload K dX4_isLike__46 rfl ?_
        refine v_callVi K [1] (c_X4_get (XI X) (XB X) _ _ _ _ _ _ _ _ _ _ ) rfl gX4_isLike__X4_get rfl rfl hd_X4_get ⟨rfl, rfl⟩ ⟨by decide, by decide⟩ 1 rfl rowsF rfl (by decide) (Nat.le_of_ble_eq_true rfl) ⟨Nat.zero_le _, Nat.zero_le _⟩ rfl dX4_isLike__48 ?_
        rw [gg_n hI hN (by omega), gg_n hJ hN2 (by omega)]
        refine v_ic_eq K 56 dX4_isLike__51 (by decide) (fun c51 => ?_) (fun c51 => ?_)
        · refine v_iinc K dX4_isLike__56 rfl (by decide) iinc_1 ?_
          refine v_goto K 24 dX4_isLike__59 (by decide) ?_
          exact v_j (ih hlt _ (nI_1 k) (fun j hj => (Nat.lt_or_ge j k).elim (hp j) (fun h => by rw [show j = k by omega]; exact c51))) rfl rfl rfl
        · refine v_iconst K (0) dX4_isLike__54 (by decide) ?_
          refine v_zret K E dX4_isLike__55 (by first | exact Or.inl rfl | exact Or.inr rfl) ?_ rfl
          exact ⟨by rw [like_ne c51], rfl⟩
    exact v_j (lp 0 (Nat.zero_le _) 0 rfl (fun j hj => absurd hj (Nat.not_lt_zero j))) rfl rfl rfl
  · refine v_iconst K (0) dX4_isLike__19 (by decide) ?_
    refine v_crows 0 _ rfl rfl hC rfl ?_
    refine v_crows 1 _ rfl rfl hC2 rfl ?_
    refine v_zret K E dX4_isLike__20 (by first | exact Or.inl rfl | exact Or.inr rfl) ?_ rfl
    exact ⟨by rw [like_0 hl hl2 c16], rfl⟩

theorem hd_X4_find : yX4_find.cls = RX4 ∧ yX4_find.cls ≠ "java/lang/invoke/MethodHandle" ∧ yX4_find.cls ≠ "java/lang/invoke/VarHandle" ∧ (parseMethodDescriptor yX4_find.desc).map (fun d => d.parameters.length) = some 1 := by decide +kernel
set_option maxHeartbeats 4000000 in
set_option maxRecDepth 100000 in
theorem c_X4_find (cI cB : ClassId) (rs c ca l la most w : Nat) (L : List (List Int32)) (r a cap : Nat) (xs : List Int32)  : Ct cI cB yX4_find wsX4_find { frames := 3, cells := 0, slots := 0, locals := 67 } [.ref rs, .ref r] [rowsM cI rs c ca l la most w L, rowM cI r a cap xs] (dv (opI (fdo xs L 0)) [rowsM cI rs c ca l la most w L, rowM cI r a cap xs]) := by
  refine ct_of (cc := cX4_find) (maxL := 3) (ret := (some .int)) (by decide) rfl (Nat.le_of_ble_eq_true rfl) [(0, .ref rs), (1, .ref r)] rfl ?_
  intro X hI hB K E
  subst hI
  subst hB
  have iX4 : ∀ w ∈ u_ws RX4 TX4 3, w ∈ wsX4_find := by decide +kernel
  refine v_rowsrl 0 rfl (fun hE => ?_)
  obtain ⟨C0, hC0⟩ := hE
  have hN := rl_N hC0
  have lp : ∀ k, k ≤ L.length → ∀ (x : Int32), x = nI k → fdo xs (L.drop k) k = fdo xs L 0 → V X 0 0 2 [(0, .ref rs), (1, .ref r), (2, .int x)] [] [rowsM (XI X) rs c ca l la most w L, rowM (XI X) r a cap xs] := by
    refine loop_up L.length ?_
    intro k hk ih x hx hp
    subst hx
    refine v_iload_n K dX4_find_2 rfl ?_
    refine v_orows 0 rfl (fun C hC => ?_)
    refine v_aload_n K dX4_find_3 rfl ?_
    refine v_get K 0 rfl hasF_c rfl iX4 2 (by decide) rfl (by decide +kernel) rfl dX4_find_4 ?_
    refine v_callVi K [2] (c_X3_size (XI X) (XB X) _ _ _ _ ) rfl gX4_find_X3_size rfl rfl hd_X3_size ⟨rfl, rfl⟩ ⟨by decide, by decide⟩ 2 rfl rowF rfl (by decide) (Nat.le_of_ble_eq_true rfl) ⟨Nat.zero_le _, Nat.zero_le _⟩ rfl dX4_find_7 ?_
    refine v_ic_ge K 30 dX4_find_10 (by decide) (fun c10 => ?_) (fun c10 => ?_)
    · refine v_crows 0 _ rfl rfl hC rfl ?_
      rw [lens_len] at c10
      refine v_bipush K (-5) dX4_find_30 (by decide) ?_
      refine v_iret K E dX4_find_32 ?_ rfl
      exact ⟨by rw [← hp, up_end rfl hN hk c10, List.drop_length] <;> rfl, rfl⟩
    · refine v_crows 0 _ rfl rfl hC rfl ?_
      rw [lens_len] at c10
      have hlt := up_lt rfl hN hk c10
      refine v_aload_n K dX4_find_13 rfl ?_
      refine v_iload_n K dX4_find_14 rfl ?_
      refine v_aload_n K dX4_find_15 rfl ?_
      refine v_callVi K [0, 1] (c_X4_isLike (XI X) (XB X) _ _ _ _ _ _ _ _ _ _ _ _ _ ?hc16_0) rfl gX4_find_X4_isLike rfl rfl hd_X4_isLike ⟨rfl, rfl⟩ ⟨by decide, by decide⟩ 0 rfl rowsF rfl (by decide) (Nat.le_of_ble_eq_true rfl) ⟨Nat.zero_le _, Nat.zero_le _⟩ rfl dX4_find_16 ?_
      case hc16_0 => exact hlt
      refine v_if_eq K 24 dX4_find_19 (by decide) (fun c19 => ?_) (fun c19 => ?_)
      · refine v_iinc K dX4_find_24 rfl (by decide) iinc_1 ?_
        refine v_goto K 2 dX4_find_27 (by decide) ?_
        exact v_j (ih hlt _ (nI_1 k) (by rw [← hp, fdo_step hlt (of_decide_eq_false (bI_0 c19))])) rfl rfl rfl
      · refine v_iload_n K dX4_find_22 rfl ?_
        refine v_iret K E dX4_find_23 ?_ rfl
        exact ⟨by rw [← hp, fdo_hit hlt (of_decide_eq_true (bI_1 c19))] <;> rfl, rfl⟩
  refine v_iconst K (0) dX4_find_0 (by decide) ?_
  refine v_istore_n K dX4_find_1 (by decide) ?_
  exact v_j (lp 0 (Nat.zero_le _) 0 rfl rfl) rfl rfl rfl

theorem hd_X4_lowestLike : yX4_lowestLike.cls = RX4 ∧ yX4_lowestLike.cls ≠ "java/lang/invoke/MethodHandle" ∧ yX4_lowestLike.cls ≠ "java/lang/invoke/VarHandle" ∧ (parseMethodDescriptor yX4_lowestLike.desc).map (fun d => d.parameters.length) = some 1 := by decide +kernel
set_option maxHeartbeats 4000000 in
set_option maxRecDepth 100000 in
theorem c_X4_lowestLike (cI cB : ClassId) (rs c ca l la most w : Nat) (L : List (List Int32)) (I : Nat) (hI : I < L.length) : Ct cI cB yX4_lowestLike wsX4_lowestLike { frames := 3, cells := 0, slots := 0, locals := 68 } [.ref rs, .int (nI I)] [rowsM cI rs c ca l la most w L] (dv (opI (fdo (L.getD I []) L 0)) [rowsM cI rs c ca l la most w L]) := by
  refine ct_of (cc := cX4_lowestLike) (maxL := 3) (ret := (some .int)) (by decide) rfl (Nat.le_of_ble_eq_true rfl) [(0, .ref rs), (1, .int (nI I))] rfl ?_
  intro X hI hB K E
  subst hI
  subst hB
  refine v_rowsrl 0 rfl (fun hE => ?_)
  obtain ⟨C0, hC0⟩ := hE
  have hN := rl_N hC0
  have lp : ∀ k, k ≤ I → ∀ (x : Int32), x = nI k → fdo (L.getD I []) (L.drop k) k = fdo (L.getD I []) L 0 → V X 0 0 2 [(0, .ref rs), (1, .int (nI I)), (2, .int x)] [] [rowsM (XI X) rs c ca l la most w L] := by
    refine loop_up I ?_
    intro k hk ih x hx hp
    subst hx
    refine v_iload_n K dX4_lowestLike_2 rfl ?_
    refine v_iload_n K dX4_lowestLike_3 rfl ?_
    refine v_ic_ge K 25 dX4_lowestLike_4 (by decide) (fun c4 => ?_) (fun c4 => ?_)
    · refine v_iload_n K dX4_lowestLike_25 rfl ?_
      refine v_iret K E dX4_lowestLike_26 ?_ rfl
      exact ⟨by rw [← hp, up_end rfl (by omega) hk c4, fdo_hit hI rfl] <;> rfl, rfl⟩
    · have hlt := up_lt rfl (by omega) hk c4
      refine v_aload_n K dX4_lowestLike_7 rfl ?_
      refine v_iload_n K dX4_lowestLike_8 rfl ?_
      refine v_aload_n K dX4_lowestLike_9 rfl ?_
      refine v_iload_n K dX4_lowestLike_10 rfl ?_
      refine v_callVi K [0] (c_X4_isLike_same (XI X) (XB X) _ _ _ _ _ _ _ _ _ _ ?hc11_0 ?hc11_1) rfl gX4_lowestLike_X4_isLike_ rfl rfl hd_X4_isLike_ ⟨rfl, rfl⟩ ⟨by decide, by decide⟩ 0 rfl rowsF rfl (by decide) (Nat.le_of_ble_eq_true rfl) ⟨Nat.zero_le _, Nat.zero_le _⟩ rfl dX4_lowestLike_11 ?_
      case hc11_0 => omega
      case hc11_1 => exact hI
      refine v_if_eq K 19 dX4_lowestLike_14 (by decide) (fun c14 => ?_) (fun c14 => ?_)
      · refine v_iinc K dX4_lowestLike_19 rfl (by decide) iinc_1 ?_
        refine v_goto K 2 dX4_lowestLike_22 (by decide) ?_
        exact v_j (ih hlt _ (nI_1 k) (by rw [← hp, fdo_step (by omega) (of_decide_eq_false (bI_0 c14))])) rfl rfl rfl
      · refine v_iload_n K dX4_lowestLike_17 rfl ?_
        refine v_iret K E dX4_lowestLike_18 ?_ rfl
        exact ⟨by rw [← hp, fdo_hit (by omega) (of_decide_eq_true (bI_1 c14))] <;> rfl, rfl⟩
  refine v_iconst K (0) dX4_lowestLike_0 (by decide) ?_
  refine v_istore_n K dX4_lowestLike_1 (by decide) ?_
  exact v_j (lp 0 (Nat.zero_le _) 0 rfl rfl) rfl rfl rfl

theorem hd_X4_countLike : yX4_countLike.cls = RX4 ∧ yX4_countLike.cls ≠ "java/lang/invoke/MethodHandle" ∧ yX4_countLike.cls ≠ "java/lang/invoke/VarHandle" ∧ (parseMethodDescriptor yX4_countLike.desc).map (fun d => d.parameters.length) = some 1 := by decide +kernel
set_option maxHeartbeats 4000000 in
set_option maxRecDepth 100000 in
theorem c_X4_countLike (cI cB : ClassId) (rs c ca l la most w : Nat) (L : List (List Int32)) (I : Nat) (hI : I < L.length) : Ct cI cB yX4_countLike wsX4_countLike { frames := 3, cells := 0, slots := 0, locals := 68 } [.ref rs, .int (nI I)] [rowsM cI rs c ca l la most w L] (dv (nI (cnt (L.getD I []) L)) [rowsM cI rs c ca l la most w L]) := by
  refine ct_of (cc := cX4_countLike) (maxL := 4) (ret := (some .int)) (by decide) rfl (Nat.le_of_ble_eq_true rfl) [(0, .ref rs), (1, .int (nI I))] rfl ?_
  intro X hI hB K E
  subst hI
  subst hB
  have iX4 : ∀ w ∈ u_ws RX4 TX4 3, w ∈ wsX4_countLike := by decide +kernel
  refine v_rowsrl 0 rfl (fun hE => ?_)
  obtain ⟨C0, hC0⟩ := hE
  have hN := rl_N hC0
  have lp : ∀ k, k ≤ L.length → ∀ (x : Int32) (n : Nat), x = nI k → n + cnt (L.getD I []) (L.drop k) = cnt (L.getD I []) L → V X 0 0 4 [(0, .ref rs), (1, .int (nI I)), (2, .int (nI n)), (3, .int x)] [] [rowsM (XI X) rs c ca l la most w L] := by
    refine loop_up L.length ?_
    intro k hk ih x n hx hp
    subst hx
    refine v_iload_n K dX4_countLike_4 rfl ?_
    refine v_orows 0 rfl (fun C hC => ?_)
    refine v_aload_n K dX4_countLike_5 rfl ?_
    refine v_get K 0 rfl hasF_c rfl iX4 2 (by decide) rfl (by decide +kernel) rfl dX4_countLike_6 ?_
    refine v_callVi K [2] (c_X3_size (XI X) (XB X) _ _ _ _ ) rfl gX4_countLike_X3_size rfl rfl hd_X3_size ⟨rfl, rfl⟩ ⟨by decide, by decide⟩ 2 rfl rowF rfl (by decide) (Nat.le_of_ble_eq_true rfl) ⟨Nat.zero_le _, Nat.zero_le _⟩ rfl dX4_countLike_9 ?_
    refine v_ic_ge K 34 dX4_countLike_12 (by decide) (fun c12 => ?_) (fun c12 => ?_)
    · refine v_crows 0 _ rfl rfl hC rfl ?_
      rw [lens_len] at c12
      refine v_iload_n K dX4_countLike_34 rfl ?_
      refine v_iret K E dX4_countLike_35 ?_ rfl
      exact ⟨by rw [← hp, up_end rfl hN hk c12, List.drop_length] <;> rfl, rfl⟩
    · refine v_crows 0 _ rfl rfl hC rfl ?_
      rw [lens_len] at c12
      have hlt := up_lt rfl hN hk c12
      refine v_aload_n K dX4_countLike_15 rfl ?_
      refine v_iload_n K dX4_countLike_16 rfl ?_
      refine v_aload_n K dX4_countLike_17 rfl ?_
      refine v_iload_n K dX4_countLike_18 rfl ?_
      refine v_callVi K [0] (c_X4_isLike_same (XI X) (XB X) _ _ _ _ _ _ _ _ _ _ ?hc19_0 ?hc19_1) rfl gX4_countLike_X4_isLike_ rfl rfl hd_X4_isLike_ ⟨rfl, rfl⟩ ⟨by decide, by decide⟩ 0 rfl rowsF rfl (by decide) (Nat.le_of_ble_eq_true rfl) ⟨Nat.zero_le _, Nat.zero_le _⟩ rfl dX4_countLike_19 ?_
      case hc19_0 => exact hlt
      case hc19_1 => exact hI
      refine v_if_eq K 28 dX4_countLike_22 (by decide) (fun c22 => ?_) (fun c22 => ?_)
      · refine v_iinc K dX4_countLike_28 rfl (by decide) iinc_1 ?_
        refine v_goto K 4 dX4_countLike_31 (by decide) ?_
        exact v_j (ih hlt _ n (nI_1 k) (by rw [← hp, cnt_step hlt (of_decide_eq_false (bI_0 c22))])) rfl rfl rfl
      · refine v_iinc K dX4_countLike_25 rfl (by decide) iinc_1 ?_
        refine v_iinc K dX4_countLike_28 rfl (by decide) iinc_1 ?_
        refine v_goto K 4 dX4_countLike_31 (by decide) ?_
        exact v_j (ih hlt _ (n + 1) (nI_1 k) (by rw [← hp, cnt_hit hlt (of_decide_eq_true (bI_1 c22))]; omega)) (by rw [← nI_1]; rfl) rfl rfl
  refine v_iconst K (0) dX4_countLike_0 (by decide) ?_
  refine v_istore_n K dX4_countLike_1 (by decide) ?_
  refine v_iconst K (0) dX4_countLike_2 (by decide) ?_
  refine v_istore_n K dX4_countLike_3 (by decide) ?_
  exact v_j (lp 0 (Nat.zero_le _) 0 0 rfl (Nat.zero_add _)) rfl rfl rfl

theorem hd_X4_swap : yX4_swap.cls = RX4 ∧ yX4_swap.cls ≠ "java/lang/invoke/MethodHandle" ∧ yX4_swap.cls ≠ "java/lang/invoke/VarHandle" ∧ (parseMethodDescriptor yX4_swap.desc).map (fun d => d.parameters.length) = some 2 := by decide +kernel
set_option maxHeartbeats 4000000 in
set_option maxRecDepth 100000 in
theorem c_X4_swap (cI cB : ClassId) (rs c ca l la most w : Nat) (L : List (List Int32)) (I J : Nat) (hI : I < L.length) (hJ : J < L.length) : Ct cI cB yX4_swap wsX4_swap { frames := 2, cells := 0, slots := 0, locals := 45 } [.ref rs, .int (nI I), .int (nI J)] [rowsM cI rs c ca l la most w L] (dn [rowsM cI rs c ca l la most w (swG [] L I J)]) := by
  refine ct_of (cc := cX4_swap) (maxL := 4) (ret := none) (by decide) rfl (Nat.le_of_ble_eq_true rfl) [(0, .ref rs), (1, .int (nI I)), (2, .int (nI J))] rfl ?_
  intro X hI hB K E
  subst hI
  subst hB
  have iX4 : ∀ w ∈ u_ws RX4 TX4 3, w ∈ wsX4_swap := by decide +kernel
  refine v_orows 0 rfl (fun C hC => ?_)
  have hN := rl_N hC
  have hw := hC.1.2.1
  have hb := hC.1.2.2
  have hI2 := Nat.lt_of_lt_of_le hI hC.2.2.1
  have hJ2 := Nat.lt_of_lt_of_le hJ hC.2.2.1
  have lp : ∀ k, k ≤ w → ∀ (x : Int32) (C1 : List Int32), x = nI k → prs most w I J k C C1 → V X 0 0 11 [(0, .ref rs), (1, .int (nI I)), (2, .int (nI J)), (3, .int x)] [] [cM rs (.inr (4, [.int (nI w), .ref c, .ref l])), rowM (XI X) c ca (most * w) C1, rowM (XI X) l la most (lens (swG [] L I J))] := by
    refine loop_up w ?_
    intro k hk ih x C1 hx hp
    subst hx
    refine v_iload_n K dX4_swap_11 rfl ?_
    refine v_aload_n K dX4_swap_12 rfl ?_
    refine v_get K 0 rfl hasF_c rfl iX4 0 (by decide) rfl (by decide +kernel) rfl dX4_swap_13 ?_
    refine v_ic_ge K 48 dX4_swap_16 (by decide) (fun c16 => ?_) (fun c16 => ?_)
    · refine v_crows 0 (swG [] L I J) rfl rfl (prs_end hC (by have h := hp; rw [up_end rfl hw hk c16] at h; exact h) hI hJ) rfl ?_
      refine v_ret K E dX4_swap_48 ?_ rfl
      exact ⟨rfl, rfl⟩
    · have hlt := up_lt rfl hw hk c16
      have m1 := mul_lt hI2 hlt
      have m2 := mul_lt hJ2 hlt
      have hl := hp.1
      refine v_aload_n K dX4_swap_19 rfl ?_
      refine v_get K 0 rfl hasF_c rfl iX4 1 (by decide) rfl (by decide +kernel) rfl dX4_swap_20 ?_
      refine v_iload_n K dX4_swap_23 rfl ?_
      refine v_aload_n K dX4_swap_24 rfl ?_
      refine v_get K 0 rfl hasF_c rfl iX4 0 (by decide) rfl (by decide +kernel) rfl dX4_swap_25 ?_
      refine v_imul K dX4_swap_28 ?_
      refine v_iload_n K dX4_swap_29 rfl ?_
      refine v_iadd K dX4_swap_30 ?_
      refine v_iload_n K dX4_swap_31 rfl ?_
      refine v_aload_n K dX4_swap_32 rfl ?_
      refine v_get K 0 rfl hasF_c rfl iX4 0 (by decide) rfl (by decide +kernel) rfl dX4_swap_33 ?_
      refine v_imul K dX4_swap_36 ?_
      refine v_iload_n K dX4_swap_37 rfl ?_
      refine v_iadd K dX4_swap_38 ?_
      rw [ix_n, ix_n]
      refine v_callVv K [1] (c_X3_swap (XI X) (XB X) _ _ _ _ _ _ ) rfl gX4_swap_X3_swap rfl rfl hd_X3_swap ⟨rfl, rfl⟩ ⟨by decide, by decide⟩ 1 rfl rowF rfl (by decide) (Nat.le_of_ble_eq_true rfl) ⟨Nat.zero_le _, Nat.zero_le _⟩ rfl dX4_swap_39 ?_
      refine v_iinc K dX4_swap_42 rfl (by decide) iinc_1 ?_
      refine v_goto K 11 dX4_swap_45 (by decide) ?_
      exact v_j (ih hlt _ (swG 0 C1 (I * w + k) (J * w + k)) (nI_1 k) (prs_step hp hlt hI2 hJ2)) rfl rfl (by rw [← sw_n (by omega) (by omega) (by omega)]; rfl)
  refine v_aload_n K dX4_swap_0 rfl ?_
  refine v_get K 0 rfl hasF_c rfl iX4 2 (by decide) rfl (by decide +kernel) rfl dX4_swap_1 ?_
  refine v_iload_n K dX4_swap_4 rfl ?_
  refine v_iload_n K dX4_swap_5 rfl ?_
  refine v_callVv K [2] (c_X3_swap (XI X) (XB X) _ _ _ _ _ _ ) rfl gX4_swap_X3_swap rfl rfl hd_X3_swap ⟨rfl, rfl⟩ ⟨by decide, by decide⟩ 2 rfl rowF rfl (by decide) (Nat.le_of_ble_eq_true rfl) ⟨Nat.zero_le _, Nat.zero_le _⟩ rfl dX4_swap_6 ?_
  refine v_iconst K (0) dX4_swap_9 (by decide) ?_
  refine v_istore_n K dX4_swap_10 (by decide) ?_
  exact v_j (lp 0 (Nat.zero_le _) 0 C rfl (prs_0 hC.2.1)) rfl rfl (by rw [← lens_sw hI hJ hN]; rfl)

theorem hd_X4_move : yX4_move.cls = RX4 ∧ yX4_move.cls ≠ "java/lang/invoke/MethodHandle" ∧ yX4_move.cls ≠ "java/lang/invoke/VarHandle" ∧ (parseMethodDescriptor yX4_move.desc).map (fun d => d.parameters.length) = some 2 := by decide +kernel
set_option maxHeartbeats 4000000 in
set_option maxRecDepth 100000 in
theorem c_X4_move (cI cB : ClassId) (rs c ca l la most w : Nat) (L : List (List Int32)) (I J : Nat) (hI : I < L.length) (hJ : J < L.length) : Ct cI cB yX4_move wsX4_move { frames := 3, cells := 0, slots := 0, locals := 68 } [.ref rs, .int (nI I), .int (nI J)] [rowsM cI rs c ca l la most w L] (dn [rowsM cI rs c ca l la most w (mvG [] L I J)]) := by
  refine ct_of (cc := cX4_move) (maxL := 4) (ret := none) (by decide) rfl (Nat.le_of_ble_eq_true rfl) [(0, .ref rs), (1, .int (nI I)), (2, .int (nI J))] rfl ?_
  intro X hI hB K E
  subst hI
  subst hB
  refine v_rowsrl 0 rfl (fun hE => ?_)
  obtain ⟨C0, hC0⟩ := hE
  have hN := rl_N hC0
  have lp2 : ∀ k, k ≤ I → ∀ (x : Int32) (ys : List (List Int32)), (J ≤ k ∨ I ≤ J) → x = nI k → ys.length = L.length → mvDG [] (k - J) k ys = mvG [] L I J → V X 0 0 23 [(0, .ref rs), (2, .int (nI J)), (3, .int x)] [] [rowsM (XI X) rs c ca l la most w ys] := by
    refine loop_dn I ?_
    intro k hk ih x ys hJ2 hx hl hy
    subst hx
    refine v_iload_n K dX4_move_23 rfl ?_
    refine v_iload_n K dX4_move_24 rfl ?_
    refine v_ic_le K 42 dX4_move_25 (by decide) (fun c25 => ?_) (fun c25 => ?_)
    · refine v_ret K E dX4_move_42 ?_ rfl
      exact ⟨rfl, by rw [← hy, Nat.sub_eq_zero_of_le (dn_end rfl (by omega) (by omega) hk c25)]; rfl⟩
    · have hlt := dn_lt rfl (by omega) (by omega) hk c25
      obtain ⟨k, rfl⟩ : ∃ k2, k = k2 + 1 := ⟨k - 1, by omega⟩
      refine v_aload_n K dX4_move_28 rfl ?_
      refine v_iload_n K dX4_move_29 rfl ?_
      refine v_iload_n K dX4_move_30 rfl ?_
      refine v_iconst K (1) dX4_move_31 (by decide) ?_
      refine v_isub K dX4_move_32 ?_
      rw [dn_1 k]
      refine v_callVv K [0] (c_X4_swap (XI X) (XB X) _ _ _ _ _ _ _ _ _ _ ?hc33_0 ?hc33_1) rfl gX4_move_X4_swap rfl rfl hd_X4_swap ⟨rfl, rfl⟩ ⟨by decide, by decide⟩ 0 rfl rowsF rfl (by decide) (Nat.le_of_ble_eq_true rfl) ⟨Nat.zero_le _, Nat.zero_le _⟩ rfl dX4_move_33 ?_
      case hc33_0 => omega
      case hc33_1 => omega
      refine v_iinc K dX4_move_36 rfl (by decide) iinc_m1 ?_
      refine v_goto K 23 dX4_move_39 (by decide) ?_
      exact v_j (ih k rfl _ _ (by omega) (dn_1 k) (by rw [swG_len]; exact hl) (by rw [← hy, mvDG_step hlt])) rfl rfl rfl
  have lp : ∀ k, k ≤ max I J → ∀ (x : Int32) (ys : List (List Int32)), I ≤ k → x = nI k → ys.length = L.length → mvDG [] (I - J) I (mvUG [] (J - k) k ys) = mvG [] L I J → V X 0 0 2 [(0, .ref rs), (1, .int (nI I)), (2, .int (nI J)), (3, .int x)] [] [rowsM (XI X) rs c ca l la most w ys] := by
    refine loop_up (max I J) ?_
    intro k hk ih x ys hI2 hx hl hy
    subst hx
    refine v_iload_n K dX4_move_2 rfl ?_
    refine v_iload_n K dX4_move_3 rfl ?_
    refine v_ic_ge K 21 dX4_move_4 (by decide) (fun c4 => ?_) (fun c4 => ?_)
    · refine v_iload_n K dX4_move_21 rfl ?_
      refine v_istore_n K dX4_move_22 (by decide) ?_
      exact v_j (lp2 I (Nat.le_refl I) (nI I) ys (Nat.le_total J I) rfl hl (by rw [← hy, Nat.sub_eq_zero_of_le (mv_end rfl (by omega) (by omega) hk c4)]; rfl)) rfl rfl rfl
    · have hlt := mv_lt rfl (by omega) (by omega) hk c4
      refine v_aload_n K dX4_move_7 rfl ?_
      refine v_iload_n K dX4_move_8 rfl ?_
      refine v_iload_n K dX4_move_9 rfl ?_
      refine v_iconst K (1) dX4_move_10 (by decide) ?_
      refine v_iadd K dX4_move_11 ?_
      rw [nI_1 k]
      refine v_callVv K [0] (c_X4_swap (XI X) (XB X) _ _ _ _ _ _ _ _ _ _ ?hc12_0 ?hc12_1) rfl gX4_move_X4_swap rfl rfl hd_X4_swap ⟨rfl, rfl⟩ ⟨by decide, by decide⟩ 0 rfl rowsF rfl (by decide) (Nat.le_of_ble_eq_true rfl) ⟨Nat.zero_le _, Nat.zero_le _⟩ rfl dX4_move_12 ?_
      case hc12_0 => omega
      case hc12_1 => omega
      refine v_iinc K dX4_move_15 rfl (by decide) iinc_1 ?_
      refine v_goto K 2 dX4_move_18 (by decide) ?_
      exact v_j (ih (by omega) _ _ (by omega) (nI_1 k) (by rw [swG_len]; exact hl) (by rw [← hy, mvUG_step hlt])) rfl rfl rfl
  refine v_iload_n K dX4_move_0 rfl ?_
  refine v_istore_n K dX4_move_1 (by decide) ?_
  exact v_j (lp I (Nat.le_max_left I J) (nI I) L (Nat.le_refl I) rfl rfl rfl) rfl rfl rfl

theorem hd_X4_remove : yX4_remove.cls = RX4 ∧ yX4_remove.cls ≠ "java/lang/invoke/MethodHandle" ∧ yX4_remove.cls ≠ "java/lang/invoke/VarHandle" ∧ (parseMethodDescriptor yX4_remove.desc).map (fun d => d.parameters.length) = some 1 := by decide +kernel
set_option maxHeartbeats 4000000 in
set_option maxRecDepth 100000 in
theorem c_X4_remove (cI cB : ClassId) (rs c ca l la most w : Nat) (L : List (List Int32)) (I : Nat) (hI : I < L.length) : Ct cI cB yX4_remove wsX4_remove { frames := 4, cells := 0, slots := 0, locals := 91 } [.ref rs, .int (nI I)] [rowsM cI rs c ca l la most w L] (dn [rowsM cI rs c ca l la most w (rmG [] L I)]) := by
  refine ct_of (cc := cX4_remove) (maxL := 2) (ret := none) (by decide) rfl (Nat.le_of_ble_eq_true rfl) [(0, .ref rs), (1, .int (nI I))] rfl ?_
  intro X hI hB K E
  subst hI
  subst hB
  have iX4 : ∀ w ∈ u_ws RX4 TX4 3, w ∈ wsX4_remove := by decide +kernel
  refine v_rowsrl 0 rfl (fun hE => ?_)
  obtain ⟨C0, hC0⟩ := hE
  have hN := rl_N hC0
  refine v_aload_n K dX4_remove_0 rfl ?_
  refine v_iload_n K dX4_remove_1 rfl ?_
  refine v_callVi K [0] (c_X4_has (XI X) (XB X) _ _ _ _ _ _ _ _ _ ) rfl gX4_remove_X4_has rfl rfl hd_X4_has ⟨rfl, rfl⟩ ⟨by decide, by decide⟩ 0 rfl rowsF rfl (by decide) (Nat.le_of_ble_eq_true rfl) ⟨Nat.zero_le _, Nat.zero_le _⟩ rfl dX4_remove_2 ?_
  refine v_if_eq K 29 dX4_remove_5 (by decide) (fun c5 => ?_) (fun c5 => ?_)
  · exact absurd (bI_0 c5) (by rw [hasL_n (by omega), decide_eq_true hI]; decide)
  · refine v_aload_n K dX4_remove_8 rfl ?_
    refine v_iload_n K dX4_remove_9 rfl ?_
    refine v_aload_n K dX4_remove_10 rfl ?_
    refine v_orows 0 rfl (fun C hC => ?_)
    refine v_get K 0 rfl hasF_c rfl iX4 2 (by decide) rfl (by decide +kernel) rfl dX4_remove_11 ?_
    refine v_callVi K [2] (c_X3_size (XI X) (XB X) _ _ _ _ ) rfl gX4_remove_X3_size rfl rfl hd_X3_size ⟨rfl, rfl⟩ ⟨by decide, by decide⟩ 2 rfl rowF rfl (by decide) (Nat.le_of_ble_eq_true rfl) ⟨Nat.zero_le _, Nat.zero_le _⟩ rfl dX4_remove_14 ?_
    refine v_iconst K (1) dX4_remove_17 (by decide) ?_
    refine v_isub K dX4_remove_18 ?_
    refine v_crows 0 _ rfl rfl hC rfl ?_
    rw [lens_len, sub1 (by omega)]
    refine v_callVv K [0] (c_X4_move (XI X) (XB X) _ _ _ _ _ _ _ _ _ _ ?hc19_0 ?hc19_1) rfl gX4_remove_X4_move rfl rfl hd_X4_move ⟨rfl, rfl⟩ ⟨by decide, by decide⟩ 0 rfl rowsF rfl (by decide) (Nat.le_of_ble_eq_true rfl) ⟨Nat.zero_le _, Nat.zero_le _⟩ rfl dX4_remove_19 ?_
    case hc19_0 => exact hI
    case hc19_1 => omega
    refine v_orows 0 rfl (fun C2 hC2 => ?_)
    refine v_aload_n K dX4_remove_22 rfl ?_
    refine v_get K 0 rfl hasF_c rfl iX4 2 (by decide) rfl (by decide +kernel) rfl dX4_remove_23 ?_
    refine v_callVv K [2] (c_X3_dropLast (XI X) (XB X) _ _ _ _ ) rfl gX4_remove_X3_dropLast rfl rfl hd_X3_dropLast ⟨rfl, rfl⟩ ⟨by decide, by decide⟩ 2 rfl rowF rfl (by decide) (Nat.le_of_ble_eq_true rfl) ⟨Nat.zero_le _, Nat.zero_le _⟩ rfl dX4_remove_26 ?_
    refine v_crows 0 (mvG [] L I (L.length - 1)).dropLast rfl rfl (rl_drop hC2) (lens_drop _) ?_
    refine v_ret K E dX4_remove_29 ?_ rfl
    exact ⟨rfl, rfl⟩
