theorem hd_X3_get : yX3_get.cls = RX3 ∧ yX3_get.cls ≠ "java/lang/invoke/MethodHandle" ∧ yX3_get.cls ≠ "java/lang/invoke/VarHandle" ∧ (parseMethodDescriptor yX3_get.desc).map (fun d => d.parameters.length) = some 1 := by decide +kernel
set_option maxHeartbeats 4000000 in
set_option maxRecDepth 100000 in
theorem c_X3_get (cI cB : ClassId) (r a cap : Nat) (xs : List Int32) (i : Int32)  : Ct cI cB yX3_get wsX3_get { frames := 0, cells := 0, slots := 0, locals := 0 } [.ref r, .int i] [rowM cI r a cap xs] (dv (gt xs i) [rowM cI r a cap xs]) := by
  refine ct_of (cc := cX3_get) (maxL := 2) (ret := (some .int)) (by decide) rfl (Nat.le_of_ble_eq_true rfl) [(0, .ref r), (1, .int i)] rfl ?_
  intro X hI hB K E
  subst hI
  subst hB
  have iX3 : ∀ w ∈ u_ws RX3 TX3 2, w ∈ wsX3_get := by decide +kernel
  refine v_orow (fun f hf => ?_)
  refine v_iload_n K dX3_get_0 rfl ?_
  refine v_if_lt K 30 dX3_get_1 (by decide) (fun c1 => ?_) (fun c1 => ?_)
  · refine v_bipush K (-5) dX3_get_30 (by decide) ?_
    refine v_crow hf rfl ?_
    refine v_iret K E dX3_get_32 ?_ rfl
    exact ⟨by rw [gt_neg c1], rfl⟩
  · refine v_iload_n K dX3_get_4 rfl ?_
    refine v_aload_n K dX3_get_5 rfl ?_
    refine v_get K 0 rfl hasF_c rfl iX3 1 (by decide) rfl (by decide +kernel) rfl dX3_get_6 ?_
    refine v_ic_ge K 30 dX3_get_9 (by decide) (fun c9 => ?_) (fun c9 => ?_)
    · refine v_bipush K (-5) dX3_get_30 (by decide) ?_
      refine v_crow hf rfl ?_
      refine v_iret K E dX3_get_32 ?_ rfl
      exact ⟨by rw [gt_out hf c9], rfl⟩
    · refine v_iload_n K dX3_get_12 rfl ?_
      refine v_aload_n K dX3_get_13 rfl ?_
      refine v_get K 0 rfl hasF_c rfl iX3 0 (by decide) rfl (by decide +kernel) rfl dX3_get_14 ?_
      refine v_alen K 1 rfl dX3_get_17 ?_
      refine v_ic_ge K 30 dX3_get_18 (by decide) (fun c18 => ?_) (fun c18 => ?_)
      · refine v_bipush K (-5) dX3_get_30 (by decide) ?_
        refine v_crow hf rfl ?_
        refine v_iret K E dX3_get_32 ?_ rfl
        exact ⟨by rw [gt_out hf (Int32.le_trans (lay_cap hf) c18)], rfl⟩
      · refine v_aload_n K dX3_get_21 rfl ?_
        refine v_get K 0 rfl hasF_c rfl iX3 0 (by decide) rfl (by decide +kernel) rfl dX3_get_22 ?_
        refine v_iload_n K dX3_get_25 rfl ?_
        refine v_iald K 1 rfl ?ix26 dX3_get_26 ?_
        case ix26 => exact lay_in hf c1 c9
        refine v_goto K 32 dX3_get_27 (by decide) ?_
        refine v_crow hf rfl ?_
        refine v_iret K E dX3_get_32 ?_ rfl
        exact ⟨by rw [gt_in hf c1 c9], rfl⟩

theorem hd_X3_set : yX3_set.cls = RX3 ∧ yX3_set.cls ≠ "java/lang/invoke/MethodHandle" ∧ yX3_set.cls ≠ "java/lang/invoke/VarHandle" ∧ (parseMethodDescriptor yX3_set.desc).map (fun d => d.parameters.length) = some 2 := by decide +kernel
set_option maxHeartbeats 4000000 in
set_option maxRecDepth 100000 in
theorem c_X3_set (cI cB : ClassId) (r a cap : Nat) (xs : List Int32) (i v : Int32)  : Ct cI cB yX3_set wsX3_set { frames := 0, cells := 0, slots := 0, locals := 0 } [.ref r, .int i, .int v] [rowM cI r a cap xs] (dn [rowM cI r a cap (stL xs i v)]) := by
  refine ct_of (cc := cX3_set) (maxL := 3) (ret := none) (by decide) rfl (Nat.le_of_ble_eq_true rfl) [(0, .ref r), (1, .int i), (2, .int v)] rfl ?_
  intro X hI hB K E
  subst hI
  subst hB
  have iX3 : ∀ w ∈ u_ws RX3 TX3 2, w ∈ wsX3_set := by decide +kernel
  refine v_orow (fun f hf => ?_)
  refine v_iload_n K dX3_set_0 rfl ?_
  refine v_if_lt K 28 dX3_set_1 (by decide) (fun c1 => ?_) (fun c1 => ?_)
  · refine v_crow hf rfl ?_
    refine v_ret K E dX3_set_28 ?_ rfl
    exact ⟨rfl, by rw [stL_neg c1]⟩
  · refine v_iload_n K dX3_set_4 rfl ?_
    refine v_aload_n K dX3_set_5 rfl ?_
    refine v_get K 0 rfl hasF_c rfl iX3 1 (by decide) rfl (by decide +kernel) rfl dX3_set_6 ?_
    refine v_ic_ge K 28 dX3_set_9 (by decide) (fun c9 => ?_) (fun c9 => ?_)
    · refine v_crow hf rfl ?_
      refine v_ret K E dX3_set_28 ?_ rfl
      exact ⟨rfl, by rw [stL_out hf c9]⟩
    · refine v_iload_n K dX3_set_12 rfl ?_
      refine v_aload_n K dX3_set_13 rfl ?_
      refine v_get K 0 rfl hasF_c rfl iX3 0 (by decide) rfl (by decide +kernel) rfl dX3_set_14 ?_
      refine v_alen K 1 rfl dX3_set_17 ?_
      refine v_ic_ge K 28 dX3_set_18 (by decide) (fun c18 => ?_) (fun c18 => ?_)
      · refine v_crow hf rfl ?_
        refine v_ret K E dX3_set_28 ?_ rfl
        exact ⟨rfl, by rw [stL_out hf (Int32.le_trans (lay_cap hf) c18)]⟩
      · refine v_aload_n K dX3_set_21 rfl ?_
        refine v_get K 0 rfl hasF_c rfl iX3 0 (by decide) rfl (by decide +kernel) rfl dX3_set_22 ?_
        refine v_iload_n K dX3_set_25 rfl ?_
        refine v_iload_n K dX3_set_26 rfl ?_
        refine v_iast K 1 rfl ?ix27 dX3_set_27 ?_
        case ix27 => exact lay_in hf c1 c9
        refine v_crow (xs := stL xs i v) (stL_lay hf v c1 c9) (by rw [stL_len]) ?_
        refine v_ret K E dX3_set_28 ?_ rfl
        exact ⟨rfl, rfl⟩

theorem hd_X3_add : yX3_add.cls = RX3 ∧ yX3_add.cls ≠ "java/lang/invoke/MethodHandle" ∧ yX3_add.cls ≠ "java/lang/invoke/VarHandle" ∧ (parseMethodDescriptor yX3_add.desc).map (fun d => d.parameters.length) = some 1 := by decide +kernel
set_option maxHeartbeats 4000000 in
set_option maxRecDepth 100000 in
theorem c_X3_add (cI cB : ClassId) (r a cap : Nat) (xs : List Int32) (v : Int32)  : Ct cI cB yX3_add wsX3_add { frames := 0, cells := 0, slots := 0, locals := 0 } [.ref r, .int v] [rowM cI r a cap xs] (dn [rowM cI r a cap (adL cap xs v)]) := by
  refine ct_of (cc := cX3_add) (maxL := 2) (ret := none) (by decide) rfl (Nat.le_of_ble_eq_true rfl) [(0, .ref r), (1, .int v)] rfl ?_
  intro X hI hB K E
  subst hI
  subst hB
  have iX3 : ∀ w ∈ u_ws RX3 TX3 2, w ∈ wsX3_add := by decide +kernel
  refine v_orow (fun f hf => ?_)
  refine v_aload_n K dX3_add_0 rfl ?_
  refine v_get K 0 rfl hasF_c rfl iX3 1 (by decide) rfl (by decide +kernel) rfl dX3_add_1 ?_
  refine v_if_lt K 39 dX3_add_4 (by decide) (fun c4 => ?_) (fun c4 => ?_)
  · exact absurd c4 (lay_pos hf)
  · refine v_aload_n K dX3_add_7 rfl ?_
    refine v_get K 0 rfl hasF_c rfl iX3 1 (by decide) rfl (by decide +kernel) rfl dX3_add_8 ?_
    refine v_aload_n K dX3_add_11 rfl ?_
    refine v_get K 0 rfl hasF_c rfl iX3 0 (by decide) rfl (by decide +kernel) rfl dX3_add_12 ?_
    refine v_alen K 1 rfl dX3_add_15 ?_
    refine v_ic_ge K 39 dX3_add_16 (by decide) (fun c16 => ?_) (fun c16 => ?_)
    · refine v_crow hf rfl ?_
      refine v_ret K E dX3_add_39 ?_ rfl
      exact ⟨rfl, by rw [adL_full hf v c16]⟩
    · refine v_aload_n K dX3_add_19 rfl ?_
      refine v_get K 0 rfl hasF_c rfl iX3 0 (by decide) rfl (by decide +kernel) rfl dX3_add_20 ?_
      refine v_aload_n K dX3_add_23 rfl ?_
      refine v_get K 0 rfl hasF_c rfl iX3 1 (by decide) rfl (by decide +kernel) rfl dX3_add_24 ?_
      refine v_iload_n K dX3_add_27 rfl ?_
      refine v_iast K 1 rfl ?ix28 dX3_add_28 ?_
      case ix28 => exact lay_add hf c16
      refine v_aload_n K dX3_add_29 rfl ?_
      refine v_dup K dX3_add_30 rfl ?_
      refine v_get K 0 rfl hasF_c rfl iX3 1 (by decide) rfl (by decide +kernel) rfl dX3_add_31 ?_
      refine v_iconst K (1) dX3_add_34 (by decide) ?_
      refine v_iadd K dX3_add_35 ?_
      refine v_put K 0 rfl rfl iX3 tyX3 tyX3_ok nmX3 1 (by decide) rfl (by decide +kernel) rfl rfl (Nat.le_of_ble_eq_true rfl) dX3_add_36 ?_
      refine v_crow (xs := adL cap xs v) (adL_lay hf v c16) (adL_len hf v c16) ?_
      refine v_ret K E dX3_add_39 ?_ rfl
      exact ⟨rfl, rfl⟩

theorem hd_X3_isFull : yX3_isFull.cls = RX3 ∧ yX3_isFull.cls ≠ "java/lang/invoke/MethodHandle" ∧ yX3_isFull.cls ≠ "java/lang/invoke/VarHandle" ∧ (parseMethodDescriptor yX3_isFull.desc).map (fun d => d.parameters.length) = some 0 := by decide +kernel
set_option maxHeartbeats 4000000 in
set_option maxRecDepth 100000 in
theorem c_X3_isFull (cI cB : ClassId) (r a cap : Nat) (xs : List Int32)  : Ct cI cB yX3_isFull wsX3_isFull { frames := 0, cells := 0, slots := 0, locals := 0 } [.ref r] [rowM cI r a cap xs] (dv (bI (decide (cap ≤ xs.length))) [rowM cI r a cap xs]) := by
  refine ct_of (cc := cX3_isFull) (maxL := 1) (ret := (some .boolean)) (by decide) rfl (Nat.le_of_ble_eq_true rfl) [(0, .ref r)] rfl ?_
  intro X hI hB K E
  subst hI
  subst hB
  have iX3 : ∀ w ∈ u_ws RX3 TX3 2, w ∈ wsX3_isFull := by decide +kernel
  refine v_orow (fun f hf => ?_)
  refine v_aload_n K dX3_isFull_0 rfl ?_
  refine v_get K 0 rfl hasF_c rfl iX3 1 (by decide) rfl (by decide +kernel) rfl dX3_isFull_1 ?_
  refine v_aload_n K dX3_isFull_4 rfl ?_
  refine v_get K 0 rfl hasF_c rfl iX3 0 (by decide) rfl (by decide +kernel) rfl dX3_isFull_5 ?_
  refine v_alen K 1 rfl dX3_isFull_8 ?_
  refine v_ic_lt K 16 dX3_isFull_9 (by decide) (fun c9 => ?_) (fun c9 => ?_)
  · refine v_iconst K (0) dX3_isFull_16 (by decide) ?_
    refine v_crow hf rfl ?_
    refine v_zret K E dX3_isFull_17 (by first | exact Or.inl rfl | exact Or.inr rfl) ?_ rfl
    exact ⟨by rw [full_0 hf c9], rfl⟩
  · refine v_iconst K (1) dX3_isFull_12 (by decide) ?_
    refine v_goto K 17 dX3_isFull_13 (by decide) ?_
    refine v_crow hf rfl ?_
    refine v_zret K E dX3_isFull_17 (by first | exact Or.inl rfl | exact Or.inr rfl) ?_ rfl
    exact ⟨by rw [full_1 hf c9], rfl⟩

theorem hd_X3_size : yX3_size.cls = RX3 ∧ yX3_size.cls ≠ "java/lang/invoke/MethodHandle" ∧ yX3_size.cls ≠ "java/lang/invoke/VarHandle" ∧ (parseMethodDescriptor yX3_size.desc).map (fun d => d.parameters.length) = some 0 := by decide +kernel
set_option maxHeartbeats 4000000 in
set_option maxRecDepth 100000 in
theorem c_X3_size (cI cB : ClassId) (r a cap : Nat) (xs : List Int32)  : Ct cI cB yX3_size wsX3_size { frames := 0, cells := 0, slots := 0, locals := 0 } [.ref r] [rowM cI r a cap xs] (dv (nI xs.length) [rowM cI r a cap xs]) := by
  refine ct_of (cc := cX3_size) (maxL := 1) (ret := (some .int)) (by decide) rfl (Nat.le_of_ble_eq_true rfl) [(0, .ref r)] rfl ?_
  intro X hI hB K E
  subst hI
  subst hB
  have iX3 : ∀ w ∈ u_ws RX3 TX3 2, w ∈ wsX3_size := by decide +kernel
  refine v_aload_n K dX3_size_0 rfl ?_
  refine v_get K 0 rfl rowF rfl iX3 1 (by decide) rfl (by decide +kernel) rfl dX3_size_1 ?_
  refine v_iret K E dX3_size_4 ?_ rfl
  exact ⟨rfl, rfl⟩

theorem hd_X3_clear : yX3_clear.cls = RX3 ∧ yX3_clear.cls ≠ "java/lang/invoke/MethodHandle" ∧ yX3_clear.cls ≠ "java/lang/invoke/VarHandle" ∧ (parseMethodDescriptor yX3_clear.desc).map (fun d => d.parameters.length) = some 0 := by decide +kernel
set_option maxHeartbeats 4000000 in
set_option maxRecDepth 100000 in
theorem c_X3_clear (cI cB : ClassId) (r a cap : Nat) (xs : List Int32)  : Ct cI cB yX3_clear wsX3_clear { frames := 0, cells := 0, slots := 0, locals := 0 } [.ref r] [rowM cI r a cap xs] (dn [rowM cI r a cap []]) := by
  refine ct_of (cc := cX3_clear) (maxL := 1) (ret := none) (by decide) rfl (Nat.le_of_ble_eq_true rfl) [(0, .ref r)] rfl ?_
  intro X hI hB K E
  subst hI
  subst hB
  have iX3 : ∀ w ∈ u_ws RX3 TX3 2, w ∈ wsX3_clear := by decide +kernel
  refine v_orow (fun f hf => ?_)
  refine v_aload_n K dX3_clear_0 rfl ?_
  refine v_iconst K (0) dX3_clear_1 (by decide) ?_
  refine v_put K 0 rfl rfl iX3 tyX3 tyX3_ok nmX3 1 (by decide) rfl (by decide +kernel) rfl rfl (Nat.le_of_ble_eq_true rfl) dX3_clear_2 ?_
  refine v_crow (xs := []) (lay_nil hf) rfl ?_
  refine v_ret K E dX3_clear_5 ?_ rfl
  exact ⟨rfl, rfl⟩

theorem hd_X3_dropLast : yX3_dropLast.cls = RX3 ∧ yX3_dropLast.cls ≠ "java/lang/invoke/MethodHandle" ∧ yX3_dropLast.cls ≠ "java/lang/invoke/VarHandle" ∧ (parseMethodDescriptor yX3_dropLast.desc).map (fun d => d.parameters.length) = some 0 := by decide +kernel
set_option maxHeartbeats 4000000 in
set_option maxRecDepth 100000 in
theorem c_X3_dropLast (cI cB : ClassId) (r a cap : Nat) (xs : List Int32)  : Ct cI cB yX3_dropLast wsX3_dropLast { frames := 1, cells := 0, slots := 0, locals := 21 } [.ref r] [rowM cI r a cap xs] (dn [rowM cI r a cap xs.dropLast]) := by
  refine ct_of (cc := cX3_dropLast) (maxL := 1) (ret := none) (by decide) rfl (Nat.le_of_ble_eq_true rfl) [(0, .ref r)] rfl ?_
  intro X hI hB K E
  subst hI
  subst hB
  have iX3 : ∀ w ∈ u_ws RX3 TX3 2, w ∈ wsX3_dropLast := by decide +kernel
  refine v_orow (fun f hf => ?_)
  refine v_aload_n K dX3_dropLast_0 rfl ?_
  refine v_aload_n K dX3_dropLast_1 rfl ?_
  refine v_get K 0 rfl hasF_c rfl iX3 1 (by decide) rfl (by decide +kernel) rfl dX3_dropLast_2 ?_
  refine v_iconst K (1) dX3_dropLast_5 (by decide) ?_
  refine v_isub K dX3_dropLast_6 ?_
  refine v_iconst K (0) dX3_dropLast_7 (by decide) ?_
  refine v_mmax K (by decide +kernel) (by decide +kernel) (by decide +kernel) (by decide +kernel) (by decide) (Nat.le_of_ble_eq_true rfl) ⟨Nat.zero_le _, Nat.zero_le _⟩ dX3_dropLast_8 ?_
  refine v_put K 0 rfl rfl iX3 tyX3 tyX3_ok nmX3 1 (by decide) rfl (by decide +kernel) rfl rfl (Nat.le_of_ble_eq_true rfl) dX3_dropLast_11 ?_
  refine v_crow (xs := xs.dropLast) (lay_drop hf) (drop_len hf) ?_
  refine v_ret K E dX3_dropLast_14 ?_ rfl
  exact ⟨rfl, rfl⟩

theorem hd_X3_addMany : yX3_addMany.cls = RX3 ∧ yX3_addMany.cls ≠ "java/lang/invoke/MethodHandle" ∧ yX3_addMany.cls ≠ "java/lang/invoke/VarHandle" ∧ (parseMethodDescriptor yX3_addMany.desc).map (fun d => d.parameters.length) = some 2 := by decide +kernel
set_option maxHeartbeats 4000000 in
set_option maxRecDepth 100000 in
theorem c_X3_addMany (cI cB : ClassId) (r a cap : Nat) (xs : List Int32) (v : Int32) (N : Nat) (hN : N < 1000000000) : Ct cI cB yX3_addMany wsX3_addMany { frames := 1, cells := 0, slots := 0, locals := 21 } [.ref r, .int v, .int (nI N)] [rowM cI r a cap xs] (dn [rowM cI r a cap (amL cap v N xs)]) := by
  refine ct_of (cc := cX3_addMany) (maxL := 4) (ret := none) (by decide) rfl (Nat.le_of_ble_eq_true rfl) [(0, .ref r), (1, .int v), (2, .int (nI N))] rfl ?_
  intro X hI hB K E
  subst hI
  subst hB
  have lp : ∀ k, k ≤ N → ∀ (x : Int32) (ys : List Int32), x = nI k → amL cap v (N - k) ys = amL cap v N xs → V X 0 0 2 [(0, .ref r), (1, .int v), (2, .int (nI N)), (3, .int x)] [] [rowM (XI X) r a cap ys] := by
    refine loop_up N ?_
    intro k hk ih x ys hx hy
    refine v_iload_n K dX3_addMany_2 rfl ?_
    refine v_iload_n K dX3_addMany_3 rfl ?_
    refine v_ic_ge K 18 dX3_addMany_4 (by decide) (fun c4 => ?_) (fun c4 => ?_)
    · refine v_ret K E dX3_addMany_18 ?_ rfl
      exact ⟨rfl, by rw [← hy, up_end hx hN hk c4, Nat.sub_self]; rfl⟩
    · refine v_aload_n K dX3_addMany_7 rfl ?_
      refine v_iload_n K dX3_addMany_8 rfl ?_
      refine v_callVv K [0] (c_X3_add (XI X) (XB X) _ _ _ _ _ ) rfl gX3_addMany_X3_add rfl rfl hd_X3_add ⟨rfl, rfl⟩ ⟨by decide, by decide⟩ 0 rfl rowF rfl (by decide) (Nat.le_of_ble_eq_true rfl) ⟨Nat.zero_le _, Nat.zero_le _⟩ rfl dX3_addMany_9 ?_
      refine v_iinc K dX3_addMany_12 rfl (by decide) iinc_1 ?_
      refine v_goto K 2 dX3_addMany_15 (by decide) ?_
      have hlt := up_lt hx hN hk c4
      exact v_j (ih hlt _ _ (by rw [hx]; exact nI_1 k) (by rw [← hy]; exact (amL_step hlt).symm)) rfl rfl rfl
  refine v_iconst K (0) dX3_addMany_0 (by decide) ?_
  refine v_istore_n K dX3_addMany_1 (by decide) ?_
  exact v_j (lp 0 (Nat.zero_le _) 0 xs rfl rfl) rfl rfl rfl

theorem hd_X3_increase : yX3_increase.cls = RX3 ∧ yX3_increase.cls ≠ "java/lang/invoke/MethodHandle" ∧ yX3_increase.cls ≠ "java/lang/invoke/VarHandle" ∧ (parseMethodDescriptor yX3_increase.desc).map (fun d => d.parameters.length) = some 1 := by decide +kernel
set_option maxHeartbeats 4000000 in
set_option maxRecDepth 100000 in
theorem c_X3_increase (cI cB : ClassId) (r a cap : Nat) (xs : List Int32) (i : Int32)  : Ct cI cB yX3_increase wsX3_increase { frames := 1, cells := 0, slots := 0, locals := 22 } [.ref r, .int i] [rowM cI r a cap xs] (dn [rowM cI r a cap (stL xs i (gt xs i + 1))]) := by
  refine ct_of (cc := cX3_increase) (maxL := 2) (ret := none) (by decide) rfl (Nat.le_of_ble_eq_true rfl) [(0, .ref r), (1, .int i)] rfl ?_
  intro X hI hB K E
  subst hI
  subst hB
  refine v_aload_n K dX3_increase_0 rfl ?_
  refine v_iload_n K dX3_increase_1 rfl ?_
  refine v_aload_n K dX3_increase_2 rfl ?_
  refine v_iload_n K dX3_increase_3 rfl ?_
  refine v_callVi K [0] (c_X3_get (XI X) (XB X) _ _ _ _ _ ) rfl gX3_increase_X3_get rfl rfl hd_X3_get ⟨rfl, rfl⟩ ⟨by decide, by decide⟩ 0 rfl rowF rfl (by decide) (Nat.le_of_ble_eq_true rfl) ⟨Nat.zero_le _, Nat.zero_le _⟩ rfl dX3_increase_4 ?_
  refine v_iconst K (1) dX3_increase_7 (by decide) ?_
  refine v_iadd K dX3_increase_8 ?_
  refine v_callVv K [0] (c_X3_set (XI X) (XB X) _ _ _ _ _ _ ) rfl gX3_increase_X3_set rfl rfl hd_X3_set ⟨rfl, rfl⟩ ⟨by decide, by decide⟩ 0 rfl rowF rfl (by decide) (Nat.le_of_ble_eq_true rfl) ⟨Nat.zero_le _, Nat.zero_le _⟩ rfl dX3_increase_9 ?_
  refine v_ret K E dX3_increase_12 ?_ rfl
  exact ⟨rfl, rfl⟩

theorem hd_X3_addAll : yX3_addAll.cls = RX3 ∧ yX3_addAll.cls ≠ "java/lang/invoke/MethodHandle" ∧ yX3_addAll.cls ≠ "java/lang/invoke/VarHandle" ∧ (parseMethodDescriptor yX3_addAll.desc).map (fun d => d.parameters.length) = some 1 := by decide +kernel
set_option maxHeartbeats 4000000 in
set_option maxRecDepth 100000 in
theorem c_X3_addAll (cI cB : ClassId) (r a cap : Nat) (xs : List Int32) (r2 a2 cap2 : Nat) (ys : List Int32)  : Ct cI cB yX3_addAll wsX3_addAll { frames := 1, cells := 0, slots := 0, locals := 21 } [.ref r, .ref r2] [rowM cI r a cap xs, rowM cI r2 a2 cap2 ys] (dn [rowM cI r a cap (aaL cap xs ys), rowM cI r2 a2 cap2 ys]) := by
  refine ct_of (cc := cX3_addAll) (maxL := 3) (ret := none) (by decide) rfl (Nat.le_of_ble_eq_true rfl) [(0, .ref r), (1, .ref r2)] rfl ?_
  intro X hI hB K E
  subst hI
  subst hB
  have iX3 : ∀ w ∈ u_ws RX3 TX3 2, w ∈ wsX3_addAll := by decide +kernel
  have lp : ∀ k, k ≤ ys.length → ∀ (x : Int32) (zs : List Int32), x = nI k → aaL cap zs (ys.drop k) = aaL cap xs ys → V X 0 0 2 [(0, .ref r), (1, .ref r2), (2, .int x)] [] [rowM (XI X) r a cap zs, rowM (XI X) r2 a2 cap2 ys] := by
    refine loop_up ys.length ?_
    intro k hk ih x zs hx hy
    refine v_rowlen 1 rfl (fun hN => ?_)
    refine v_iload_n K dX3_addAll_2 rfl ?_
    refine v_aload_n K dX3_addAll_3 rfl ?_
    refine v_get K 1 rfl rowF rfl iX3 1 (by decide) rfl (by decide +kernel) rfl dX3_addAll_4 ?_
    refine v_ic_ge K 25 dX3_addAll_7 (by decide) (fun c7 => ?_) (fun c7 => ?_)
    · refine v_ret K E dX3_addAll_25 ?_ rfl
      exact ⟨rfl, by rw [← hy, up_end hx hN hk c7, List.drop_length]; rfl⟩
    · refine v_aload_n K dX3_addAll_10 rfl ?_
      refine v_aload_n K dX3_addAll_11 rfl ?_
      refine v_iload_n K dX3_addAll_12 rfl ?_
      refine v_callVi K [1] (c_X3_get (XI X) (XB X) _ _ _ _ _ ) rfl gX3_addAll_X3_get rfl rfl hd_X3_get ⟨rfl, rfl⟩ ⟨by decide, by decide⟩ 1 rfl rowF rfl (by decide) (Nat.le_of_ble_eq_true rfl) ⟨Nat.zero_le _, Nat.zero_le _⟩ rfl dX3_addAll_13 ?_
      refine v_callVv K [0] (c_X3_add (XI X) (XB X) _ _ _ _ _ ) rfl gX3_addAll_X3_add rfl rfl hd_X3_add ⟨rfl, rfl⟩ ⟨by decide, by decide⟩ 0 rfl rowF rfl (by decide) (Nat.le_of_ble_eq_true rfl) ⟨Nat.zero_le _, Nat.zero_le _⟩ rfl dX3_addAll_16 ?_
      refine v_iinc K dX3_addAll_19 rfl (by decide) iinc_1 ?_
      refine v_goto K 2 dX3_addAll_22 (by decide) ?_
      have hlt := up_lt hx hN hk c7
      exact v_j (ih hlt _ _ (by rw [hx]; exact nI_1 k) (by rw [← hy, hx]; exact (aaL_step hlt hN).symm)) rfl rfl rfl
  refine v_iconst K (0) dX3_addAll_0 (by decide) ?_
  refine v_istore_n K dX3_addAll_1 (by decide) ?_
  exact v_j (lp 0 (Nat.zero_le _) 0 xs rfl rfl) rfl rfl rfl

theorem hd_X3_copyFrom : yX3_copyFrom.cls = RX3 ∧ yX3_copyFrom.cls ≠ "java/lang/invoke/MethodHandle" ∧ yX3_copyFrom.cls ≠ "java/lang/invoke/VarHandle" ∧ (parseMethodDescriptor yX3_copyFrom.desc).map (fun d => d.parameters.length) = some 1 := by decide +kernel
set_option maxHeartbeats 4000000 in
set_option maxRecDepth 100000 in
theorem c_X3_copyFrom (cI cB : ClassId) (r a cap : Nat) (xs : List Int32) (r2 a2 cap2 : Nat) (ys : List Int32)  : Ct cI cB yX3_copyFrom wsX3_copyFrom { frames := 2, cells := 0, slots := 0, locals := 43 } [.ref r, .ref r2] [rowM cI r a cap xs, rowM cI r2 a2 cap2 ys] (dn [rowM cI r a cap (aaL cap [] ys), rowM cI r2 a2 cap2 ys]) := by
  refine ct_of (cc := cX3_copyFrom) (maxL := 2) (ret := none) (by decide) rfl (Nat.le_of_ble_eq_true rfl) [(0, .ref r), (1, .ref r2)] rfl ?_
  intro X hI hB K E
  subst hI
  subst hB
  refine v_aload_n K dX3_copyFrom_0 rfl ?_
  refine v_callVv K [0] (c_X3_clear (XI X) (XB X) _ _ _ _ ) rfl gX3_copyFrom_X3_clear rfl rfl hd_X3_clear ⟨rfl, rfl⟩ ⟨by decide, by decide⟩ 0 rfl rowF rfl (by decide) (Nat.le_of_ble_eq_true rfl) ⟨Nat.zero_le _, Nat.zero_le _⟩ rfl dX3_copyFrom_1 ?_
  refine v_aload_n K dX3_copyFrom_4 rfl ?_
  refine v_aload_n K dX3_copyFrom_5 rfl ?_
  refine v_callVv K [0, 1] (c_X3_addAll (XI X) (XB X) _ _ _ _ _ _ _ _ ) rfl gX3_copyFrom_X3_addAll rfl rfl hd_X3_addAll ⟨rfl, rfl⟩ ⟨by decide, by decide⟩ 0 rfl rowF rfl (by decide) (Nat.le_of_ble_eq_true rfl) ⟨Nat.zero_le _, Nat.zero_le _⟩ rfl dX3_copyFrom_6 ?_
  refine v_ret K E dX3_copyFrom_9 ?_ rfl
  exact ⟨rfl, rfl⟩

theorem hd_X3_swap : yX3_swap.cls = RX3 ∧ yX3_swap.cls ≠ "java/lang/invoke/MethodHandle" ∧ yX3_swap.cls ≠ "java/lang/invoke/VarHandle" ∧ (parseMethodDescriptor yX3_swap.desc).map (fun d => d.parameters.length) = some 2 := by decide +kernel
set_option maxHeartbeats 4000000 in
set_option maxRecDepth 100000 in
theorem c_X3_swap (cI cB : ClassId) (r a cap : Nat) (xs : List Int32) (i j : Int32)  : Ct cI cB yX3_swap wsX3_swap { frames := 1, cells := 0, slots := 0, locals := 22 } [.ref r, .int i, .int j] [rowM cI r a cap xs] (dn [rowM cI r a cap (swL xs i j)]) := by
  refine ct_of (cc := cX3_swap) (maxL := 4) (ret := none) (by decide) rfl (Nat.le_of_ble_eq_true rfl) [(0, .ref r), (1, .int i), (2, .int j)] rfl ?_
  intro X hI hB K E
  subst hI
  subst hB
  refine v_aload_n K dX3_swap_0 rfl ?_
  refine v_iload_n K dX3_swap_1 rfl ?_
  refine v_callVi K [0] (c_X3_get (XI X) (XB X) _ _ _ _ _ ) rfl gX3_swap_X3_get rfl rfl hd_X3_get ⟨rfl, rfl⟩ ⟨by decide, by decide⟩ 0 rfl rowF rfl (by decide) (Nat.le_of_ble_eq_true rfl) ⟨Nat.zero_le _, Nat.zero_le _⟩ rfl dX3_swap_2 ?_
  refine v_istore_n K dX3_swap_5 (by decide) ?_
  refine v_aload_n K dX3_swap_6 rfl ?_
  refine v_iload_n K dX3_swap_7 rfl ?_
  refine v_aload_n K dX3_swap_8 rfl ?_
  refine v_iload_n K dX3_swap_9 rfl ?_
  refine v_callVi K [0] (c_X3_get (XI X) (XB X) _ _ _ _ _ ) rfl gX3_swap_X3_get rfl rfl hd_X3_get ⟨rfl, rfl⟩ ⟨by decide, by decide⟩ 0 rfl rowF rfl (by decide) (Nat.le_of_ble_eq_true rfl) ⟨Nat.zero_le _, Nat.zero_le _⟩ rfl dX3_swap_10 ?_
  refine v_callVv K [0] (c_X3_set (XI X) (XB X) _ _ _ _ _ _ ) rfl gX3_swap_X3_set rfl rfl hd_X3_set ⟨rfl, rfl⟩ ⟨by decide, by decide⟩ 0 rfl rowF rfl (by decide) (Nat.le_of_ble_eq_true rfl) ⟨Nat.zero_le _, Nat.zero_le _⟩ rfl dX3_swap_13 ?_
  refine v_aload_n K dX3_swap_16 rfl ?_
  refine v_iload_n K dX3_swap_17 rfl ?_
  refine v_iload_n K dX3_swap_18 rfl ?_
  refine v_callVv K [0] (c_X3_set (XI X) (XB X) _ _ _ _ _ _ ) rfl gX3_swap_X3_set rfl rfl hd_X3_set ⟨rfl, rfl⟩ ⟨by decide, by decide⟩ 0 rfl rowF rfl (by decide) (Nat.le_of_ble_eq_true rfl) ⟨Nat.zero_le _, Nat.zero_le _⟩ rfl dX3_swap_19 ?_
  refine v_ret K E dX3_swap_22 ?_ rfl
  exact ⟨rfl, rfl⟩

theorem hd_X3_move : yX3_move.cls = RX3 ∧ yX3_move.cls ≠ "java/lang/invoke/MethodHandle" ∧ yX3_move.cls ≠ "java/lang/invoke/VarHandle" ∧ (parseMethodDescriptor yX3_move.desc).map (fun d => d.parameters.length) = some 2 := by decide +kernel
set_option maxHeartbeats 4000000 in
set_option maxRecDepth 100000 in
theorem c_X3_move (cI cB : ClassId) (r a cap : Nat) (xs : List Int32) (I J : Nat) (hI : I < 1000000000) (hJJ : J < 1000000000) : Ct cI cB yX3_move wsX3_move { frames := 2, cells := 0, slots := 0, locals := 45 } [.ref r, .int (nI I), .int (nI J)] [rowM cI r a cap xs] (dn [rowM cI r a cap (mvL xs I J)]) := by
  refine ct_of (cc := cX3_move) (maxL := 4) (ret := none) (by decide) rfl (Nat.le_of_ble_eq_true rfl) [(0, .ref r), (1, .int (nI I)), (2, .int (nI J))] rfl ?_
  intro X hI hB K E
  subst hI
  subst hB
  have lp2 : ∀ k, k ≤ I → ∀ (x : Int32) (ys : List Int32), (J ≤ k ∨ I ≤ J) → x = nI k → mvD (k - J) k ys = mvL xs I J → V X 0 0 23 [(0, .ref r), (2, .int (nI J)), (3, .int x)] [] [rowM (XI X) r a cap ys] := by
    refine loop_dn I ?_
    intro k hk ih x ys hJ hx hy
    refine v_iload_n K dX3_move_23 rfl ?_
    refine v_iload_n K dX3_move_24 rfl ?_
    refine v_ic_le K 42 dX3_move_25 (by decide) (fun c25 => ?_) (fun c25 => ?_)
    · refine v_ret K E dX3_move_42 ?_ rfl
      exact ⟨rfl, by rw [← hy, Nat.sub_eq_zero_of_le (dn_end hx hI hJJ hk c25)]; rfl⟩
    · refine v_aload_n K dX3_move_28 rfl ?_
      refine v_iload_n K dX3_move_29 rfl ?_
      refine v_iload_n K dX3_move_30 rfl ?_
      refine v_iconst K (1) dX3_move_31 (by decide) ?_
      refine v_isub K dX3_move_32 ?_
      refine v_callVv K [0] (c_X3_swap (XI X) (XB X) _ _ _ _ _ _ ) rfl gX3_move_X3_swap rfl rfl hd_X3_swap ⟨rfl, rfl⟩ ⟨by decide, by decide⟩ 0 rfl rowF rfl (by decide) (Nat.le_of_ble_eq_true rfl) ⟨Nat.zero_le _, Nat.zero_le _⟩ rfl dX3_move_33 ?_
      refine v_iinc K dX3_move_36 rfl (by decide) iinc_m1 ?_
      refine v_goto K 23 dX3_move_39 (by decide) ?_
      have hlt := dn_lt hx hI hJJ hk c25
      obtain ⟨k, rfl⟩ : ∃ k2, k = k2 + 1 := ⟨k - 1, by omega⟩
      exact v_j (ih k rfl _ _ (by omega) (by rw [hx]; exact dn_1 k) (by rw [← hy, hx, mvD_step hlt, dn_1 k])) rfl rfl rfl
  have lp : ∀ k, k ≤ max I J → ∀ (x : Int32) (ys : List Int32), I ≤ k → x = nI k → mvD (I - J) I (mvU (J - k) k ys) = mvL xs I J → V X 0 0 2 [(0, .ref r), (1, .int (nI I)), (2, .int (nI J)), (3, .int x)] [] [rowM (XI X) r a cap ys] := by
    refine loop_up (max I J) ?_
    intro k hk ih x ys hI2 hx hy
    refine v_iload_n K dX3_move_2 rfl ?_
    refine v_iload_n K dX3_move_3 rfl ?_
    refine v_ic_ge K 21 dX3_move_4 (by decide) (fun c4 => ?_) (fun c4 => ?_)
    · refine v_iload_n K dX3_move_21 rfl ?_
      refine v_istore_n K dX3_move_22 (by decide) ?_
      exact v_j (lp2 I (Nat.le_refl I) (nI I) ys (Nat.le_total J I) rfl (by rw [← hy, Nat.sub_eq_zero_of_le (mv_end hx hI hJJ hk c4)]; rfl)) rfl rfl rfl
    · refine v_aload_n K dX3_move_7 rfl ?_
      refine v_iload_n K dX3_move_8 rfl ?_
      refine v_iload_n K dX3_move_9 rfl ?_
      refine v_iconst K (1) dX3_move_10 (by decide) ?_
      refine v_iadd K dX3_move_11 ?_
      refine v_callVv K [0] (c_X3_swap (XI X) (XB X) _ _ _ _ _ _ ) rfl gX3_move_X3_swap rfl rfl hd_X3_swap ⟨rfl, rfl⟩ ⟨by decide, by decide⟩ 0 rfl rowF rfl (by decide) (Nat.le_of_ble_eq_true rfl) ⟨Nat.zero_le _, Nat.zero_le _⟩ rfl dX3_move_12 ?_
      refine v_iinc K dX3_move_15 rfl (by decide) iinc_1 ?_
      refine v_goto K 2 dX3_move_18 (by decide) ?_
      have hlt := mv_lt hx hI hJJ hk c4
      exact v_j (ih (by omega) _ _ (by omega) (by rw [hx]; exact nI_1 k) (by rw [← hy, hx, mvU_step hlt, nI_1 k])) rfl rfl rfl
  refine v_iload_n K dX3_move_0 rfl ?_
  refine v_istore_n K dX3_move_1 (by decide) ?_
  exact v_j (lp I (Nat.le_max_left I J) (nI I) xs (Nat.le_refl I) rfl rfl) rfl rfl rfl

theorem hd_X3_remove : yX3_remove.cls = RX3 ∧ yX3_remove.cls ≠ "java/lang/invoke/MethodHandle" ∧ yX3_remove.cls ≠ "java/lang/invoke/VarHandle" ∧ (parseMethodDescriptor yX3_remove.desc).map (fun d => d.parameters.length) = some 1 := by decide +kernel
set_option maxHeartbeats 4000000 in
set_option maxRecDepth 100000 in
theorem c_X3_remove (cI cB : ClassId) (r a cap : Nat) (xs : List Int32) (I : Nat) (hI : I < 1000000000) : Ct cI cB yX3_remove wsX3_remove { frames := 3, cells := 0, slots := 0, locals := 68 } [.ref r, .int (nI I)] [rowM cI r a cap xs] (dn [rowM cI r a cap (rmL xs I)]) := by
  refine ct_of (cc := cX3_remove) (maxL := 2) (ret := none) (by decide) rfl (Nat.le_of_ble_eq_true rfl) [(0, .ref r), (1, .int (nI I))] rfl ?_
  intro X hI hB K E
  subst hI
  subst hB
  have iX3 : ∀ w ∈ u_ws RX3 TX3 2, w ∈ wsX3_remove := by decide +kernel
  refine v_rowlen 0 rfl (fun hN => ?_)
  refine v_iload_n K dX3_remove_0 rfl ?_
  refine v_if_lt K 27 dX3_remove_1 (by decide) (fun c1 => ?_) (fun c1 => ?_)
  · exact absurd c1 (nI_pos (by omega))
  · refine v_iload_n K dX3_remove_4 rfl ?_
    refine v_aload_n K dX3_remove_5 rfl ?_
    refine v_get K 0 rfl rowF rfl iX3 1 (by decide) rfl (by decide +kernel) rfl dX3_remove_6 ?_
    refine v_ic_ge K 27 dX3_remove_9 (by decide) (fun c9 => ?_) (fun c9 => ?_)
    · refine v_ret K E dX3_remove_27 ?_ rfl
      exact ⟨rfl, by rw [rmL_out hI hN c9]⟩
    · refine v_aload_n K dX3_remove_12 rfl ?_
      refine v_iload_n K dX3_remove_13 rfl ?_
      refine v_aload_n K dX3_remove_14 rfl ?_
      refine v_get K 0 rfl rowF rfl iX3 1 (by decide) rfl (by decide +kernel) rfl dX3_remove_15 ?_
      refine v_iconst K (1) dX3_remove_18 (by decide) ?_
      refine v_isub K dX3_remove_19 ?_
      have hlt := rm_lt hI hN c9
      rw [sub1 (by omega : 1 ≤ xs.length)]
      refine v_callVv K [0] (c_X3_move (XI X) (XB X) _ _ _ _ _ _ ?hc20_0 ?hc20_1) rfl gX3_remove_X3_move rfl rfl hd_X3_move ⟨rfl, rfl⟩ ⟨by decide, by decide⟩ 0 rfl rowF rfl (by decide) (Nat.le_of_ble_eq_true rfl) ⟨Nat.zero_le _, Nat.zero_le _⟩ rfl dX3_remove_20 ?_
      case hc20_0 => exact hI
      case hc20_1 => omega
      refine v_aload_n K dX3_remove_23 rfl ?_
      refine v_callVv K [0] (c_X3_dropLast (XI X) (XB X) _ _ _ _ ) rfl gX3_remove_X3_dropLast rfl rfl hd_X3_dropLast ⟨rfl, rfl⟩ ⟨by decide, by decide⟩ 0 rfl rowF rfl (by decide) (Nat.le_of_ble_eq_true rfl) ⟨Nat.zero_le _, Nat.zero_le _⟩ rfl dX3_remove_24 ?_
      refine v_ret K E dX3_remove_27 ?_ rfl
      exact ⟨rfl, by rw [rmL_in hlt] <;> rfl⟩
