theorem hd_X7_isSmall : yX7_isSmall.cls ≠ "java/lang/invoke/MethodHandle" ∧ yX7_isSmall.cls ≠ "java/lang/invoke/VarHandle" ∧ (parseMethodDescriptor yX7_isSmall.desc).map (fun d => d.parameters.length) = some 1 := by decide +kernel
set_option maxHeartbeats 4000000 in
set_option maxRecDepth 100000 in
theorem c_X7_isSmall (cI cB : ClassId) (c : Int32)  : Ct cI cB yX7_isSmall wsX7_isSmall { frames := 0, cells := 0, slots := 0, locals := 0 } [.int c] [] (dv (bI (sm c)) []) := by
  refine ct_of (cc := cX7_isSmall) (maxL := 1) (ret := (some .boolean)) (by decide) rfl (Nat.le_of_ble_eq_true rfl) [(0, .int c)] rfl ?_
  intro X hI hB K E
  subst hI
  subst hB
  refine v_iload_n K dX7_isSmall_0 rfl ?_
  refine v_bipush K (97) dX7_isSmall_1 (by decide) ?_
  refine v_ic_lt K 16 dX7_isSmall_3 (by decide) (fun c3 => ?_) (fun c3 => ?_)
  · refine v_iconst K (0) dX7_isSmall_16 (by decide) ?_
    refine v_zret K E dX7_isSmall_17 (by first | exact Or.inl rfl | exact Or.inr rfl | exact bI_01 _) ?_ rfl
    exact ⟨by rw [sm_f1 c3], rfl⟩
  · refine v_iload_n K dX7_isSmall_6 rfl ?_
    refine v_bipush K (122) dX7_isSmall_7 (by decide) ?_
    refine v_ic_gt K 16 dX7_isSmall_9 (by decide) (fun c9 => ?_) (fun c9 => ?_)
    · refine v_iconst K (0) dX7_isSmall_16 (by decide) ?_
      refine v_zret K E dX7_isSmall_17 (by first | exact Or.inl rfl | exact Or.inr rfl | exact bI_01 _) ?_ rfl
      exact ⟨by rw [sm_f2 c9], rfl⟩
    · refine v_iconst K (1) dX7_isSmall_12 (by decide) ?_
      refine v_goto K 17 dX7_isSmall_13 (by decide) ?_
      refine v_zret K E dX7_isSmall_17 (by first | exact Or.inl rfl | exact Or.inr rfl | exact bI_01 _) ?_ rfl
      exact ⟨by rw [sm_t c3 c9], rfl⟩

theorem hd_X7_isCapital : yX7_isCapital.cls ≠ "java/lang/invoke/MethodHandle" ∧ yX7_isCapital.cls ≠ "java/lang/invoke/VarHandle" ∧ (parseMethodDescriptor yX7_isCapital.desc).map (fun d => d.parameters.length) = some 1 := by decide +kernel
set_option maxHeartbeats 4000000 in
set_option maxRecDepth 100000 in
theorem c_X7_isCapital (cI cB : ClassId) (c : Int32)  : Ct cI cB yX7_isCapital wsX7_isCapital { frames := 0, cells := 0, slots := 0, locals := 0 } [.int c] [] (dv (bI (cpt c)) []) := by
  refine ct_of (cc := cX7_isCapital) (maxL := 1) (ret := (some .boolean)) (by decide) rfl (Nat.le_of_ble_eq_true rfl) [(0, .int c)] rfl ?_
  intro X hI hB K E
  subst hI
  subst hB
  refine v_iload_n K dX7_isCapital_0 rfl ?_
  refine v_bipush K (65) dX7_isCapital_1 (by decide) ?_
  refine v_ic_lt K 16 dX7_isCapital_3 (by decide) (fun c3 => ?_) (fun c3 => ?_)
  · refine v_iconst K (0) dX7_isCapital_16 (by decide) ?_
    refine v_zret K E dX7_isCapital_17 (by first | exact Or.inl rfl | exact Or.inr rfl | exact bI_01 _) ?_ rfl
    exact ⟨by rw [cpt_f1 c3], rfl⟩
  · refine v_iload_n K dX7_isCapital_6 rfl ?_
    refine v_bipush K (90) dX7_isCapital_7 (by decide) ?_
    refine v_ic_gt K 16 dX7_isCapital_9 (by decide) (fun c9 => ?_) (fun c9 => ?_)
    · refine v_iconst K (0) dX7_isCapital_16 (by decide) ?_
      refine v_zret K E dX7_isCapital_17 (by first | exact Or.inl rfl | exact Or.inr rfl | exact bI_01 _) ?_ rfl
      exact ⟨by rw [cpt_f2 c9], rfl⟩
    · refine v_iconst K (1) dX7_isCapital_12 (by decide) ?_
      refine v_goto K 17 dX7_isCapital_13 (by decide) ?_
      refine v_zret K E dX7_isCapital_17 (by first | exact Or.inl rfl | exact Or.inr rfl | exact bI_01 _) ?_ rfl
      exact ⟨by rw [cpt_t c3 c9], rfl⟩

theorem hd_X7_isVowel : yX7_isVowel.cls ≠ "java/lang/invoke/MethodHandle" ∧ yX7_isVowel.cls ≠ "java/lang/invoke/VarHandle" ∧ (parseMethodDescriptor yX7_isVowel.desc).map (fun d => d.parameters.length) = some 1 := by decide +kernel
set_option maxHeartbeats 4000000 in
set_option maxRecDepth 100000 in
theorem c_X7_isVowel (cI cB : ClassId) (c : Int32)  : Ct cI cB yX7_isVowel wsX7_isVowel { frames := 0, cells := 0, slots := 0, locals := 0 } [.int c] [] (dv (bI (vw c)) []) := by
  refine ct_of (cc := cX7_isVowel) (maxL := 1) (ret := (some .boolean)) (by decide) rfl (Nat.le_of_ble_eq_true rfl) [(0, .int c)] rfl ?_
  intro X hI hB K E
  subst hI
  subst hB
  refine v_iload_n K dX7_isVowel_0 rfl ?_
  refine v_case (97) (fun s1_0 => ?_) (fun s1_0 => ?_)
  · refine v_lk K 52 dX7_isVowel_1 rfl (by rw [s1_0] <;> rfl) (by decide) ?_
    refine v_iconst K (1) dX7_isVowel_52 (by decide) ?_
    refine v_zret K E dX7_isVowel_53 (by first | exact Or.inl rfl | exact Or.inr rfl | exact bI_01 _) ?_ rfl
    exact ⟨by rw [s1_0] <;> rfl, rfl⟩
  · refine v_case (101) (fun s1_1 => ?_) (fun s1_1 => ?_)
    · refine v_lk K 52 dX7_isVowel_1 rfl (by rw [s1_1] <;> rfl) (by decide) ?_
      refine v_iconst K (1) dX7_isVowel_52 (by decide) ?_
      refine v_zret K E dX7_isVowel_53 (by first | exact Or.inl rfl | exact Or.inr rfl | exact bI_01 _) ?_ rfl
      exact ⟨by rw [s1_1] <;> rfl, rfl⟩
    · refine v_case (105) (fun s1_2 => ?_) (fun s1_2 => ?_)
      · refine v_lk K 52 dX7_isVowel_1 rfl (by rw [s1_2] <;> rfl) (by decide) ?_
        refine v_iconst K (1) dX7_isVowel_52 (by decide) ?_
        refine v_zret K E dX7_isVowel_53 (by first | exact Or.inl rfl | exact Or.inr rfl | exact bI_01 _) ?_ rfl
        exact ⟨by rw [s1_2] <;> rfl, rfl⟩
      · refine v_case (111) (fun s1_3 => ?_) (fun s1_3 => ?_)
        · refine v_lk K 52 dX7_isVowel_1 rfl (by rw [s1_3] <;> rfl) (by decide) ?_
          refine v_iconst K (1) dX7_isVowel_52 (by decide) ?_
          refine v_zret K E dX7_isVowel_53 (by first | exact Or.inl rfl | exact Or.inr rfl | exact bI_01 _) ?_ rfl
          exact ⟨by rw [s1_3] <;> rfl, rfl⟩
        · refine v_case (117) (fun s1_4 => ?_) (fun s1_4 => ?_)
          · refine v_lk K 52 dX7_isVowel_1 rfl (by rw [s1_4] <;> rfl) (by decide) ?_
            refine v_iconst K (1) dX7_isVowel_52 (by decide) ?_
            refine v_zret K E dX7_isVowel_53 (by first | exact Or.inl rfl | exact Or.inr rfl | exact bI_01 _) ?_ rfl
            exact ⟨by rw [s1_4] <;> rfl, rfl⟩
          · refine v_lk (off := 53) K 54 dX7_isVowel_1 rfl ((lv_osw s1_0 rfl).trans ((lv_osw s1_1 rfl).trans ((lv_osw s1_2 rfl).trans ((lv_osw s1_3 rfl).trans ((lv_osw s1_4 rfl).trans (rfl)))))) (by decide) ?_
            refine v_iconst K (0) dX7_isVowel_54 (by decide) ?_
            refine v_zret K E dX7_isVowel_55 (by first | exact Or.inl rfl | exact Or.inr rfl | exact bI_01 _) ?_ rfl
            exact ⟨by unfold vw; rw [decide_eq_false (by rintro (h | h | h | h | h) <;> contradiction)] <;> rfl, rfl⟩

theorem hd_X2_sideOf : yX2_sideOf.cls ≠ "java/lang/invoke/MethodHandle" ∧ yX2_sideOf.cls ≠ "java/lang/invoke/VarHandle" ∧ (parseMethodDescriptor yX2_sideOf.desc).map (fun d => d.parameters.length) = some 1 := by decide +kernel
set_option maxHeartbeats 4000000 in
set_option maxRecDepth 100000 in
theorem c_X2_sideOf (cI cB : ClassId) (c : Int32)  : Ct cI cB yX2_sideOf wsX2_sideOf { frames := 0, cells := 0, slots := 0, locals := 0 } [.int c] [] (dv (sdOf c) []) := by
  refine ct_of (cc := cX2_sideOf) (maxL := 1) (ret := (some .int)) (by decide) rfl (Nat.le_of_ble_eq_true rfl) [(0, .int c)] rfl ?_
  intro X hI hB K E
  subst hI
  subst hB
  refine v_iload_n K dX2_sideOf_0 rfl ?_
  refine v_case (36) (fun s1_0 => ?_) (fun s1_0 => ?_)
  · refine v_lk K 54 dX2_sideOf_1 rfl (by rw [s1_0] <;> rfl) (by decide) ?_
    refine v_iconst K (2) dX2_sideOf_54 (by decide) ?_
    refine v_iret K E dX2_sideOf_55 ?_ rfl
    exact ⟨by rw [s1_0] <;> rfl, rfl⟩
  · refine v_case (43) (fun s1_1 => ?_) (fun s1_1 => ?_)
    · refine v_lk K 56 dX2_sideOf_1 rfl (by rw [s1_1] <;> rfl) (by decide) ?_
      refine v_iconst K (3) dX2_sideOf_56 (by decide) ?_
      refine v_iret K E dX2_sideOf_57 ?_ rfl
      exact ⟨by rw [s1_1] <;> rfl, rfl⟩
    · refine v_case (45) (fun s1_2 => ?_) (fun s1_2 => ?_)
      · refine v_lk K 58 dX2_sideOf_1 rfl (by rw [s1_2] <;> rfl) (by decide) ?_
        refine v_iconst K (4) dX2_sideOf_58 (by decide) ?_
        refine v_iret K E dX2_sideOf_59 ?_ rfl
        exact ⟨by rw [s1_2] <;> rfl, rfl⟩
      · refine v_case (60) (fun s1_3 => ?_) (fun s1_3 => ?_)
        · refine v_lk K 60 dX2_sideOf_1 rfl (by rw [s1_3] <;> rfl) (by decide) ?_
          refine v_iconst K (5) dX2_sideOf_60 (by decide) ?_
          refine v_iret K E dX2_sideOf_61 ?_ rfl
          exact ⟨by rw [s1_3] <;> rfl, rfl⟩
        · refine v_case (94) (fun s1_4 => ?_) (fun s1_4 => ?_)
          · refine v_lk K 52 dX2_sideOf_1 rfl (by rw [s1_4] <;> rfl) (by decide) ?_
            refine v_iconst K (1) dX2_sideOf_52 (by decide) ?_
            refine v_iret K E dX2_sideOf_53 ?_ rfl
            exact ⟨by rw [s1_4] <;> rfl, rfl⟩
          · refine v_lk (off := 61) K 62 dX2_sideOf_1 rfl ((lv_osw s1_0 rfl).trans ((lv_osw s1_1 rfl).trans ((lv_osw s1_2 rfl).trans ((lv_osw s1_3 rfl).trans ((lv_osw s1_4 rfl).trans (rfl)))))) (by decide) ?_
            refine v_iconst K (0) dX2_sideOf_62 (by decide) ?_
            refine v_iret K E dX2_sideOf_63 ?_ rfl
            exact ⟨by unfold sdOf; rw [if_neg s1_4, if_neg s1_0, if_neg s1_1, if_neg s1_2, if_neg s1_3] <;> rfl, rfl⟩

theorem hd_X2_begin : yX2_begin.cls = RX2 ∧ yX2_begin.cls ≠ "java/lang/invoke/MethodHandle" ∧ yX2_begin.cls ≠ "java/lang/invoke/VarHandle" ∧ (parseMethodDescriptor yX2_begin.desc).map (fun d => d.parameters.length) = some 0 := by decide +kernel
set_option maxHeartbeats 4000000 in
set_option maxRecDepth 100000 in
theorem c_X2_begin (cI cB : ClassId) (rd lt tx : Nat) (P e s d k : Int32)  : Ct cI cB yX2_begin wsX2_begin { frames := 0, cells := 0, slots := 0, locals := 0 } [.ref rd] [rdM rd lt tx P e s d k] (dn [rdM rd lt tx (nI 0) e s d k]) := by
  refine ct_of (cc := cX2_begin) (maxL := 1) (ret := none) (by decide) rfl (Nat.le_of_ble_eq_true rfl) [(0, .ref rd)] rfl ?_
  intro X hI hB K E
  subst hI
  subst hB
  have iX2 : ∀ w ∈ u_ws RX2 TX2 7, w ∈ wsX2_begin := by decide +kernel
  refine v_aload_n K dX2_begin_0 rfl ?_
  refine v_iconst K (0) dX2_begin_1 (by decide) ?_
  refine v_put K 0 rfl rfl iX2 tyX2 tyX2_ok nmX2 2 (by decide) rfl (by decide +kernel) rfl rfl (Nat.le_of_ble_eq_true rfl) dX2_begin_2 ?_
  refine v_ret K E dX2_begin_5 ?_ rfl
  exact ⟨rfl, rfl⟩

theorem hd_X2_isAtEnd : yX2_isAtEnd.cls = RX2 ∧ yX2_isAtEnd.cls ≠ "java/lang/invoke/MethodHandle" ∧ yX2_isAtEnd.cls ≠ "java/lang/invoke/VarHandle" ∧ (parseMethodDescriptor yX2_isAtEnd.desc).map (fun d => d.parameters.length) = some 0 := by decide +kernel
set_option maxHeartbeats 4000000 in
set_option maxRecDepth 100000 in
theorem c_X2_isAtEnd (cI cB : ClassId) (rd lt tx ta tc : Nat) (ts : List Int32) (P : Nat) (e s d k : Int32) (hP : P ≤ ts.length) : Ct cI cB yX2_isAtEnd wsX2_isAtEnd { frames := 1, cells := 0, slots := 0, locals := 20 } [.ref rd] [rdM rd lt tx (nI P) e s d k, rowM cI tx ta tc ts] (dv (bI (decide (ts.length ≤ P))) [rdM rd lt tx (nI P) e s d k, rowM cI tx ta tc ts]) := by
  refine ct_of (cc := cX2_isAtEnd) (maxL := 1) (ret := (some .boolean)) (by decide) rfl (Nat.le_of_ble_eq_true rfl) [(0, .ref rd)] rfl ?_
  intro X hI hB K E
  subst hI
  subst hB
  have iX2 : ∀ w ∈ u_ws RX2 TX2 7, w ∈ wsX2_isAtEnd := by decide +kernel
  refine v_rowlen 1 rfl (fun hT => ?_)
  refine v_aload_n K dX2_isAtEnd_0 rfl ?_
  refine v_get K 0 rfl hasF_c rfl iX2 2 (by decide) rfl (by decide +kernel) rfl dX2_isAtEnd_1 ?_
  refine v_aload_n K dX2_isAtEnd_4 rfl ?_
  refine v_get K 0 rfl hasF_c rfl iX2 1 (by decide) rfl (by decide +kernel) rfl dX2_isAtEnd_5 ?_
  refine v_callVi K [1] (c_X3_size (XI X) (XB X) _ _ _ _ ) rfl gX2_isAtEnd_X3_size rfl rfl hd_X3_size ⟨rfl, rfl⟩ ⟨by decide, by decide⟩ 1 rfl rowF rfl (by decide) (Nat.le_of_ble_eq_true rfl) ⟨Nat.zero_le _, Nat.zero_le _⟩ rfl dX2_isAtEnd_8 ?_
  refine v_ic_lt K 18 dX2_isAtEnd_11 (by decide) (fun c11 => ?_) (fun c11 => ?_)
  · refine v_iconst K (0) dX2_isAtEnd_18 (by decide) ?_
    refine v_zret K E dX2_isAtEnd_19 (by first | exact Or.inl rfl | exact Or.inr rfl | exact bI_01 _) ?_ rfl
    exact ⟨by rw [end_0 hP hT c11], rfl⟩
  · refine v_iconst K (1) dX2_isAtEnd_14 (by decide) ?_
    refine v_goto K 19 dX2_isAtEnd_15 (by decide) ?_
    refine v_zret K E dX2_isAtEnd_19 (by first | exact Or.inl rfl | exact Or.inr rfl | exact bI_01 _) ?_ rfl
    exact ⟨by rw [end_1 hP hT c11], rfl⟩

theorem hd_X2_fault : yX2_fault.cls = RX2 ∧ yX2_fault.cls ≠ "java/lang/invoke/MethodHandle" ∧ yX2_fault.cls ≠ "java/lang/invoke/VarHandle" ∧ (parseMethodDescriptor yX2_fault.desc).map (fun d => d.parameters.length) = some 0 := by decide +kernel
set_option maxHeartbeats 4000000 in
set_option maxRecDepth 100000 in
theorem c_X2_fault (cI cB : ClassId) (rd lt tx : Nat) (P : Nat) (e s d k : Int32)  : Ct cI cB yX2_fault wsX2_fault { frames := 0, cells := 0, slots := 0, locals := 0 } [.ref rd] [rdM rd lt tx (nI P) e s d k] (dv (-100 - nI P) [rdM rd lt tx (nI P) e s d k]) := by
  refine ct_of (cc := cX2_fault) (maxL := 1) (ret := (some .int)) (by decide) rfl (Nat.le_of_ble_eq_true rfl) [(0, .ref rd)] rfl ?_
  intro X hI hB K E
  subst hI
  subst hB
  have iX2 : ∀ w ∈ u_ws RX2 TX2 7, w ∈ wsX2_fault := by decide +kernel
  refine v_bipush K (-100) dX2_fault_0 (by decide) ?_
  refine v_aload_n K dX2_fault_2 rfl ?_
  refine v_get K 0 rfl hasF_c rfl iX2 2 (by decide) rfl (by decide +kernel) rfl dX2_fault_3 ?_
  refine v_isub K dX2_fault_6 ?_
  refine v_iret K E dX2_fault_7 ?_ rfl
  exact ⟨rfl, rfl⟩

theorem hd_X2_take : yX2_take.cls = RX2 ∧ yX2_take.cls ≠ "java/lang/invoke/MethodHandle" ∧ yX2_take.cls ≠ "java/lang/invoke/VarHandle" ∧ (parseMethodDescriptor yX2_take.desc).map (fun d => d.parameters.length) = some 1 := by decide +kernel
set_option maxHeartbeats 4000000 in
set_option maxRecDepth 100000 in
theorem c_X2_take (cI cB : ClassId) (rd lt tx ta tc : Nat) (ts : List Int32) (P : Nat) (e s d k : Int32) (c : Int32) (hP : P ≤ ts.length) : Ct cI cB yX2_take wsX2_take { frames := 1, cells := 0, slots := 0, locals := 21 } [.ref rd, .int c] [rdM rd lt tx (nI P) e s d k, rowM cI tx ta tc ts] (dv (bI (decide (ts.getD P (-5) = c))) [rdM rd lt tx (nI (tkP ts P c)) e s d k, rowM cI tx ta tc ts]) := by
  refine ct_of (cc := cX2_take) (maxL := 3) (ret := (some .boolean)) (by decide) rfl (Nat.le_of_ble_eq_true rfl) [(0, .ref rd), (1, .int c)] rfl ?_
  intro X hI hB K E
  subst hI
  subst hB
  have iX2 : ∀ w ∈ u_ws RX2 TX2 7, w ∈ wsX2_take := by decide +kernel
  refine v_rowlen 1 rfl (fun hT => ?_)
  refine v_aload_n K dX2_take_0 rfl ?_
  refine v_get K 0 rfl hasF_c rfl iX2 1 (by decide) rfl (by decide +kernel) rfl dX2_take_1 ?_
  refine v_aload_n K dX2_take_4 rfl ?_
  refine v_get K 0 rfl hasF_c rfl iX2 2 (by decide) rfl (by decide +kernel) rfl dX2_take_5 ?_
  refine v_callVi K [1] (c_X3_get (XI X) (XB X) _ _ _ _ _ ) rfl gX2_take_X3_get rfl rfl hd_X3_get ⟨rfl, rfl⟩ ⟨by decide, by decide⟩ 1 rfl rowF rfl (by decide) (Nat.le_of_ble_eq_true rfl) ⟨Nat.zero_le _, Nat.zero_le _⟩ rfl dX2_take_8 ?_
  rw [gt_n (by omega)]
  refine v_iload_n K dX2_take_11 rfl ?_
  refine v_ic_ne K 19 dX2_take_12 (by decide) (fun c12 => ?_) (fun c12 => ?_)
  · refine v_iconst K (0) dX2_take_19 (by decide) ?_
    refine v_istore_n K dX2_take_20 (by decide) ?_
    refine v_iload_n K dX2_take_21 rfl ?_
    refine v_if_eq K 35 dX2_take_22 (by decide) (fun _ => ?_) (fun c => absurd (by decide) c)
    refine v_iload_n K dX2_take_35 rfl ?_
    refine v_zret K E dX2_take_36 (by first | exact Or.inl rfl | exact Or.inr rfl | exact bI_01 _) ?_ rfl
    exact ⟨by rw [decide_eq_false c12] <;> rfl, by unfold tkP; rw [if_neg c12] <;> rfl⟩
  · refine v_iconst K (1) dX2_take_15 (by decide) ?_
    refine v_goto K 20 dX2_take_16 (by decide) ?_
    refine v_istore_n K dX2_take_20 (by decide) ?_
    refine v_iload_n K dX2_take_21 rfl ?_
    refine v_if_eq K 35 dX2_take_22 (by decide) (fun c => absurd c (by decide)) (fun _ => ?_)
    refine v_aload_n K dX2_take_25 rfl ?_
    refine v_dup K dX2_take_26 rfl ?_
    refine v_get K 0 rfl hasF_c rfl iX2 2 (by decide) rfl (by decide +kernel) rfl dX2_take_27 ?_
    refine v_iconst K (1) dX2_take_30 (by decide) ?_
    refine v_iadd K dX2_take_31 ?_
    rw [nI_1]
    refine v_put K 0 rfl rfl iX2 tyX2 tyX2_ok nmX2 2 (by decide) rfl (by decide +kernel) rfl rfl (Nat.le_of_ble_eq_true rfl) dX2_take_32 ?_
    refine v_iload_n K dX2_take_35 rfl ?_
    refine v_zret K E dX2_take_36 (by first | exact Or.inl rfl | exact Or.inr rfl | exact bI_01 _) ?_ rfl
    exact ⟨by rw [decide_eq_true c12] <;> rfl, by unfold tkP; rw [if_pos c12] <;> rfl⟩

theorem hd_X2_takeLetters : yX2_takeLetters.cls = RX2 ∧ yX2_takeLetters.cls ≠ "java/lang/invoke/MethodHandle" ∧ yX2_takeLetters.cls ≠ "java/lang/invoke/VarHandle" ∧ (parseMethodDescriptor yX2_takeLetters.desc).map (fun d => d.parameters.length) = some 1 := by decide +kernel
set_option maxHeartbeats 4000000 in
set_option maxRecDepth 100000 in
theorem c_X2_takeLetters (cI cB : ClassId) (rd lt la tx ta tc : Nat) (ts : List Int32) (P : Nat) (e s d k : Int32) (xs : List Int32) (m : Nat) (hP : P ≤ ts.length) (hm : m ≤ 25) : Ct cI cB yX2_takeLetters wsX2_takeLetters { frames := 1, cells := 0, slots := 0, locals := 21 } [.ref rd, .int (nI m)] [rdM rd lt tx (nI P) e s d k, rowM cI lt la 25 xs, rowM cI tx ta tc ts] (dv (bI (decide (0 < (tlF m (ts.drop P)).length))) [rdM rd lt tx (nI (P + (tlF m (ts.drop P)).length)) e s d k, rowM cI lt la 25 (tlF m (ts.drop P)), rowM cI tx ta tc ts]) := by
  refine ct_of (cc := cX2_takeLetters) (maxL := 3) (ret := (some .boolean)) (by decide) rfl (Nat.le_of_ble_eq_true rfl) [(0, .ref rd), (1, .int (nI m))] rfl ?_
  intro X hI hB K E
  subst hI
  subst hB
  have iX2 : ∀ w ∈ u_ws RX2 TX2 7, w ∈ wsX2_takeLetters := by decide +kernel
  refine v_rowlen 2 rfl (fun hT => ?_)
  have lp : ∀ k2, k2 ≤ m → ∀ (x : Int32) (zs : List Int32), x = nI k2 → zs.length = k2 → P + k2 ≤ ts.length → zs ++ tlF (m - k2) (ts.drop (P + k2)) = tlF m (ts.drop P) → V X 0 0 9 [(0, .ref rd), (1, .int (nI m)), (2, .int x)] [] [rdM rd lt tx (nI (P + k2)) e s d k, rowM (XI X) lt la 25 zs, rowM (XI X) tx ta tc ts] := by
    refine loop_up m ?_
    intro k2 hk ih x zs hx hl hp2 hy
    subst hx
    refine v_iload_n K dX2_takeLetters_9 rfl ?_
    refine v_iload_n K dX2_takeLetters_10 rfl ?_
    refine v_ic_ge K 65 dX2_takeLetters_11 (by decide) (fun c11 => ?_) (fun c11 => ?_)
    · have hE : zs = tlF m (ts.drop P) := by rw [← hy, up_end rfl (by omega) hk c11, Nat.sub_self]; exact (List.append_nil _).symm
      have hkl : k2 = (tlF m (ts.drop P)).length := by rw [← hE]; exact hl.symm
      have hln : (tlF m (ts.drop P)).length < 1000000000 := by omega
      subst hE
      subst hkl
      refine v_aload_n K dX2_takeLetters_65 rfl ?_
      refine v_get K 0 rfl hasF_c rfl iX2 0 (by decide) rfl (by decide +kernel) rfl dX2_takeLetters_66 ?_
      refine v_callVi K [1] (c_X3_size (XI X) (XB X) _ _ _ _ ) rfl gX2_takeLetters_X3_size rfl rfl hd_X3_size ⟨rfl, rfl⟩ ⟨by decide, by decide⟩ 1 rfl rowF rfl (by decide) (Nat.le_of_ble_eq_true rfl) ⟨Nat.zero_le _, Nat.zero_le _⟩ rfl dX2_takeLetters_69 ?_
      refine v_if_le K 79 dX2_takeLetters_72 (by decide) (fun c72 => ?_) (fun c72 => ?_)
      · refine v_iconst K (0) dX2_takeLetters_79 (by decide) ?_
        refine v_zret K E dX2_takeLetters_80 (by first | exact Or.inl rfl | exact Or.inr rfl | exact bI_01 _) ?_ rfl
        exact ⟨by rw [pos_0 hln c72], rfl⟩
      · refine v_iconst K (1) dX2_takeLetters_75 (by decide) ?_
        refine v_goto K 80 dX2_takeLetters_76 (by decide) ?_
        refine v_zret K E dX2_takeLetters_80 (by first | exact Or.inl rfl | exact Or.inr rfl | exact bI_01 _) ?_ rfl
        exact ⟨by rw [pos_1 c72], rfl⟩
    · have hlt := up_lt rfl (by omega) hk c11
      refine v_aload_n K dX2_takeLetters_14 rfl ?_
      refine v_get K 0 rfl hasF_c rfl iX2 1 (by decide) rfl (by decide +kernel) rfl dX2_takeLetters_15 ?_
      refine v_aload_n K dX2_takeLetters_18 rfl ?_
      refine v_get K 0 rfl hasF_c rfl iX2 2 (by decide) rfl (by decide +kernel) rfl dX2_takeLetters_19 ?_
      refine v_callVi K [2] (c_X3_get (XI X) (XB X) _ _ _ _ _ ) rfl gX2_takeLetters_X3_get rfl rfl hd_X3_get ⟨rfl, rfl⟩ ⟨by decide, by decide⟩ 2 rfl rowF rfl (by decide) (Nat.le_of_ble_eq_true rfl) ⟨Nat.zero_le _, Nat.zero_le _⟩ rfl dX2_takeLetters_22 ?_
      rw [gt_n (by omega)]
      refine v_callNi (host := RX7) K [] (c_X7_isSmall (XI X) (XB X) _ ) rfl gX2_takeLetters_X7_isSmall_n38 rfl rfl (by decide +kernel) (by decide +kernel) (by decide +kernel) hd_X7_isSmall ⟨rfl, rfl⟩ ⟨by decide, by decide⟩ (by decide) (Nat.le_of_ble_eq_true rfl) ⟨Nat.zero_le _, Nat.zero_le _⟩ rfl dX2_takeLetters_25 ?_
      refine v_if_eq K 65 dX2_takeLetters_28 (by decide) (fun c28 => ?_) (fun c28 => ?_)
      · have hE : zs = tlF m (ts.drop P) := by rw [← hy, tlF_miss (bI_0 c28)]; exact (List.append_nil _).symm
        have hkl : k2 = (tlF m (ts.drop P)).length := by rw [← hE]; exact hl.symm
        have hln : (tlF m (ts.drop P)).length < 1000000000 := by omega
        subst hE
        subst hkl
        refine v_aload_n K dX2_takeLetters_65 rfl ?_
        refine v_get K 0 rfl hasF_c rfl iX2 0 (by decide) rfl (by decide +kernel) rfl dX2_takeLetters_66 ?_
        refine v_callVi K [1] (c_X3_size (XI X) (XB X) _ _ _ _ ) rfl gX2_takeLetters_X3_size rfl rfl hd_X3_size ⟨rfl, rfl⟩ ⟨by decide, by decide⟩ 1 rfl rowF rfl (by decide) (Nat.le_of_ble_eq_true rfl) ⟨Nat.zero_le _, Nat.zero_le _⟩ rfl dX2_takeLetters_69 ?_
        refine v_if_le K 79 dX2_takeLetters_72 (by decide) (fun c72 => ?_) (fun c72 => ?_)
        · refine v_iconst K (0) dX2_takeLetters_79 (by decide) ?_
          refine v_zret K E dX2_takeLetters_80 (by first | exact Or.inl rfl | exact Or.inr rfl | exact bI_01 _) ?_ rfl
          exact ⟨by rw [pos_0 hln c72], rfl⟩
        · refine v_iconst K (1) dX2_takeLetters_75 (by decide) ?_
          refine v_goto K 80 dX2_takeLetters_76 (by decide) ?_
          refine v_zret K E dX2_takeLetters_80 (by first | exact Or.inl rfl | exact Or.inr rfl | exact bI_01 _) ?_ rfl
          exact ⟨by rw [pos_1 c72], rfl⟩
      · have hsm := bI_1 c28
        have hat := sm_at hsm
        refine v_aload_n K dX2_takeLetters_31 rfl ?_
        refine v_get K 0 rfl hasF_c rfl iX2 0 (by decide) rfl (by decide +kernel) rfl dX2_takeLetters_32 ?_
        refine v_aload_n K dX2_takeLetters_35 rfl ?_
        refine v_get K 0 rfl hasF_c rfl iX2 1 (by decide) rfl (by decide +kernel) rfl dX2_takeLetters_36 ?_
        refine v_aload_n K dX2_takeLetters_39 rfl ?_
        refine v_get K 0 rfl hasF_c rfl iX2 2 (by decide) rfl (by decide +kernel) rfl dX2_takeLetters_40 ?_
        refine v_callVi K [2] (c_X3_get (XI X) (XB X) _ _ _ _ _ ) rfl gX2_takeLetters_X3_get rfl rfl hd_X3_get ⟨rfl, rfl⟩ ⟨by decide, by decide⟩ 2 rfl rowF rfl (by decide) (Nat.le_of_ble_eq_true rfl) ⟨Nat.zero_le _, Nat.zero_le _⟩ rfl dX2_takeLetters_43 ?_
        rw [gt_n (by omega)]
        refine v_callVv K [1] (c_X3_add (XI X) (XB X) _ _ _ _ _ ) rfl gX2_takeLetters_X3_add rfl rfl hd_X3_add ⟨rfl, rfl⟩ ⟨by decide, by decide⟩ 1 rfl rowF rfl (by decide) (Nat.le_of_ble_eq_true rfl) ⟨Nat.zero_le _, Nat.zero_le _⟩ rfl dX2_takeLetters_46 ?_
        refine v_aload_n K dX2_takeLetters_49 rfl ?_
        refine v_dup K dX2_takeLetters_50 rfl ?_
        refine v_get K 0 rfl hasF_c rfl iX2 2 (by decide) rfl (by decide +kernel) rfl dX2_takeLetters_51 ?_
        refine v_iconst K (1) dX2_takeLetters_54 (by decide) ?_
        refine v_iadd K dX2_takeLetters_55 ?_
        rw [nI_1]
        refine v_put K 0 rfl rfl iX2 tyX2 tyX2_ok nmX2 2 (by decide) rfl (by decide +kernel) rfl rfl (Nat.le_of_ble_eq_true rfl) dX2_takeLetters_56 ?_
        refine v_iinc K dX2_takeLetters_59 rfl (by decide) iinc_1 ?_
        refine v_goto K 9 dX2_takeLetters_62 (by decide) ?_
        exact v_j (ih hlt _ (zs ++ [ts.getD (P + k2) (-5)]) (nI_1 k2) (by rw [List.length_append, List.length_singleton, hl]) (by omega) (by rw [← hy, show m - k2 = (m - (k2 + 1)) + 1 by omega, tlF_hit hsm hat, List.append_assoc]; rfl)) rfl rfl (by rw [← adL_lt (cap := 25) (by omega)]; rfl)
  refine v_aload_n K dX2_takeLetters_0 rfl ?_
  refine v_get K 0 rfl hasF_c rfl iX2 0 (by decide) rfl (by decide +kernel) rfl dX2_takeLetters_1 ?_
  refine v_callVv K [1] (c_X3_clear (XI X) (XB X) _ _ _ _ ) rfl gX2_takeLetters_X3_clear rfl rfl hd_X3_clear ⟨rfl, rfl⟩ ⟨by decide, by decide⟩ 1 rfl rowF rfl (by decide) (Nat.le_of_ble_eq_true rfl) ⟨Nat.zero_le _, Nat.zero_le _⟩ rfl dX2_takeLetters_4 ?_
  refine v_iconst K (0) dX2_takeLetters_7 (by decide) ?_
  refine v_istore_n K dX2_takeLetters_8 (by decide) ?_
  exact v_j (lp 0 (Nat.zero_le _) 0 [] rfl rfl hP rfl) rfl rfl rfl

theorem hd_X2_takeSound : yX2_takeSound.cls = RX2 ∧ yX2_takeSound.cls ≠ "java/lang/invoke/MethodHandle" ∧ yX2_takeSound.cls ≠ "java/lang/invoke/VarHandle" ∧ (parseMethodDescriptor yX2_takeSound.desc).map (fun d => d.parameters.length) = some 0 := by decide +kernel
set_option maxHeartbeats 4000000 in
set_option maxRecDepth 100000 in
theorem c_X2_takeSound (cI cB : ClassId) (rd lt tx ta tc : Nat) (ts : List Int32) (P : Nat) (e s d k : Int32) (hP : P ≤ ts.length) : Ct cI cB yX2_takeSound wsX2_takeSound { frames := 1, cells := 0, slots := 0, locals := 21 } [.ref rd] [rdM rd lt tx (nI P) e s d k, rowM cI tx ta tc ts] (dv (bI (sndOk (ts.getD P (-5)))) [rdM rd lt tx (nI (sndP ts P)) e (sndV ts P s) d k, rowM cI tx ta tc ts]) := by
  refine ct_of (cc := cX2_takeSound) (maxL := 2) (ret := (some .boolean)) (by decide) rfl (Nat.le_of_ble_eq_true rfl) [(0, .ref rd)] rfl ?_
  intro X hI hB K E
  subst hI
  subst hB
  have iX2 : ∀ w ∈ u_ws RX2 TX2 7, w ∈ wsX2_takeSound := by decide +kernel
  refine v_rowlen 1 rfl (fun hT => ?_)
  refine v_aload_n K dX2_takeSound_0 rfl ?_
  refine v_get K 0 rfl hasF_c rfl iX2 1 (by decide) rfl (by decide +kernel) rfl dX2_takeSound_1 ?_
  refine v_aload_n K dX2_takeSound_4 rfl ?_
  refine v_get K 0 rfl hasF_c rfl iX2 2 (by decide) rfl (by decide +kernel) rfl dX2_takeSound_5 ?_
  refine v_callVi K [1] (c_X3_get (XI X) (XB X) _ _ _ _ _ ) rfl gX2_takeSound_X3_get rfl rfl hd_X3_get ⟨rfl, rfl⟩ ⟨by decide, by decide⟩ 1 rfl rowF rfl (by decide) (Nat.le_of_ble_eq_true rfl) ⟨Nat.zero_le _, Nat.zero_le _⟩ rfl dX2_takeSound_8 ?_
  rw [gt_n (by omega)]
  refine v_istore_n K dX2_takeSound_11 (by decide) ?_
  refine v_iload_n K dX2_takeSound_12 rfl ?_
  refine v_bipush K (95) dX2_takeSound_13 (by decide) ?_
  refine v_ic_eq K 27 dX2_takeSound_15 (by decide) (fun c15 => ?_) (fun c15 => ?_)
  · have hok : sndOk (ts.getD P (-5)) = true := by unfold sndOk; rw [decide_eq_true c15] <;> rfl
    refine v_aload_n K dX2_takeSound_27 rfl ?_
    refine v_iload_n K dX2_takeSound_28 rfl ?_
    refine v_bipush K (95) dX2_takeSound_29 (by decide) ?_
    refine v_ic_ne K 38 dX2_takeSound_31 (by decide) (fun c31 => ?_) (fun c31 => ?_)
    · refine v_iload_n K dX2_takeSound_38 rfl ?_
      refine v_put K 0 rfl rfl iX2 tyX2 tyX2_ok nmX2 4 (by decide) rfl (by decide +kernel) rfl rfl (Nat.le_of_ble_eq_true rfl) dX2_takeSound_39 ?_
      refine v_aload_n K dX2_takeSound_42 rfl ?_
      refine v_dup K dX2_takeSound_43 rfl ?_
      refine v_get K 0 rfl hasF_c rfl iX2 2 (by decide) rfl (by decide +kernel) rfl dX2_takeSound_44 ?_
      refine v_iconst K (1) dX2_takeSound_47 (by decide) ?_
      refine v_iadd K dX2_takeSound_48 ?_
      rw [nI_1]
      refine v_put K 0 rfl rfl iX2 tyX2 tyX2_ok nmX2 2 (by decide) rfl (by decide +kernel) rfl rfl (Nat.le_of_ble_eq_true rfl) dX2_takeSound_49 ?_
      refine v_iconst K (1) dX2_takeSound_52 (by decide) ?_
      refine v_zret K E dX2_takeSound_53 (by first | exact Or.inl rfl | exact Or.inr rfl | exact bI_01 _) ?_ rfl
      exact ⟨by rw [hok] <;> rfl, by unfold sndP sndV; rw [if_pos hok, if_pos hok, if_neg c31] <;> rfl⟩
    · refine v_iconst K (0) dX2_takeSound_34 (by decide) ?_
      refine v_goto K 39 dX2_takeSound_35 (by decide) ?_
      refine v_put K 0 rfl rfl iX2 tyX2 tyX2_ok nmX2 4 (by decide) rfl (by decide +kernel) rfl rfl (Nat.le_of_ble_eq_true rfl) dX2_takeSound_39 ?_
      refine v_aload_n K dX2_takeSound_42 rfl ?_
      refine v_dup K dX2_takeSound_43 rfl ?_
      refine v_get K 0 rfl hasF_c rfl iX2 2 (by decide) rfl (by decide +kernel) rfl dX2_takeSound_44 ?_
      refine v_iconst K (1) dX2_takeSound_47 (by decide) ?_
      refine v_iadd K dX2_takeSound_48 ?_
      rw [nI_1]
      refine v_put K 0 rfl rfl iX2 tyX2 tyX2_ok nmX2 2 (by decide) rfl (by decide +kernel) rfl rfl (Nat.le_of_ble_eq_true rfl) dX2_takeSound_49 ?_
      refine v_iconst K (1) dX2_takeSound_52 (by decide) ?_
      refine v_zret K E dX2_takeSound_53 (by first | exact Or.inl rfl | exact Or.inr rfl | exact bI_01 _) ?_ rfl
      exact ⟨by rw [hok] <;> rfl, by unfold sndP sndV; rw [if_pos hok, if_pos hok, if_pos c31] <;> rfl⟩
  · refine v_iload_n K dX2_takeSound_18 rfl ?_
    refine v_callNi (host := RX7) K [] (c_X7_isCapital (XI X) (XB X) _ ) rfl gX2_takeSound_X7_isCapital_n49 rfl rfl (by decide +kernel) (by decide +kernel) (by decide +kernel) hd_X7_isCapital ⟨rfl, rfl⟩ ⟨by decide, by decide⟩ (by decide) (Nat.le_of_ble_eq_true rfl) ⟨Nat.zero_le _, Nat.zero_le _⟩ rfl dX2_takeSound_19 ?_
    refine v_if_ne K 27 dX2_takeSound_22 (by decide) (fun c22 => ?_) (fun c22 => ?_)
    · have hok : sndOk (ts.getD P (-5)) = true := by unfold sndOk; rw [bI_1 c22, Bool.or_true]
      refine v_aload_n K dX2_takeSound_27 rfl ?_
      refine v_iload_n K dX2_takeSound_28 rfl ?_
      refine v_bipush K (95) dX2_takeSound_29 (by decide) ?_
      refine v_ic_ne K 38 dX2_takeSound_31 (by decide) (fun c31 => ?_) (fun c31 => ?_)
      · refine v_iload_n K dX2_takeSound_38 rfl ?_
        refine v_put K 0 rfl rfl iX2 tyX2 tyX2_ok nmX2 4 (by decide) rfl (by decide +kernel) rfl rfl (Nat.le_of_ble_eq_true rfl) dX2_takeSound_39 ?_
        refine v_aload_n K dX2_takeSound_42 rfl ?_
        refine v_dup K dX2_takeSound_43 rfl ?_
        refine v_get K 0 rfl hasF_c rfl iX2 2 (by decide) rfl (by decide +kernel) rfl dX2_takeSound_44 ?_
        refine v_iconst K (1) dX2_takeSound_47 (by decide) ?_
        refine v_iadd K dX2_takeSound_48 ?_
        rw [nI_1]
        refine v_put K 0 rfl rfl iX2 tyX2 tyX2_ok nmX2 2 (by decide) rfl (by decide +kernel) rfl rfl (Nat.le_of_ble_eq_true rfl) dX2_takeSound_49 ?_
        refine v_iconst K (1) dX2_takeSound_52 (by decide) ?_
        refine v_zret K E dX2_takeSound_53 (by first | exact Or.inl rfl | exact Or.inr rfl | exact bI_01 _) ?_ rfl
        exact ⟨by rw [hok] <;> rfl, by unfold sndP sndV; rw [if_pos hok, if_pos hok, if_neg c31] <;> rfl⟩
      · refine v_iconst K (0) dX2_takeSound_34 (by decide) ?_
        refine v_goto K 39 dX2_takeSound_35 (by decide) ?_
        refine v_put K 0 rfl rfl iX2 tyX2 tyX2_ok nmX2 4 (by decide) rfl (by decide +kernel) rfl rfl (Nat.le_of_ble_eq_true rfl) dX2_takeSound_39 ?_
        refine v_aload_n K dX2_takeSound_42 rfl ?_
        refine v_dup K dX2_takeSound_43 rfl ?_
        refine v_get K 0 rfl hasF_c rfl iX2 2 (by decide) rfl (by decide +kernel) rfl dX2_takeSound_44 ?_
        refine v_iconst K (1) dX2_takeSound_47 (by decide) ?_
        refine v_iadd K dX2_takeSound_48 ?_
        rw [nI_1]
        refine v_put K 0 rfl rfl iX2 tyX2 tyX2_ok nmX2 2 (by decide) rfl (by decide +kernel) rfl rfl (Nat.le_of_ble_eq_true rfl) dX2_takeSound_49 ?_
        refine v_iconst K (1) dX2_takeSound_52 (by decide) ?_
        refine v_zret K E dX2_takeSound_53 (by first | exact Or.inl rfl | exact Or.inr rfl | exact bI_01 _) ?_ rfl
        exact ⟨by rw [hok] <;> rfl, by unfold sndP sndV; rw [if_pos hok, if_pos hok, if_pos c31] <;> rfl⟩
    · have hok : sndOk (ts.getD P (-5)) = false := by unfold sndOk; rw [decide_eq_false c15, bI_0 c22] <;> rfl
      refine v_iconst K (0) dX2_takeSound_25 (by decide) ?_
      refine v_zret K E dX2_takeSound_26 (by first | exact Or.inl rfl | exact Or.inr rfl | exact bI_01 _) ?_ rfl
      exact ⟨by rw [hok] <;> rfl, by unfold sndP sndV; rw [if_neg (by rw [hok]; exact Bool.false_ne_true), if_neg (by rw [hok]; exact Bool.false_ne_true)] <;> rfl⟩

theorem hd_X2_takeSide : yX2_takeSide.cls = RX2 ∧ yX2_takeSide.cls ≠ "java/lang/invoke/MethodHandle" ∧ yX2_takeSide.cls ≠ "java/lang/invoke/VarHandle" ∧ (parseMethodDescriptor yX2_takeSide.desc).map (fun d => d.parameters.length) = some 0 := by decide +kernel
set_option maxHeartbeats 4000000 in
set_option maxRecDepth 100000 in
theorem c_X2_takeSide (cI cB : ClassId) (rd lt tx ta tc : Nat) (ts : List Int32) (P : Nat) (e s d k : Int32) (hP : P ≤ ts.length) : Ct cI cB yX2_takeSide wsX2_takeSide { frames := 1, cells := 0, slots := 0, locals := 21 } [.ref rd] [rdM rd lt tx (nI P) e s d k, rowM cI tx ta tc ts] (dv (sdOf (ts.getD P (-5))) [rdM rd lt tx (nI (sdP ts P)) e s d k, rowM cI tx ta tc ts]) := by
  refine ct_of (cc := cX2_takeSide) (maxL := 2) (ret := (some .int)) (by decide) rfl (Nat.le_of_ble_eq_true rfl) [(0, .ref rd)] rfl ?_
  intro X hI hB K E
  subst hI
  subst hB
  have iX2 : ∀ w ∈ u_ws RX2 TX2 7, w ∈ wsX2_takeSide := by decide +kernel
  refine v_rowlen 1 rfl (fun hT => ?_)
  refine v_aload_n K dX2_takeSide_0 rfl ?_
  refine v_get K 0 rfl hasF_c rfl iX2 1 (by decide) rfl (by decide +kernel) rfl dX2_takeSide_1 ?_
  refine v_aload_n K dX2_takeSide_4 rfl ?_
  refine v_get K 0 rfl hasF_c rfl iX2 2 (by decide) rfl (by decide +kernel) rfl dX2_takeSide_5 ?_
  refine v_callVi K [1] (c_X3_get (XI X) (XB X) _ _ _ _ _ ) rfl gX2_takeSide_X3_get rfl rfl hd_X3_get ⟨rfl, rfl⟩ ⟨by decide, by decide⟩ 1 rfl rowF rfl (by decide) (Nat.le_of_ble_eq_true rfl) ⟨Nat.zero_le _, Nat.zero_le _⟩ rfl dX2_takeSide_8 ?_
  rw [gt_n (by omega)]
  refine v_callSi K [] (c_X2_sideOf (XI X) (XB X) _ ) rfl gX2_takeSide_X2_sideOf rfl rfl hd_X2_sideOf ⟨rfl, rfl⟩ ⟨by decide, by decide⟩ (by decide) (Nat.le_of_ble_eq_true rfl) ⟨Nat.zero_le _, Nat.zero_le _⟩ rfl dX2_takeSide_11 ?_
  refine v_istore_n K dX2_takeSide_14 (by decide) ?_
  refine v_iload_n K dX2_takeSide_15 rfl ?_
  refine v_if_eq K 29 dX2_takeSide_16 (by decide) (fun c16 => ?_) (fun c16 => ?_)
  · refine v_iload_n K dX2_takeSide_29 rfl ?_
    refine v_iret K E dX2_takeSide_30 ?_ rfl
    exact ⟨rfl, by unfold sdP; rw [if_pos c16] <;> rfl⟩
  · refine v_aload_n K dX2_takeSide_19 rfl ?_
    refine v_dup K dX2_takeSide_20 rfl ?_
    refine v_get K 0 rfl hasF_c rfl iX2 2 (by decide) rfl (by decide +kernel) rfl dX2_takeSide_21 ?_
    refine v_iconst K (1) dX2_takeSide_24 (by decide) ?_
    refine v_iadd K dX2_takeSide_25 ?_
    rw [nI_1]
    refine v_put K 0 rfl rfl iX2 tyX2 tyX2_ok nmX2 2 (by decide) rfl (by decide +kernel) rfl rfl (Nat.le_of_ble_eq_true rfl) dX2_takeSide_26 ?_
    refine v_iload_n K dX2_takeSide_29 rfl ?_
    refine v_iret K E dX2_takeSide_30 ?_ rfl
    exact ⟨rfl, by unfold sdP; rw [if_neg c16] <;> rfl⟩

theorem hd_X2_takeRule : yX2_takeRule.cls = RX2 ∧ yX2_takeRule.cls ≠ "java/lang/invoke/MethodHandle" ∧ yX2_takeRule.cls ≠ "java/lang/invoke/VarHandle" ∧ (parseMethodDescriptor yX2_takeRule.desc).map (fun d => d.parameters.length) = some 0 := by decide +kernel
set_option maxHeartbeats 4000000 in
set_option maxRecDepth 100000 in
theorem c_X2_takeRule (cI cB : ClassId) (rd lt la tx ta tc : Nat) (ts : List Int32) (P : Nat) (e s d k : Int32) (xs : List Int32) (hP : P ≤ ts.length) : Ct cI cB yX2_takeRule wsX2_takeRule { frames := 2, cells := 0, slots := 0, locals := 43 } [.ref rd] [rdM rd lt tx (nI P) e s d k, rowM cI lt la 25 xs, rowM cI tx ta tc ts] (dv (bI (tRule ts (P, e, s, d, k, xs)).1) [rdM rd lt tx (nI (tRule ts (P, e, s, d, k, xs)).2.1) (tRule ts (P, e, s, d, k, xs)).2.2.1 (tRule ts (P, e, s, d, k, xs)).2.2.2.1 (tRule ts (P, e, s, d, k, xs)).2.2.2.2.1 (tRule ts (P, e, s, d, k, xs)).2.2.2.2.2.1, rowM cI lt la 25 (tRule ts (P, e, s, d, k, xs)).2.2.2.2.2.2, rowM cI tx ta tc ts]) := by
  refine ct_of (cc := cX2_takeRule) (maxL := 1) (ret := (some .boolean)) (by decide) rfl (Nat.le_of_ble_eq_true rfl) [(0, .ref rd)] rfl ?_
  intro X hI hB K E
  subst hI
  subst hB
  have iX2 : ∀ w ∈ u_ws RX2 TX2 7, w ∈ wsX2_takeRule := by decide +kernel
  refine v_aload_n K dX2_takeRule_0 rfl ?_
  refine v_iconst K (0) dX2_takeRule_1 (by decide) ?_
  refine v_put K 0 rfl rfl iX2 tyX2 tyX2_ok nmX2 3 (by decide) rfl (by decide +kernel) rfl rfl (Nat.le_of_ble_eq_true rfl) dX2_takeRule_2 ?_
  refine v_aload_n K dX2_takeRule_5 rfl ?_
  refine v_iconst K (4) dX2_takeRule_6 (by decide) ?_
  refine v_callVi K [0, 1, 2] (c_X2_takeLetters (XI X) (XB X) _ _ _ _ _ _ _ _ _ _ _ _ _ _ ?hc7_0_1 ?hc7_1_1) rfl gX2_takeRule_X2_takeLetters rfl rfl hd_X2_takeLetters ⟨rfl, rfl⟩ ⟨by decide, by decide⟩ 0 rfl hasF_c rfl (by decide) (Nat.le_of_ble_eq_true rfl) ⟨Nat.zero_le _, Nat.zero_le _⟩ rfl dX2_takeRule_7 ?_
  case hc7_0_1 => exact hP
  case hc7_1_1 => decide
  refine v_if_eq K 29 dX2_takeRule_10 (by decide) (fun c10 => ?_) (fun c10 => ?_)
  · refine v_iconst K (0) dX2_takeRule_29 (by decide) ?_
    refine v_zret K E dX2_takeRule_30 (by first | exact Or.inl rfl | exact Or.inr rfl | exact bI_01 _) ?_ rfl
    have h1 := bI_0 c10
    exact ⟨by simp only [tRule, tLet, tTake, tSound, h1, if_true, Bool.false_eq_true, if_false] <;> rfl, by simp only [tRule, tLet, tTake, tSound, h1, if_true, Bool.false_eq_true, if_false] <;> rfl⟩
  · refine v_aload_n K dX2_takeRule_13 rfl ?_
    refine v_bipush K (61) dX2_takeRule_14 (by decide) ?_
    refine v_callVi K [0, 2] (c_X2_take (XI X) (XB X) _ _ _ _ _ _ _ _ _ _ _ _ ?hc16_0_2) rfl gX2_takeRule_X2_take rfl rfl hd_X2_take ⟨rfl, rfl⟩ ⟨by decide, by decide⟩ 0 rfl hasF_c rfl (by decide) (Nat.le_of_ble_eq_true rfl) ⟨Nat.zero_le _, Nat.zero_le _⟩ rfl dX2_takeRule_16 ?_
    case hc16_0_2 => exact tl_le hP
    refine v_if_eq K 29 dX2_takeRule_19 (by decide) (fun c19 => ?_) (fun c19 => ?_)
    · refine v_iconst K (0) dX2_takeRule_29 (by decide) ?_
      refine v_zret K E dX2_takeRule_30 (by first | exact Or.inl rfl | exact Or.inr rfl | exact bI_01 _) ?_ rfl
      have h1 := bI_1 c10
      have h2 := bI_0 c19
      exact ⟨by simp only [tRule, tLet, tTake, tSound, h1, h2, if_true, Bool.false_eq_true, if_false] <;> rfl, by simp only [tRule, tLet, tTake, tSound, h1, h2, if_true, Bool.false_eq_true, if_false] <;> rfl⟩
    · refine v_aload_n K dX2_takeRule_22 rfl ?_
      refine v_callVi K [0, 2] (c_X2_takeSound (XI X) (XB X) _ _ _ _ _ _ _ _ _ _ _ ?hc23_0_3) rfl gX2_takeRule_X2_takeSound rfl rfl hd_X2_takeSound ⟨rfl, rfl⟩ ⟨by decide, by decide⟩ 0 rfl hasF_c rfl (by decide) (Nat.le_of_ble_eq_true rfl) ⟨Nat.zero_le _, Nat.zero_le _⟩ rfl dX2_takeRule_23 ?_
      case hc23_0_3 => exact tk_le (tl_le hP) (by decide)
      refine v_if_ne K 31 dX2_takeRule_26 (by decide) (fun c26 => ?_) (fun c26 => ?_)
      · refine v_aload_n K dX2_takeRule_31 rfl ?_
        refine v_aload_n K dX2_takeRule_32 rfl ?_
        refine v_callVi K [0, 2] (c_X2_takeSide (XI X) (XB X) _ _ _ _ _ _ _ _ _ _ _ ?hc33_0_4) rfl gX2_takeRule_X2_takeSide rfl rfl hd_X2_takeSide ⟨rfl, rfl⟩ ⟨by decide, by decide⟩ 0 rfl hasF_c rfl (by decide) (Nat.le_of_ble_eq_true rfl) ⟨Nat.zero_le _, Nat.zero_le _⟩ rfl dX2_takeRule_33 ?_
        case hc33_0_4 => exact sndP_le (tk_le (tl_le hP) (by decide))
        refine v_put K 0 rfl rfl iX2 tyX2 tyX2_ok nmX2 5 (by decide) rfl (by decide +kernel) rfl rfl (Nat.le_of_ble_eq_true rfl) dX2_takeRule_36 ?_
        refine v_iconst K (1) dX2_takeRule_39 (by decide) ?_
        refine v_zret K E dX2_takeRule_40 (by first | exact Or.inl rfl | exact Or.inr rfl | exact bI_01 _) ?_ rfl
        have h1 := bI_1 c10
        have h2 := bI_1 c19
        have h3 := bI_1 c26
        exact ⟨by simp only [tRule, tLet, tTake, tSound, h1, h2, h3, if_true, Bool.false_eq_true, if_false] <;> rfl, by simp only [tRule, tLet, tTake, tSound, h1, h2, h3, if_true, Bool.false_eq_true, if_false] <;> rfl⟩
      · refine v_iconst K (0) dX2_takeRule_29 (by decide) ?_
        refine v_zret K E dX2_takeRule_30 (by first | exact Or.inl rfl | exact Or.inr rfl | exact bI_01 _) ?_ rfl
        have h1 := bI_1 c10
        have h2 := bI_1 c19
        have h3 := bI_0 c26
        exact ⟨by simp only [tRule, tLet, tTake, tSound, h1, h2, h3, if_true, Bool.false_eq_true, if_false] <;> rfl, by simp only [tRule, tLet, tTake, tSound, h1, h2, h3, if_true, Bool.false_eq_true, if_false] <;> rfl⟩

theorem hd_X2_takeWord : yX2_takeWord.cls = RX2 ∧ yX2_takeWord.cls ≠ "java/lang/invoke/MethodHandle" ∧ yX2_takeWord.cls ≠ "java/lang/invoke/VarHandle" ∧ (parseMethodDescriptor yX2_takeWord.desc).map (fun d => d.parameters.length) = some 0 := by decide +kernel
set_option maxHeartbeats 4000000 in
set_option maxRecDepth 100000 in
theorem c_X2_takeWord (cI cB : ClassId) (rd lt la tx ta tc : Nat) (ts : List Int32) (P : Nat) (e s d k : Int32) (xs : List Int32) (hP : P ≤ ts.length) : Ct cI cB yX2_takeWord wsX2_takeWord { frames := 2, cells := 0, slots := 0, locals := 43 } [.ref rd] [rdM rd lt tx (nI P) e s d k, rowM cI lt la 25 xs, rowM cI tx ta tc ts] (dv (bI (tWord ts (P, e, s, d, k, xs)).1) [rdM rd lt tx (nI (tWord ts (P, e, s, d, k, xs)).2.1) (tWord ts (P, e, s, d, k, xs)).2.2.1 (tWord ts (P, e, s, d, k, xs)).2.2.2.1 (tWord ts (P, e, s, d, k, xs)).2.2.2.2.1 (tWord ts (P, e, s, d, k, xs)).2.2.2.2.2.1, rowM cI lt la 25 (tWord ts (P, e, s, d, k, xs)).2.2.2.2.2.2, rowM cI tx ta tc ts]) := by
  refine ct_of (cc := cX2_takeWord) (maxL := 1) (ret := (some .boolean)) (by decide) rfl (Nat.le_of_ble_eq_true rfl) [(0, .ref rd)] rfl ?_
  intro X hI hB K E
  subst hI
  subst hB
  have iX2 : ∀ w ∈ u_ws RX2 TX2 7, w ∈ wsX2_takeWord := by decide +kernel
  refine v_aload_n K dX2_takeWord_0 rfl ?_
  refine v_iconst K (1) dX2_takeWord_1 (by decide) ?_
  refine v_put K 0 rfl rfl iX2 tyX2 tyX2_ok nmX2 3 (by decide) rfl (by decide +kernel) rfl rfl (Nat.le_of_ble_eq_true rfl) dX2_takeWord_2 ?_
  refine v_aload_n K dX2_takeWord_5 rfl ?_
  refine v_bipush K (58) dX2_takeWord_6 (by decide) ?_
  refine v_callVi K [0, 2] (c_X2_take (XI X) (XB X) _ _ _ _ _ _ _ _ _ _ _ _ ?hc8_0_1) rfl gX2_takeWord_X2_take rfl rfl hd_X2_take ⟨rfl, rfl⟩ ⟨by decide, by decide⟩ 0 rfl hasF_c rfl (by decide) (Nat.le_of_ble_eq_true rfl) ⟨Nat.zero_le _, Nat.zero_le _⟩ rfl dX2_takeWord_8 ?_
  case hc8_0_1 => exact hP
  refine v_if_eq K 23 dX2_takeWord_11 (by decide) (fun c11 => ?_) (fun c11 => ?_)
  · refine v_iconst K (0) dX2_takeWord_23 (by decide) ?_
    refine v_zret K E dX2_takeWord_24 (by first | exact Or.inl rfl | exact Or.inr rfl | exact bI_01 _) ?_ rfl
    have h1 := bI_0 c11
    exact ⟨by simp only [tWord, tLet, tTake, tSound, h1, if_true, Bool.false_eq_true, if_false] <;> rfl, by simp only [tWord, tLet, tTake, tSound, h1, if_true, Bool.false_eq_true, if_false] <;> rfl⟩
  · refine v_aload_n K dX2_takeWord_14 rfl ?_
    refine v_bipush K (12) dX2_takeWord_15 (by decide) ?_
    refine v_callVi K [0, 1, 2] (c_X2_takeLetters (XI X) (XB X) _ _ _ _ _ _ _ _ _ _ _ _ _ _ ?hc17_0_2 ?hc17_1_2) rfl gX2_takeWord_X2_takeLetters rfl rfl hd_X2_takeLetters ⟨rfl, rfl⟩ ⟨by decide, by decide⟩ 0 rfl hasF_c rfl (by decide) (Nat.le_of_ble_eq_true rfl) ⟨Nat.zero_le _, Nat.zero_le _⟩ rfl dX2_takeWord_17 ?_
    case hc17_0_2 => exact tk_le hP (by decide)
    case hc17_1_2 => decide
    refine v_if_ne K 25 dX2_takeWord_20 (by decide) (fun c20 => ?_) (fun c20 => ?_)
    · refine v_aload_n K dX2_takeWord_25 rfl ?_
      refine v_iconst K (0) dX2_takeWord_26 (by decide) ?_
      refine v_put K 0 rfl rfl iX2 tyX2 tyX2_ok nmX2 6 (by decide) rfl (by decide +kernel) rfl rfl (Nat.le_of_ble_eq_true rfl) dX2_takeWord_27 ?_
      refine v_aload_n K dX2_takeWord_30 rfl ?_
      refine v_bipush K (33) dX2_takeWord_31 (by decide) ?_
      refine v_callVi K [0, 2] (c_X2_take (XI X) (XB X) _ _ _ _ _ _ _ _ _ _ _ _ ?hc33_0_3) rfl gX2_takeWord_X2_take rfl rfl hd_X2_take ⟨rfl, rfl⟩ ⟨by decide, by decide⟩ 0 rfl hasF_c rfl (by decide) (Nat.le_of_ble_eq_true rfl) ⟨Nat.zero_le _, Nat.zero_le _⟩ rfl dX2_takeWord_33 ?_
      case hc33_0_3 => exact tl_le (tk_le hP (by decide))
      refine v_if_eq K 47 dX2_takeWord_36 (by decide) (fun c36 => ?_) (fun c36 => ?_)
      · refine v_aload_n K dX2_takeWord_47 rfl ?_
        refine v_bipush K (39) dX2_takeWord_48 (by decide) ?_
        refine v_callVi K [0, 2] (c_X2_take (XI X) (XB X) _ _ _ _ _ _ _ _ _ _ _ _ ?hc50_0_4) rfl gX2_takeWord_X2_take rfl rfl hd_X2_take ⟨rfl, rfl⟩ ⟨by decide, by decide⟩ 0 rfl hasF_c rfl (by decide) (Nat.le_of_ble_eq_true rfl) ⟨Nat.zero_le _, Nat.zero_le _⟩ rfl dX2_takeWord_50 ?_
        case hc50_0_4 => exact tk_le (tl_le (tk_le hP (by decide))) (by decide)
        refine v_if_eq K 61 dX2_takeWord_53 (by decide) (fun c53 => ?_) (fun c53 => ?_)
        · refine v_iconst K (1) dX2_takeWord_61 (by decide) ?_
          refine v_zret K E dX2_takeWord_62 (by first | exact Or.inl rfl | exact Or.inr rfl | exact bI_01 _) ?_ rfl
          have h1 := bI_1 c11
          have h2 := bI_1 c20
          have h3 := bI_0 c36
          have h4 := bI_0 c53
          exact ⟨by simp only [tWord, tLet, tTake, tSound, h1, h2, h3, h4, if_true, Bool.false_eq_true, if_false] <;> rfl, by simp only [tWord, tLet, tTake, tSound, h1, h2, h3, h4, if_true, Bool.false_eq_true, if_false] <;> rfl⟩
        · refine v_aload_n K dX2_takeWord_56 rfl ?_
          refine v_iconst K (2) dX2_takeWord_57 (by decide) ?_
          refine v_put K 0 rfl rfl iX2 tyX2 tyX2_ok nmX2 6 (by decide) rfl (by decide +kernel) rfl rfl (Nat.le_of_ble_eq_true rfl) dX2_takeWord_58 ?_
          refine v_iconst K (1) dX2_takeWord_61 (by decide) ?_
          refine v_zret K E dX2_takeWord_62 (by first | exact Or.inl rfl | exact Or.inr rfl | exact bI_01 _) ?_ rfl
          have h1 := bI_1 c11
          have h2 := bI_1 c20
          have h3 := bI_0 c36
          have h4 := bI_1 c53
          exact ⟨by simp only [tWord, tLet, tTake, tSound, h1, h2, h3, h4, if_true, Bool.false_eq_true, if_false] <;> rfl, by simp only [tWord, tLet, tTake, tSound, h1, h2, h3, h4, if_true, Bool.false_eq_true, if_false] <;> rfl⟩
      · refine v_aload_n K dX2_takeWord_39 rfl ?_
        refine v_iconst K (1) dX2_takeWord_40 (by decide) ?_
        refine v_put K 0 rfl rfl iX2 tyX2 tyX2_ok nmX2 6 (by decide) rfl (by decide +kernel) rfl rfl (Nat.le_of_ble_eq_true rfl) dX2_takeWord_41 ?_
        refine v_goto K 61 dX2_takeWord_44 (by decide) ?_
        refine v_iconst K (1) dX2_takeWord_61 (by decide) ?_
        refine v_zret K E dX2_takeWord_62 (by first | exact Or.inl rfl | exact Or.inr rfl | exact bI_01 _) ?_ rfl
        have h1 := bI_1 c11
        have h2 := bI_1 c20
        have h3 := bI_1 c36
        exact ⟨by simp only [tWord, tLet, tTake, tSound, h1, h2, h3, if_true, Bool.false_eq_true, if_false] <;> rfl, by simp only [tWord, tLet, tTake, tSound, h1, h2, h3, if_true, Bool.false_eq_true, if_false] <;> rfl⟩
    · refine v_iconst K (0) dX2_takeWord_23 (by decide) ?_
      refine v_zret K E dX2_takeWord_24 (by first | exact Or.inl rfl | exact Or.inr rfl | exact bI_01 _) ?_ rfl
      have h1 := bI_1 c11
      have h2 := bI_0 c20
      exact ⟨by simp only [tWord, tLet, tTake, tSound, h1, h2, if_true, Bool.false_eq_true, if_false] <;> rfl, by simp only [tWord, tLet, tTake, tSound, h1, h2, if_true, Bool.false_eq_true, if_false] <;> rfl⟩

theorem hd_X2_takeSign : yX2_takeSign.cls = RX2 ∧ yX2_takeSign.cls ≠ "java/lang/invoke/MethodHandle" ∧ yX2_takeSign.cls ≠ "java/lang/invoke/VarHandle" ∧ (parseMethodDescriptor yX2_takeSign.desc).map (fun d => d.parameters.length) = some 0 := by decide +kernel
set_option maxHeartbeats 4000000 in
set_option maxRecDepth 100000 in
theorem c_X2_takeSign (cI cB : ClassId) (rd lt la tx ta tc : Nat) (ts : List Int32) (P : Nat) (e s d k : Int32) (xs : List Int32) (hP : P ≤ ts.length) : Ct cI cB yX2_takeSign wsX2_takeSign { frames := 2, cells := 0, slots := 0, locals := 43 } [.ref rd] [rdM rd lt tx (nI P) e s d k, rowM cI lt la 25 xs, rowM cI tx ta tc ts] (dv (bI (tSign ts (P, e, s, d, k, xs)).1) [rdM rd lt tx (nI (tSign ts (P, e, s, d, k, xs)).2.1) (tSign ts (P, e, s, d, k, xs)).2.2.1 (tSign ts (P, e, s, d, k, xs)).2.2.2.1 (tSign ts (P, e, s, d, k, xs)).2.2.2.2.1 (tSign ts (P, e, s, d, k, xs)).2.2.2.2.2.1, rowM cI lt la 25 (tSign ts (P, e, s, d, k, xs)).2.2.2.2.2.2, rowM cI tx ta tc ts]) := by
  refine ct_of (cc := cX2_takeSign) (maxL := 1) (ret := (some .boolean)) (by decide) rfl (Nat.le_of_ble_eq_true rfl) [(0, .ref rd)] rfl ?_
  intro X hI hB K E
  subst hI
  subst hB
  have iX2 : ∀ w ∈ u_ws RX2 TX2 7, w ∈ wsX2_takeSign := by decide +kernel
  refine v_aload_n K dX2_takeSign_0 rfl ?_
  refine v_iconst K (2) dX2_takeSign_1 (by decide) ?_
  refine v_put K 0 rfl rfl iX2 tyX2 tyX2_ok nmX2 3 (by decide) rfl (by decide +kernel) rfl rfl (Nat.le_of_ble_eq_true rfl) dX2_takeSign_2 ?_
  refine v_aload_n K dX2_takeSign_5 rfl ?_
  refine v_callVi K [0, 2] (c_X2_takeSound (XI X) (XB X) _ _ _ _ _ _ _ _ _ _ _ ?hc6_0_1) rfl gX2_takeSign_X2_takeSound rfl rfl hd_X2_takeSound ⟨rfl, rfl⟩ ⟨by decide, by decide⟩ 0 rfl hasF_c rfl (by decide) (Nat.le_of_ble_eq_true rfl) ⟨Nat.zero_le _, Nat.zero_le _⟩ rfl dX2_takeSign_6 ?_
  case hc6_0_1 => exact hP
  refine v_if_eq K 33 dX2_takeSign_9 (by decide) (fun c9 => ?_) (fun c9 => ?_)
  · refine v_iconst K (0) dX2_takeSign_33 (by decide) ?_
    refine v_zret K E dX2_takeSign_34 (by first | exact Or.inl rfl | exact Or.inr rfl | exact bI_01 _) ?_ rfl
    have h1 := bI_0 c9
    exact ⟨by simp only [tSign, tLet, tTake, tSound, h1, if_true, Bool.false_eq_true, if_false] <;> rfl, by simp only [tSign, tLet, tTake, tSound, h1, if_true, Bool.false_eq_true, if_false] <;> rfl⟩
  · refine v_aload_n K dX2_takeSign_12 rfl ?_
    refine v_bipush K (61) dX2_takeSign_13 (by decide) ?_
    refine v_callVi K [0, 2] (c_X2_take (XI X) (XB X) _ _ _ _ _ _ _ _ _ _ _ _ ?hc15_0_2) rfl gX2_takeSign_X2_take rfl rfl hd_X2_take ⟨rfl, rfl⟩ ⟨by decide, by decide⟩ 0 rfl hasF_c rfl (by decide) (Nat.le_of_ble_eq_true rfl) ⟨Nat.zero_le _, Nat.zero_le _⟩ rfl dX2_takeSign_15 ?_
    case hc15_0_2 => exact sndP_le hP
    refine v_if_eq K 33 dX2_takeSign_18 (by decide) (fun c18 => ?_) (fun c18 => ?_)
    · refine v_iconst K (0) dX2_takeSign_33 (by decide) ?_
      refine v_zret K E dX2_takeSign_34 (by first | exact Or.inl rfl | exact Or.inr rfl | exact bI_01 _) ?_ rfl
      have h1 := bI_1 c9
      have h2 := bI_0 c18
      exact ⟨by simp only [tSign, tLet, tTake, tSound, h1, h2, if_true, Bool.false_eq_true, if_false] <;> rfl, by simp only [tSign, tLet, tTake, tSound, h1, h2, if_true, Bool.false_eq_true, if_false] <;> rfl⟩
    · refine v_aload_n K dX2_takeSign_21 rfl ?_
      refine v_iconst K (2) dX2_takeSign_22 (by decide) ?_
      refine v_callVi K [0, 1, 2] (c_X2_takeLetters (XI X) (XB X) _ _ _ _ _ _ _ _ _ _ _ _ _ _ ?hc23_0_3 ?hc23_1_3) rfl gX2_takeSign_X2_takeLetters rfl rfl hd_X2_takeLetters ⟨rfl, rfl⟩ ⟨by decide, by decide⟩ 0 rfl hasF_c rfl (by decide) (Nat.le_of_ble_eq_true rfl) ⟨Nat.zero_le _, Nat.zero_le _⟩ rfl dX2_takeSign_23 ?_
      case hc23_0_3 => exact tk_le (sndP_le hP) (by decide)
      case hc23_1_3 => decide
      refine v_if_eq K 33 dX2_takeSign_26 (by decide) (fun c26 => ?_) (fun c26 => ?_)
      · refine v_iconst K (0) dX2_takeSign_33 (by decide) ?_
        refine v_zret K E dX2_takeSign_34 (by first | exact Or.inl rfl | exact Or.inr rfl | exact bI_01 _) ?_ rfl
        have h1 := bI_1 c9
        have h2 := bI_1 c18
        have h3 := bI_0 c26
        exact ⟨by simp only [tSign, tLet, tTake, tSound, h1, h2, h3, if_true, Bool.false_eq_true, if_false] <;> rfl, by simp only [tSign, tLet, tTake, tSound, h1, h2, h3, if_true, Bool.false_eq_true, if_false] <;> rfl⟩
      · refine v_iconst K (1) dX2_takeSign_29 (by decide) ?_
        refine v_goto K 34 dX2_takeSign_30 (by decide) ?_
        refine v_zret K E dX2_takeSign_34 (by first | exact Or.inl rfl | exact Or.inr rfl | exact bI_01 _) ?_ rfl
        have h1 := bI_1 c9
        have h2 := bI_1 c18
        have h3 := bI_1 c26
        exact ⟨by simp only [tSign, tLet, tTake, tSound, h1, h2, h3, if_true, Bool.false_eq_true, if_false] <;> rfl, by simp only [tSign, tLet, tTake, tSound, h1, h2, h3, if_true, Bool.false_eq_true, if_false] <;> rfl⟩

theorem hd_X2_takeEntry : yX2_takeEntry.cls = RX2 ∧ yX2_takeEntry.cls ≠ "java/lang/invoke/MethodHandle" ∧ yX2_takeEntry.cls ≠ "java/lang/invoke/VarHandle" ∧ (parseMethodDescriptor yX2_takeEntry.desc).map (fun d => d.parameters.length) = some 0 := by decide +kernel
set_option maxHeartbeats 4000000 in
set_option maxRecDepth 100000 in
theorem c_X2_takeEntry (cI cB : ClassId) (rd lt la tx ta tc : Nat) (ts : List Int32) (P : Nat) (e s d k : Int32) (xs : List Int32) (hP : P ≤ ts.length) : Ct cI cB yX2_takeEntry wsX2_takeEntry { frames := 3, cells := 0, slots := 0, locals := 63 } [.ref rd] [rdM rd lt tx (nI P) e s d k, rowM cI lt la 25 xs, rowM cI tx ta tc ts] (dv (bI (tEntry ts (P, e, s, d, k, xs)).1) [rdM rd lt tx (nI (tEntry ts (P, e, s, d, k, xs)).2.1) (tEntry ts (P, e, s, d, k, xs)).2.2.1 (tEntry ts (P, e, s, d, k, xs)).2.2.2.1 (tEntry ts (P, e, s, d, k, xs)).2.2.2.2.1 (tEntry ts (P, e, s, d, k, xs)).2.2.2.2.2.1, rowM cI lt la 25 (tEntry ts (P, e, s, d, k, xs)).2.2.2.2.2.2, rowM cI tx ta tc ts]) := by
  refine ct_of (cc := cX2_takeEntry) (maxL := 2) (ret := (some .boolean)) (by decide) rfl (Nat.le_of_ble_eq_true rfl) [(0, .ref rd)] rfl ?_
  intro X hI hB K E
  subst hI
  subst hB
  have iX2 : ∀ w ∈ u_ws RX2 TX2 7, w ∈ wsX2_takeEntry := by decide +kernel
  refine v_rowlen 2 rfl (fun hT => ?_)
  refine v_aload_n K dX2_takeEntry_0 rfl ?_
  refine v_get K 0 rfl hasF_c rfl iX2 1 (by decide) rfl (by decide +kernel) rfl dX2_takeEntry_1 ?_
  refine v_aload_n K dX2_takeEntry_4 rfl ?_
  refine v_get K 0 rfl hasF_c rfl iX2 2 (by decide) rfl (by decide +kernel) rfl dX2_takeEntry_5 ?_
  refine v_callVi K [2] (c_X3_get (XI X) (XB X) _ _ _ _ _ ) rfl gX2_takeEntry_X3_get rfl rfl hd_X3_get ⟨rfl, rfl⟩ ⟨by decide, by decide⟩ 2 rfl rowF rfl (by decide) (Nat.le_of_ble_eq_true rfl) ⟨Nat.zero_le _, Nat.zero_le _⟩ rfl dX2_takeEntry_8 ?_
  rw [gt_n (by omega)]
  refine v_istore_n K dX2_takeEntry_11 (by decide) ?_
  refine v_iload_n K dX2_takeEntry_12 rfl ?_
  refine v_bipush K (58) dX2_takeEntry_13 (by decide) ?_
  refine v_ic_ne K 23 dX2_takeEntry_15 (by decide) (fun c15 => ?_) (fun c15 => ?_)
  · refine v_iload_n K dX2_takeEntry_23 rfl ?_
    refine v_callNi (host := RX7) K [] (c_X7_isCapital (XI X) (XB X) _ ) rfl gX2_takeEntry_X7_isCapital_n49 rfl rfl (by decide +kernel) (by decide +kernel) (by decide +kernel) hd_X7_isCapital ⟨rfl, rfl⟩ ⟨by decide, by decide⟩ (by decide) (Nat.le_of_ble_eq_true rfl) ⟨Nat.zero_le _, Nat.zero_le _⟩ rfl dX2_takeEntry_24 ?_
    refine v_if_eq K 37 dX2_takeEntry_27 (by decide) (fun c27 => ?_) (fun c27 => ?_)
    · refine v_aload_n K dX2_takeEntry_37 rfl ?_
      refine v_callVi K [0, 1, 2] (c_X2_takeRule (XI X) (XB X) _ _ _ _ _ _ _ _ _ _ _ _ _ ?hc38_0_3) rfl gX2_takeEntry_X2_takeRule rfl rfl hd_X2_takeRule ⟨rfl, rfl⟩ ⟨by decide, by decide⟩ 0 rfl hasF_c rfl (by decide) (Nat.le_of_ble_eq_true rfl) ⟨Nat.zero_le _, Nat.zero_le _⟩ rfl dX2_takeEntry_38 ?_
      case hc38_0_3 => exact hP
      refine v_zret K E dX2_takeEntry_41 (by first | exact Or.inl rfl | exact Or.inr rfl | exact bI_01 _) ?_ rfl
      exact ⟨by unfold tEntry; rw [if_neg c15, if_neg (by rw [bI_0 c27]; exact Bool.false_ne_true)] <;> rfl, by unfold tEntry; rw [if_neg c15, if_neg (by rw [bI_0 c27]; exact Bool.false_ne_true)] <;> rfl⟩
    · refine v_aload_n K dX2_takeEntry_30 rfl ?_
      refine v_callVi K [0, 1, 2] (c_X2_takeSign (XI X) (XB X) _ _ _ _ _ _ _ _ _ _ _ _ _ ?hc31_0_4) rfl gX2_takeEntry_X2_takeSign rfl rfl hd_X2_takeSign ⟨rfl, rfl⟩ ⟨by decide, by decide⟩ 0 rfl hasF_c rfl (by decide) (Nat.le_of_ble_eq_true rfl) ⟨Nat.zero_le _, Nat.zero_le _⟩ rfl dX2_takeEntry_31 ?_
      case hc31_0_4 => exact hP
      refine v_goto K 41 dX2_takeEntry_34 (by decide) ?_
      refine v_zret K E dX2_takeEntry_41 (by first | exact Or.inl rfl | exact Or.inr rfl | exact bI_01 _) ?_ rfl
      exact ⟨by unfold tEntry; rw [if_neg c15, if_pos (bI_1 c27)] <;> rfl, by unfold tEntry; rw [if_neg c15, if_pos (bI_1 c27)] <;> rfl⟩
  · refine v_aload_n K dX2_takeEntry_18 rfl ?_
    refine v_callVi K [0, 1, 2] (c_X2_takeWord (XI X) (XB X) _ _ _ _ _ _ _ _ _ _ _ _ _ ?hc19_0_5) rfl gX2_takeEntry_X2_takeWord rfl rfl hd_X2_takeWord ⟨rfl, rfl⟩ ⟨by decide, by decide⟩ 0 rfl hasF_c rfl (by decide) (Nat.le_of_ble_eq_true rfl) ⟨Nat.zero_le _, Nat.zero_le _⟩ rfl dX2_takeEntry_19 ?_
    case hc19_0_5 => exact hP
    refine v_zret K E dX2_takeEntry_22 (by first | exact Or.inl rfl | exact Or.inr rfl | exact bI_01 _) ?_ rfl
    exact ⟨by unfold tEntry; rw [if_pos c15] <;> rfl, by unfold tEntry; rw [if_pos c15] <;> rfl⟩
