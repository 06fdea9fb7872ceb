theorem hd_X8_in : yX8_in.cls ≠ "java/lang/invoke/MethodHandle" ∧ yX8_in.cls ≠ "java/lang/invoke/VarHandle" ∧ (parseMethodDescriptor yX8_in.desc).map (fun d => d.parameters.length) = some 3 := by decide +kernel
set_option maxHeartbeats 4000000 in
set_option maxRecDepth 100000 in
theorem c_X8_in (cI cB : ClassId) (v lo hi : Int64)  : Ct cI cB yX8_in wsX8_in { frames := 0, cells := 0, slots := 0, locals := 0 } [.long v, .long lo, .long hi] [] (dv (bI (inB v lo hi)) []) := by
  refine ct_of (cc := cX8_in) (maxL := 6) (ret := (some .boolean)) (by decide) rfl (Nat.le_of_ble_eq_true rfl) [(0, .long v), (2, .long lo), (4, .long hi)] rfl ?_
  intro X hI hB K E
  subst hI
  subst hB
  refine v_lload_n K dX8_in_0 rfl ?_
  refine v_lload_n K dX8_in_1 rfl ?_
  refine v_lcmp K dX8_in_2 ?_
  refine v_if_lt K 17 dX8_in_3 (by decide) (fun c3 => ?_) (fun c3 => ?_)
  · refine v_iconst K (0) dX8_in_17 (by decide) ?_
    refine v_zret K E dX8_in_18 (by first | exact Or.inl rfl | exact Or.inr rfl | exact bI_01 _) ?_ rfl
    exact ⟨by rw [in_f1 c3], rfl⟩
  · refine v_lload_n K dX8_in_6 rfl ?_
    refine v_lload K dX8_in_7 rfl ?_
    refine v_lcmp K dX8_in_9 ?_
    refine v_if_gt K 17 dX8_in_10 (by decide) (fun c10 => ?_) (fun c10 => ?_)
    · refine v_iconst K (0) dX8_in_17 (by decide) ?_
      refine v_zret K E dX8_in_18 (by first | exact Or.inl rfl | exact Or.inr rfl | exact bI_01 _) ?_ rfl
      exact ⟨by rw [in_f2 c10], rfl⟩
    · refine v_iconst K (1) dX8_in_13 (by decide) ?_
      refine v_goto K 18 dX8_in_14 (by decide) ?_
      refine v_zret K E dX8_in_18 (by first | exact Or.inl rfl | exact Or.inr rfl | exact bI_01 _) ?_ rfl
      exact ⟨by rw [in_t c3 c10], rfl⟩

theorem hd_X8_ruleAt : yX8_ruleAt.cls ≠ "java/lang/invoke/MethodHandle" ∧ yX8_ruleAt.cls ≠ "java/lang/invoke/VarHandle" ∧ (parseMethodDescriptor yX8_ruleAt.desc).map (fun d => d.parameters.length) = some 1 := by decide +kernel
set_option maxHeartbeats 4000000 in
set_option maxRecDepth 100000 in
theorem c_X8_ruleAt (cI cB : ClassId) (r : Nat)  : Ct cI cB yX8_ruleAt wsX8_ruleAt { frames := 0, cells := 0, slots := 0, locals := 0 } [.int (nI r)] [] (dv (nI (2 + 7 * r)) []) := by
  refine ct_of (cc := cX8_ruleAt) (maxL := 1) (ret := (some .int)) (by decide) rfl (Nat.le_of_ble_eq_true rfl) [(0, .int (nI r))] rfl ?_
  intro X hI hB K E
  subst hI
  subst hB
  refine v_iconst K (2) dX8_ruleAt_0 (by decide) ?_
  refine v_bipush K (7) dX8_ruleAt_1 (by decide) ?_
  refine v_iload_n K dX8_ruleAt_3 rfl ?_
  refine v_imul K dX8_ruleAt_4 ?_
  refine v_iadd K dX8_ruleAt_5 ?_
  refine v_iret K E dX8_ruleAt_6 ?_ rfl
  exact ⟨by rw [show (7 : Int32) * nI r = nI (7 * r) from pk_mul 7 r, show (2 : Int32) + nI (7 * r) = nI (2 + 7 * r) from nI_add 2 _], rfl⟩

theorem hd_X8_wordAt : yX8_wordAt.cls ≠ "java/lang/invoke/MethodHandle" ∧ yX8_wordAt.cls ≠ "java/lang/invoke/VarHandle" ∧ (parseMethodDescriptor yX8_wordAt.desc).map (fun d => d.parameters.length) = some 1 := by decide +kernel
set_option maxHeartbeats 4000000 in
set_option maxRecDepth 100000 in
theorem c_X8_wordAt (cI cB : ClassId) (w : Nat)  : Ct cI cB yX8_wordAt wsX8_wordAt { frames := 0, cells := 0, slots := 0, locals := 0 } [.int (nI w)] [] (dv (nI (290 + 14 * w)) []) := by
  refine ct_of (cc := cX8_wordAt) (maxL := 1) (ret := (some .int)) (by decide) rfl (Nat.le_of_ble_eq_true rfl) [(0, .int (nI w))] rfl ?_
  intro X hI hB K E
  subst hI
  subst hB
  refine v_sipush K (290) dX8_wordAt_0 (by decide) ?_
  refine v_bipush K (14) dX8_wordAt_3 (by decide) ?_
  refine v_iload_n K dX8_wordAt_5 rfl ?_
  refine v_imul K dX8_wordAt_6 ?_
  refine v_iadd K dX8_wordAt_7 ?_
  refine v_iret K E dX8_wordAt_8 ?_ rfl
  exact ⟨by rw [show (14 : Int32) * nI w = nI (14 * w) from pk_mul 14 w, show (290 : Int32) + nI (14 * w) = nI (290 + 14 * w) from nI_add 290 _], rfl⟩

theorem hd_X8_isRule : yX8_isRule.cls = RX8 ∧ yX8_isRule.cls ≠ "java/lang/invoke/MethodHandle" ∧ yX8_isRule.cls ≠ "java/lang/invoke/VarHandle" ∧ (parseMethodDescriptor yX8_isRule.desc).map (fun d => d.parameters.length) = some 1 := by decide +kernel
set_option maxHeartbeats 4000000 in
set_option maxRecDepth 100000 in
theorem c_X8_isRule (cI cB : ClassId) (m : Nat → Nat) (hl it sz sl ut ol tl sp tw tm mm rl : Int32) (S : Bk) (f : Nat → Int32) (i : Int32) (hA : allR S f) : Ct cI cB yX8_isRule wsX8_isRule { frames := 1, cells := 0, slots := 0, locals := 25 } [.ref (m 0), .int i] [moM m hl it sz sl ut ol tl sp tw tm mm rl, arF cI (m 1) 570 f] (dv (bI (hasL S.1 i)) [moM m hl it sz sl ut ol tl sp tw tm mm rl, arF cI (m 1) 570 f]) := by
  refine ct_of (cc := cX8_isRule) (maxL := 2) (ret := (some .boolean)) (by decide) rfl (Nat.le_of_ble_eq_true rfl) [(0, .ref (m 0)), (1, .int i)] rfl ?_
  intro X hI hB K E
  subst hI
  subst hB
  have iX8 : ∀ w ∈ u_ws RX8 TX8 28, w ∈ wsX8_isRule := by decide +kernel
  refine v_iload_n K dX8_isRule_0 rfl ?_
  refine v_i2l K dX8_isRule_1 ?_
  refine v_lconst K (0) dX8_isRule_2 (by decide) ?_
  refine v_aload_n K dX8_isRule_3 rfl ?_
  refine v_get K 0 rfl hasF_c rfl iX8 0 (by decide) rfl (by decide +kernel) rfl dX8_isRule_4 ?_
  refine v_iconst K (0) dX8_isRule_7 (by decide) ?_
  refine v_fald K 1 rfl (0) ?hx8_1 ?ix8_1 dX8_isRule_8 ?_
  case hx8_1 => exact rfl
  case ix8_1 => exact ⟨by decide, by decide⟩
  rw [hA.2.1]
  refine v_i2l K dX8_isRule_9 ?_
  refine v_lconst K (1) dX8_isRule_10 (by decide) ?_
  refine v_lsub K dX8_isRule_11 ?_
  refine v_callSi K [] (c_X8_in (XI X) (XB X) _ _ _ ) rfl gX8_isRule_X8_in rfl rfl hd_X8_in ⟨rfl, rfl⟩ ⟨by decide, by decide⟩ (by decide) (Nat.le_of_ble_eq_true rfl) ⟨Nat.zero_le _, Nat.zero_le _⟩ rfl dX8_isRule_12 ?_
  refine v_zret K E dX8_isRule_15 (by first | exact Or.inl rfl | exact Or.inr rfl | exact bI_01 _) ?_ rfl
  exact ⟨by rw [← inB_n (i := i) (L := S.1) rfl (by have := hA.1; obtain ⟨h1, -, -, -, h5, -⟩ := this; omega)] <;> rfl, rfl⟩

theorem hd_X8_isWord : yX8_isWord.cls = RX8 ∧ yX8_isWord.cls ≠ "java/lang/invoke/MethodHandle" ∧ yX8_isWord.cls ≠ "java/lang/invoke/VarHandle" ∧ (parseMethodDescriptor yX8_isWord.desc).map (fun d => d.parameters.length) = some 1 := by decide +kernel
set_option maxHeartbeats 4000000 in
set_option maxRecDepth 100000 in
theorem c_X8_isWord (cI cB : ClassId) (m : Nat → Nat) (hl it sz sl ut ol tl sp tw tm mm rl : Int32) (S : Bk) (f : Nat → Int32) (i : Int32) (hA : allR S f) : Ct cI cB yX8_isWord wsX8_isWord { frames := 1, cells := 0, slots := 0, locals := 25 } [.ref (m 0), .int i] [moM m hl it sz sl ut ol tl sp tw tm mm rl, arF cI (m 1) 570 f] (dv (bI (hasL S.2.2.2.2.1 i)) [moM m hl it sz sl ut ol tl sp tw tm mm rl, arF cI (m 1) 570 f]) := by
  refine ct_of (cc := cX8_isWord) (maxL := 2) (ret := (some .boolean)) (by decide) rfl (Nat.le_of_ble_eq_true rfl) [(0, .ref (m 0)), (1, .int i)] rfl ?_
  intro X hI hB K E
  subst hI
  subst hB
  have iX8 : ∀ w ∈ u_ws RX8 TX8 28, w ∈ wsX8_isWord := by decide +kernel
  refine v_iload_n K dX8_isWord_0 rfl ?_
  refine v_i2l K dX8_isWord_1 ?_
  refine v_lconst K (0) dX8_isWord_2 (by decide) ?_
  refine v_aload_n K dX8_isWord_3 rfl ?_
  refine v_get K 0 rfl hasF_c rfl iX8 0 (by decide) rfl (by decide +kernel) rfl dX8_isWord_4 ?_
  refine v_iconst K (1) dX8_isWord_7 (by decide) ?_
  refine v_fald K 1 rfl (1) ?hx8_1 ?ix8_1 dX8_isWord_8 ?_
  case hx8_1 => exact rfl
  case ix8_1 => exact ⟨by decide, by decide⟩
  rw [hA.2.2.1]
  refine v_i2l K dX8_isWord_9 ?_
  refine v_lconst K (1) dX8_isWord_10 (by decide) ?_
  refine v_lsub K dX8_isWord_11 ?_
  refine v_callSi K [] (c_X8_in (XI X) (XB X) _ _ _ ) rfl gX8_isWord_X8_in rfl rfl hd_X8_in ⟨rfl, rfl⟩ ⟨by decide, by decide⟩ (by decide) (Nat.le_of_ble_eq_true rfl) ⟨Nat.zero_le _, Nat.zero_le _⟩ rfl dX8_isWord_12 ?_
  refine v_zret K E dX8_isWord_15 (by first | exact Or.inl rfl | exact Or.inr rfl | exact bI_01 _) ?_ rfl
  exact ⟨by rw [← inB_n (i := i) (L := S.2.2.2.2.1) rfl (by have := hA.1; obtain ⟨h1, -, -, -, h5, -⟩ := this; omega)] <;> rfl, rfl⟩

theorem hd_X8_isVowel : yX8_isVowel.cls ≠ "java/lang/invoke/MethodHandle" ∧ yX8_isVowel.cls ≠ "java/lang/invoke/VarHandle" ∧ (parseMethodDescriptor yX8_isVowel.desc).map (fun d => d.parameters.length) = some 1 := by decide +kernel
set_option maxHeartbeats 4000000 in
set_option maxRecDepth 100000 in
theorem c_X8_isVowel (cI cB : ClassId) (c : Int32)  : Ct cI cB yX8_isVowel wsX8_isVowel { frames := 0, cells := 0, slots := 0, locals := 0 } [.int c] [] (dv (bI (vw c)) []) := by
  refine ct_of (cc := cX8_isVowel) (maxL := 1) (ret := (some .boolean)) (by decide) rfl (Nat.le_of_ble_eq_true rfl) [(0, .int c)] rfl ?_
  intro X hI hB K E
  subst hI
  subst hB
  refine v_iload_n K dX8_isVowel_0 rfl ?_
  refine v_bipush K (97) dX8_isVowel_1 (by decide) ?_
  refine v_ic_eq K 30 dX8_isVowel_3 (by decide) (fun c3 => ?_) (fun c3 => ?_)
  · refine v_iconst K (1) dX8_isVowel_30 (by decide) ?_
    refine v_goto K 35 dX8_isVowel_31 (by decide) ?_
    refine v_zret K E dX8_isVowel_35 (by first | exact Or.inl rfl | exact Or.inr rfl | exact bI_01 _) ?_ rfl
    exact ⟨by rw [c3] <;> rfl, rfl⟩
  · refine v_iload_n K dX8_isVowel_6 rfl ?_
    refine v_bipush K (101) dX8_isVowel_7 (by decide) ?_
    refine v_ic_eq K 30 dX8_isVowel_9 (by decide) (fun c9 => ?_) (fun c9 => ?_)
    · refine v_iconst K (1) dX8_isVowel_30 (by decide) ?_
      refine v_goto K 35 dX8_isVowel_31 (by decide) ?_
      refine v_zret K E dX8_isVowel_35 (by first | exact Or.inl rfl | exact Or.inr rfl | exact bI_01 _) ?_ rfl
      exact ⟨by rw [c9] <;> rfl, rfl⟩
    · refine v_iload_n K dX8_isVowel_12 rfl ?_
      refine v_bipush K (105) dX8_isVowel_13 (by decide) ?_
      refine v_ic_eq K 30 dX8_isVowel_15 (by decide) (fun c15 => ?_) (fun c15 => ?_)
      · refine v_iconst K (1) dX8_isVowel_30 (by decide) ?_
        refine v_goto K 35 dX8_isVowel_31 (by decide) ?_
        refine v_zret K E dX8_isVowel_35 (by first | exact Or.inl rfl | exact Or.inr rfl | exact bI_01 _) ?_ rfl
        exact ⟨by rw [c15] <;> rfl, rfl⟩
      · refine v_iload_n K dX8_isVowel_18 rfl ?_
        refine v_bipush K (111) dX8_isVowel_19 (by decide) ?_
        refine v_ic_eq K 30 dX8_isVowel_21 (by decide) (fun c21 => ?_) (fun c21 => ?_)
        · refine v_iconst K (1) dX8_isVowel_30 (by decide) ?_
          refine v_goto K 35 dX8_isVowel_31 (by decide) ?_
          refine v_zret K E dX8_isVowel_35 (by first | exact Or.inl rfl | exact Or.inr rfl | exact bI_01 _) ?_ rfl
          exact ⟨by rw [c21] <;> rfl, rfl⟩
        · refine v_iload_n K dX8_isVowel_24 rfl ?_
          refine v_bipush K (117) dX8_isVowel_25 (by decide) ?_
          refine v_ic_ne K 34 dX8_isVowel_27 (by decide) (fun c27 => ?_) (fun c27 => ?_)
          · refine v_iconst K (0) dX8_isVowel_34 (by decide) ?_
            refine v_zret K E dX8_isVowel_35 (by first | exact Or.inl rfl | exact Or.inr rfl | exact bI_01 _) ?_ rfl
            exact ⟨by unfold vw; rw [decide_eq_false (by rintro (h | h | h | h | h) <;> contradiction)] <;> rfl, rfl⟩
          · refine v_iconst K (1) dX8_isVowel_30 (by decide) ?_
            refine v_goto K 35 dX8_isVowel_31 (by decide) ?_
            refine v_zret K E dX8_isVowel_35 (by first | exact Or.inl rfl | exact Or.inr rfl | exact bI_01 _) ?_ rfl
            exact ⟨by rw [c27] <;> rfl, rfl⟩

theorem hd_X8_sideOf : yX8_sideOf.cls ≠ "java/lang/invoke/MethodHandle" ∧ yX8_sideOf.cls ≠ "java/lang/invoke/VarHandle" ∧ (parseMethodDescriptor yX8_sideOf.desc).map (fun d => d.parameters.length) = some 1 := by decide +kernel
set_option maxHeartbeats 4000000 in
set_option maxRecDepth 100000 in
theorem c_X8_sideOf (cI cB : ClassId) (c : Int32)  : Ct cI cB yX8_sideOf wsX8_sideOf { frames := 0, cells := 0, slots := 0, locals := 0 } [.int c] [] (dv (sdOf c) []) := by
  refine ct_of (cc := cX8_sideOf) (maxL := 1) (ret := (some .int)) (by decide) rfl (Nat.le_of_ble_eq_true rfl) [(0, .int c)] rfl ?_
  intro X hI hB K E
  subst hI
  subst hB
  refine v_iload_n K dX8_sideOf_0 rfl ?_
  refine v_bipush K (94) dX8_sideOf_1 (by decide) ?_
  refine v_ic_ne K 10 dX8_sideOf_3 (by decide) (fun c3 => ?_) (fun c3 => ?_)
  · refine v_iload_n K dX8_sideOf_10 rfl ?_
    refine v_bipush K (36) dX8_sideOf_11 (by decide) ?_
    refine v_ic_ne K 20 dX8_sideOf_13 (by decide) (fun c13 => ?_) (fun c13 => ?_)
    · refine v_iload_n K dX8_sideOf_20 rfl ?_
      refine v_bipush K (43) dX8_sideOf_21 (by decide) ?_
      refine v_ic_ne K 30 dX8_sideOf_23 (by decide) (fun c23 => ?_) (fun c23 => ?_)
      · refine v_iload_n K dX8_sideOf_30 rfl ?_
        refine v_bipush K (45) dX8_sideOf_31 (by decide) ?_
        refine v_ic_ne K 40 dX8_sideOf_33 (by decide) (fun c33 => ?_) (fun c33 => ?_)
        · refine v_iload_n K dX8_sideOf_40 rfl ?_
          refine v_bipush K (60) dX8_sideOf_41 (by decide) ?_
          refine v_ic_ne K 50 dX8_sideOf_43 (by decide) (fun c43 => ?_) (fun c43 => ?_)
          · refine v_iconst K (0) dX8_sideOf_50 (by decide) ?_
            refine v_iret K E dX8_sideOf_51 ?_ rfl
            exact ⟨by unfold sdOf; rw [if_neg c3, if_neg c13, if_neg c23, if_neg c33, if_neg c43], rfl⟩
          · refine v_iconst K (5) dX8_sideOf_46 (by decide) ?_
            refine v_goto K 51 dX8_sideOf_47 (by decide) ?_
            refine v_iret K E dX8_sideOf_51 ?_ rfl
            exact ⟨by rw [c43] <;> rfl, rfl⟩
        · refine v_iconst K (4) dX8_sideOf_36 (by decide) ?_
          refine v_goto K 51 dX8_sideOf_37 (by decide) ?_
          refine v_iret K E dX8_sideOf_51 ?_ rfl
          exact ⟨by rw [c33] <;> rfl, rfl⟩
      · refine v_iconst K (3) dX8_sideOf_26 (by decide) ?_
        refine v_goto K 51 dX8_sideOf_27 (by decide) ?_
        refine v_iret K E dX8_sideOf_51 ?_ rfl
        exact ⟨by rw [c23] <;> rfl, rfl⟩
    · refine v_iconst K (2) dX8_sideOf_16 (by decide) ?_
      refine v_goto K 51 dX8_sideOf_17 (by decide) ?_
      refine v_iret K E dX8_sideOf_51 ?_ rfl
      exact ⟨by rw [c13] <;> rfl, rfl⟩
  · refine v_iconst K (1) dX8_sideOf_6 (by decide) ?_
    refine v_goto K 51 dX8_sideOf_7 (by decide) ?_
    refine v_iret K E dX8_sideOf_51 ?_ rfl
    exact ⟨by rw [c3] <;> rfl, rfl⟩

theorem hd_X8_stands : yX8_stands.cls = RX8 ∧ yX8_stands.cls ≠ "java/lang/invoke/MethodHandle" ∧ yX8_stands.cls ≠ "java/lang/invoke/VarHandle" ∧ (parseMethodDescriptor yX8_stands.desc).map (fun d => d.parameters.length) = some 2 := by decide +kernel
set_option maxHeartbeats 4000000 in
set_option maxRecDepth 100000 in
theorem c_X8_stands (cI cB : ClassId) (m : Nat → Nat) (hl it sl ut ol tl sp tw tm mm rl : Int32) (S : Bk) (f : Nat → Int32) (xs : List Int32) (I P : Nat) (hA : allR S f) (hI : I < S.1.length) (hP : P < 1000) : Ct cI cB yX8_stands wsX8_stands { frames := 1, cells := 0, slots := 0, locals := 20 } [.ref (m 0), .int (nI I), .int (nI P)] [moM m hl it (nI xs.length) sl ut ol tl sp tw tm mm rl, arF cI (m 1) 570 f, arL cI (m 5) 12 xs] (dv (bI (hldL S xs I P)) [moM m hl it (nI xs.length) sl ut ol tl sp tw tm mm rl, arF cI (m 1) 570 f, arL cI (m 5) 12 xs]) := by
  refine ct_of (cc := cX8_stands) (maxL := 6) (ret := (some .boolean)) (by decide) rfl (Nat.le_of_ble_eq_true rfl) [(0, .ref (m 0)), (1, .int (nI I)), (2, .int (nI P))] rfl ?_
  intro X hI hB K E
  subst hI
  subst hB
  have iX8 : ∀ w ∈ u_ws RX8 TX8 28, w ∈ wsX8_stands := by decide +kernel
  have hAr := hA.2.2.2.1 I hI
  have hw := hA.1.2.2.2.2.2.2.1 I hI
  have h30 := hA.1.1
  have hn : (S.1.getD I []).length = (nthR S I).length := rfl
  refine v_arlen 2 rfl (fun hX => ?_)
  refine v_iload_n K dX8_stands_0 rfl ?_
  refine v_callSi K [] (c_X8_ruleAt (XI X) (XB X) _ ) rfl gX8_stands_X8_ruleAt rfl rfl hd_X8_ruleAt ⟨rfl, rfl⟩ ⟨by decide, by decide⟩ (by decide) (Nat.le_of_ble_eq_true rfl) ⟨Nat.zero_le _, Nat.zero_le _⟩ rfl dX8_stands_1 ?_
  refine v_istore_n K dX8_stands_4 (by decide) ?_
  refine v_iload_n K dX8_stands_5 rfl ?_
  refine v_aload_n K dX8_stands_6 rfl ?_
  refine v_get K 0 rfl hasF_c rfl iX8 0 (by decide) rfl (by decide +kernel) rfl dX8_stands_7 ?_
  refine v_iload_n K dX8_stands_10 rfl ?_
  refine v_fald K 1 rfl (2 + 7 * I) ?hx11_2 ?ix11_2 dX8_stands_11 ?_
  case hx11_2 => exact rfl
  case ix11_2 => exact ⟨by omega, by decide⟩
  rw [hAr.1]
  refine v_iadd K dX8_stands_12 ?_
  rw [nI_add]
  refine v_aload_n K dX8_stands_13 rfl ?_
  refine v_get K 0 rfl hasF_c rfl iX8 7 (by decide) rfl (by decide +kernel) rfl dX8_stands_14 ?_
  refine v_ic_gt K 24 dX8_stands_17 (by decide) (fun c17 => ?_) (fun c17 => ?_)
  · refine v_iconst K (0) dX8_stands_24 (by decide) ?_
    refine v_istore K dX8_stands_25 (by decide) ?_
    refine v_iconst K (0) dX8_stands_27 (by decide) ?_
    refine v_istore K dX8_stands_28 (by decide) ?_
    refine v_iload K dX8_stands_30 rfl ?_
    refine v_aload_n K dX8_stands_32 rfl ?_
    refine v_get K 0 rfl hasF_c rfl iX8 0 (by decide) rfl (by decide +kernel) rfl dX8_stands_33 ?_
    refine v_iload_n K dX8_stands_36 rfl ?_
    refine v_fald K 1 rfl (2 + 7 * I) ?hx37_3 ?ix37_3 dX8_stands_37 ?_
    case hx37_3 => exact rfl
    case ix37_3 => exact ⟨by omega, by decide⟩
    refine v_ic_ge K 82 dX8_stands_38 (by decide) (fun c38 => ?_) (fun c38 => ?_)
    · refine v_iload K dX8_stands_82 rfl ?_
      refine v_zret K E dX8_stands_84 (by first | exact Or.inl rfl | exact Or.inr rfl | exact bI_01 _) ?_ rfl
      exact ⟨by rw [hldL_f hA.1 hI (fun z => by rw [nI_ltI (by omega) (by omega)] at c17; omega)] <;> rfl, rfl⟩
    · refine v_iload K dX8_stands_41 rfl ?_
      refine v_if_eq K 82 dX8_stands_43 (by decide) (fun _ => ?_) (fun c => absurd (by decide) c)
      refine v_iload K dX8_stands_82 rfl ?_
      refine v_zret K E dX8_stands_84 (by first | exact Or.inl rfl | exact Or.inr rfl | exact bI_01 _) ?_ rfl
      exact ⟨by rw [hldL_f hA.1 hI (fun z => by rw [nI_ltI (by omega) (by omega)] at c17; omega)] <;> rfl, rfl⟩
  · refine v_iconst K (1) dX8_stands_20 (by decide) ?_
    refine v_goto K 25 dX8_stands_21 (by decide) ?_
    refine v_istore K dX8_stands_25 (by decide) ?_
    refine v_iconst K (0) dX8_stands_27 (by decide) ?_
    refine v_istore K dX8_stands_28 (by decide) ?_
    have hle : P + (nthR S I).length ≤ xs.length := by rw [nI_ltI (by omega) (by omega)] at c17; omega
    have lp : ∀ k2, k2 ≤ (nthR S I).length → ∀ (x : Int32) (b : Bool), x = nI k2 → b = decide (∀ j, j < k2 → (nthR S I).getD j (-5) = xs.getD (P + j) (-5)) → V X 0 0 30 [(0, .ref (m 0)), (1, .int (nI I)), (2, .int (nI P)), (3, .int (nI (2 + 7 * I))), (4, .int (bI b)), (5, .int x)] [] [moM m hl it (nI xs.length) sl ut ol tl sp tw tm mm rl, arF (XI X) (m 1) 570 f, arL (XI X) (m 5) 12 xs] := by
      refine loop_up (nthR S I).length ?_
      intro k2 hk ih x b hx hb
      subst hx
      refine v_iload K dX8_stands_30 rfl ?_
      refine v_aload_n K dX8_stands_32 rfl ?_
      refine v_get K 0 rfl hasF_c rfl iX8 0 (by decide) rfl (by decide +kernel) rfl dX8_stands_33 ?_
      refine v_iload_n K dX8_stands_36 rfl ?_
      refine v_fald K 1 rfl (2 + 7 * I) ?hx37_4 ?ix37_4 dX8_stands_37 ?_
      case hx37_4 => exact rfl
      case ix37_4 => exact ⟨by omega, by decide⟩
      rw [hAr.1]
      refine v_ic_ge K 82 dX8_stands_38 (by decide) (fun c38 => ?_) (fun c38 => ?_)
      · refine v_iload K dX8_stands_82 rfl ?_
        refine v_zret K E dX8_stands_84 (by first | exact Or.inl rfl | exact Or.inr rfl | exact bI_01 _) ?_ rfl
        exact ⟨by rw [hb, up_end rfl (by omega) hk c38] <;> rfl, rfl⟩
      · have hlt := up_lt rfl (by omega) hk c38
        refine v_iload K dX8_stands_41 rfl ?_
        refine v_if_eq K 82 dX8_stands_43 (by decide) (fun c43 => ?_) (fun c43 => ?_)
        · refine v_iload K dX8_stands_82 rfl ?_
          refine v_zret K E dX8_stands_84 (by first | exact Or.inl rfl | exact Or.inr rfl | exact bI_01 _) ?_ rfl
          have hf : hldL S xs I P = false := decide_eq_false (fun z => by rw [bI_0 c43] at hb; exact of_decide_eq_false hb.symm (fun j hj => z j (by rw [hn]; omega)))
          exact ⟨by rw [hf, bI_0 c43], rfl⟩
        · have hbt := bI_1 c43
          rw [hbt] at hb
          have hall := of_decide_eq_true hb.symm
          refine v_aload_n K dX8_stands_46 rfl ?_
          refine v_get K 0 rfl hasF_c rfl iX8 6 (by decide) rfl (by decide +kernel) rfl dX8_stands_47 ?_
          refine v_iload_n K dX8_stands_50 rfl ?_
          refine v_iload K dX8_stands_51 rfl ?_
          refine v_iadd K dX8_stands_53 ?_
          refine v_lald K 2 rfl (P + k2) ?hx54_5 ?ix54_5 dX8_stands_54 ?_
          case hx54_5 => exact nI_add _ _
          case ix54_5 => omega
          refine v_aload_n K dX8_stands_55 rfl ?_
          refine v_get K 0 rfl hasF_c rfl iX8 0 (by decide) rfl (by decide +kernel) rfl dX8_stands_56 ?_
          refine v_iload_n K dX8_stands_59 rfl ?_
          refine v_iconst K (1) dX8_stands_60 (by decide) ?_
          refine v_iadd K dX8_stands_61 ?_
          refine v_iload K dX8_stands_62 rfl ?_
          refine v_iadd K dX8_stands_64 ?_
          refine v_fald K 1 rfl (2 + 7 * I + 1 + k2) ?hx65_6 ?ix65_6 dX8_stands_65 ?_
          case hx65_6 => rw [nI_1, nI_add]
          case ix65_6 => exact ⟨by omega, by decide⟩
          rw [hAr.2.1 k2 hlt]
          refine v_ic_ne K 73 dX8_stands_66 (by decide) (fun c66 => ?_) (fun c66 => ?_)
          · refine v_iconst K (0) dX8_stands_73 (by decide) ?_
            refine v_istore K dX8_stands_74 (by decide) ?_
            refine v_iinc K dX8_stands_76 rfl (by decide) iinc_1 ?_
            refine v_goto K 30 dX8_stands_79 (by decide) ?_
            exact v_j (ih hlt _ false (nI_1 k2) (by rw [decide_eq_false (fun z => c66 (z k2 (by omega)).symm)])) rfl rfl rfl
          · refine v_iconst K (1) dX8_stands_69 (by decide) ?_
            refine v_goto K 74 dX8_stands_70 (by decide) ?_
            refine v_istore K dX8_stands_74 (by decide) ?_
            refine v_iinc K dX8_stands_76 rfl (by decide) iinc_1 ?_
            refine v_goto K 30 dX8_stands_79 (by decide) ?_
            exact v_j (ih hlt _ true (nI_1 k2) (by rw [decide_eq_true (fun j hj => (Nat.lt_or_ge j k2).elim (hall j) (fun h => by rw [show j = k2 by omega]; exact c66.symm))])) rfl rfl rfl
    exact v_j (lp 0 (Nat.zero_le _) 0 true rfl (by rw [decide_eq_true (fun j hj => absurd hj (Nat.not_lt_zero j))])) rfl rfl rfl

theorem hd_X8_holds : yX8_holds.cls = RX8 ∧ yX8_holds.cls ≠ "java/lang/invoke/MethodHandle" ∧ yX8_holds.cls ≠ "java/lang/invoke/VarHandle" ∧ (parseMethodDescriptor yX8_holds.desc).map (fun d => d.parameters.length) = some 2 := by decide +kernel
set_option maxHeartbeats 4000000 in
set_option maxRecDepth 100000 in
theorem c_X8_holds (cI cB : ClassId) (m : Nat → Nat) (hl it sl ut ol tl sp tw tm mm rl : Int32) (S : Bk) (f : Nat → Int32) (xs : List Int32) (I P : Nat) (hA : allR S f) (hI : I < S.1.length) (hP : P < xs.length) : Ct cI cB yX8_holds wsX8_holds { frames := 1, cells := 0, slots := 0, locals := 20 } [.ref (m 0), .int (nI I), .int (nI P)] [moM m hl it (nI xs.length) sl ut ol tl sp tw tm mm rl, arF cI (m 1) 570 f, arL cI (m 5) 12 xs] (dv (bI (sdH (S.2.2.1.getD I (-5)) xs (nI P) (nI (P + (S.1.getD I []).length)))) [moM m hl it (nI xs.length) sl ut ol tl sp tw tm mm rl, arF cI (m 1) 570 f, arL cI (m 5) 12 xs]) := by
  refine ct_of (cc := cX8_holds) (maxL := 5) (ret := (some .boolean)) (by decide) rfl (Nat.le_of_ble_eq_true rfl) [(0, .ref (m 0)), (1, .int (nI I)), (2, .int (nI P))] rfl ?_
  intro X hI hB K E
  subst hI
  subst hB
  have iX8 : ∀ w ∈ u_ws RX8 TX8 28, w ∈ wsX8_holds := by decide +kernel
  have hAr := hA.2.2.2.1 I hI
  have hw := hA.1.2.2.2.2.2.2.1 I hI
  have h30 := hA.1.1
  have hn : (S.1.getD I []).length = (nthR S I).length := rfl
  refine v_arlen 2 rfl (fun hX => ?_)
  refine v_iload_n K dX8_holds_0 rfl ?_
  refine v_aload_n K dX8_holds_1 rfl ?_
  refine v_get K 0 rfl hasF_c rfl iX8 0 (by decide) rfl (by decide +kernel) rfl dX8_holds_2 ?_
  refine v_iload_n K dX8_holds_5 rfl ?_
  refine v_callSi K [] (c_X8_ruleAt (XI X) (XB X) _ ) rfl gX8_holds_X8_ruleAt rfl rfl hd_X8_ruleAt ⟨rfl, rfl⟩ ⟨by decide, by decide⟩ (by decide) (Nat.le_of_ble_eq_true rfl) ⟨Nat.zero_le _, Nat.zero_le _⟩ rfl dX8_holds_6 ?_
  refine v_fald K 1 rfl (2 + 7 * I) ?hx9_2 ?ix9_2 dX8_holds_9 ?_
  case hx9_2 => exact rfl
  case ix9_2 => exact ⟨by omega, by decide⟩
  rw [hAr.1]
  refine v_iadd K dX8_holds_10 ?_
  rw [nI_add]
  refine v_istore_n K dX8_holds_11 (by decide) ?_
  refine v_iload_n K dX8_holds_12 rfl ?_
  refine v_aload_n K dX8_holds_13 rfl ?_
  refine v_get K 0 rfl hasF_c rfl iX8 7 (by decide) rfl (by decide +kernel) rfl dX8_holds_14 ?_
  refine v_ic_ge K 36 dX8_holds_17 (by decide) (fun c17 => ?_) (fun c17 => ?_)
  · refine v_iconst K (0) dX8_holds_36 (by decide) ?_
    have hv : vw (gt xs (nI (P + (S.1.getD I []).length))) = false := by rw [gt_outN (by omega) (show nI xs.length ≤ nI (P + (S.1.getD I []).length) from c17)]; rfl
    refine v_istore K dX8_holds_37 (by decide) ?_
    refine v_aload_n K dX8_holds_39 rfl ?_
    refine v_get K 0 rfl hasF_c rfl iX8 0 (by decide) rfl (by decide +kernel) rfl dX8_holds_40 ?_
    refine v_iload_n K dX8_holds_43 rfl ?_
    refine v_callSi K [] (c_X8_ruleAt (XI X) (XB X) _ ) rfl gX8_holds_X8_ruleAt rfl rfl hd_X8_ruleAt ⟨rfl, rfl⟩ ⟨by decide, by decide⟩ (by decide) (Nat.le_of_ble_eq_true rfl) ⟨Nat.zero_le _, Nat.zero_le _⟩ rfl dX8_holds_44 ?_
    refine v_bipush K (6) dX8_holds_47 (by decide) ?_
    refine v_iadd K dX8_holds_49 ?_
    refine v_fald K 1 rfl (2 + 7 * I + 6) ?hx50_4 ?ix50_4 dX8_holds_50 ?_
    case hx50_4 => exact nI_add _ 6
    case ix50_4 => exact ⟨by omega, by decide⟩
    rw [hAr.2.2.2]
    refine v_case (1) (fun s51_0 => ?_) (fun s51_0 => ?_)
    · refine v_tabHit K 84 dX8_holds_51 s51_0 (by decide) (by decide) rfl (by decide) ?_
      refine v_iload_n K dX8_holds_84 rfl ?_
      refine v_if_ne K 92 dX8_holds_85 (by decide) (fun c85 => ?_) (fun c85 => ?_)
      · refine v_iconst K (0) dX8_holds_92 (by decide) ?_
        refine v_zret K E dX8_holds_93 (by first | exact Or.inl rfl | exact Or.inr rfl | exact bI_01 _) ?_ rfl
        exact ⟨by unfold sdH; rw [if_pos s51_0, decide_eq_false c85] <;> rfl, rfl⟩
      · refine v_iconst K (1) dX8_holds_88 (by decide) ?_
        refine v_goto K 93 dX8_holds_89 (by decide) ?_
        refine v_zret K E dX8_holds_93 (by first | exact Or.inl rfl | exact Or.inr rfl | exact bI_01 _) ?_ rfl
        exact ⟨by unfold sdH; rw [if_pos s51_0, decide_eq_true c85] <;> rfl, rfl⟩
    · refine v_case (2) (fun s51_1 => ?_) (fun s51_1 => ?_)
      · refine v_tabHit K 94 dX8_holds_51 s51_1 (by decide) (by decide) rfl (by decide) ?_
        refine v_iload_n K dX8_holds_94 rfl ?_
        refine v_aload_n K dX8_holds_95 rfl ?_
        refine v_get K 0 rfl hasF_c rfl iX8 7 (by decide) rfl (by decide +kernel) rfl dX8_holds_96 ?_
        refine v_ic_ne K 106 dX8_holds_99 (by decide) (fun c99 => ?_) (fun c99 => ?_)
        · refine v_iconst K (0) dX8_holds_106 (by decide) ?_
          refine v_zret K E dX8_holds_107 (by first | exact Or.inl rfl | exact Or.inr rfl | exact bI_01 _) ?_ rfl
          exact ⟨by unfold sdH; rw [if_neg s51_0, if_pos s51_1, hn, decide_eq_false c99] <;> rfl, rfl⟩
        · refine v_iconst K (1) dX8_holds_102 (by decide) ?_
          refine v_goto K 107 dX8_holds_103 (by decide) ?_
          refine v_zret K E dX8_holds_107 (by first | exact Or.inl rfl | exact Or.inr rfl | exact bI_01 _) ?_ rfl
          exact ⟨by unfold sdH; rw [if_neg s51_0, if_pos s51_1, hn, decide_eq_true c99] <;> rfl, rfl⟩
      · refine v_case (3) (fun s51_2 => ?_) (fun s51_2 => ?_)
        · refine v_tabHit K 108 dX8_holds_51 s51_2 (by decide) (by decide) rfl (by decide) ?_
          refine v_iload K dX8_holds_108 rfl ?_
          refine v_zret K E dX8_holds_110 (by first | exact Or.inl rfl | exact Or.inr rfl | exact bI_01 _) ?_ rfl
          exact ⟨by unfold sdH; rw [if_neg s51_0, if_neg s51_1, if_pos s51_2, hv] <;> rfl, rfl⟩
        · refine v_case (4) (fun s51_3 => ?_) (fun s51_3 => ?_)
          · refine v_tabHit K 111 dX8_holds_51 s51_3 (by decide) (by decide) rfl (by decide) ?_
            refine v_iload K dX8_holds_111 rfl ?_
            refine v_if_ne K 120 dX8_holds_113 (by decide) (fun c => absurd rfl c) (fun _ => ?_)
            refine v_iconst K (1) dX8_holds_116 (by decide) ?_
            refine v_goto K 121 dX8_holds_117 (by decide) ?_
            refine v_zret K E dX8_holds_121 (by first | exact Or.inl rfl | exact Or.inr rfl | exact bI_01 _) ?_ rfl
            exact ⟨by unfold sdH; rw [if_neg s51_0, if_neg s51_1, if_neg s51_2, if_pos s51_3, hv] <;> rfl, rfl⟩
          · refine v_case (5) (fun s51_4 => ?_) (fun s51_4 => ?_)
            · refine v_tabHit K 122 dX8_holds_51 s51_4 (by decide) (by decide) rfl (by decide) ?_
              refine v_iload_n K dX8_holds_122 rfl ?_
              refine v_if_le K 144 dX8_holds_123 (by decide) (fun c123 => ?_) (fun c123 => ?_)
              · refine v_iconst K (0) dX8_holds_144 (by decide) ?_
                refine v_zret K E dX8_holds_145 (by first | exact Or.inl rfl | exact Or.inr rfl | exact bI_01 _) ?_ rfl
                have hp0 : P = 0 := by rw [show (0 : Int32) = nI 0 from rfl, nI_leI (by omega) (by decide)] at c123; omega
                subst hp0
                exact ⟨by unfold sdH; rw [if_neg s51_0, if_neg s51_1, if_neg s51_2, if_neg s51_3, if_pos s51_4, show vw (gt xs (nI 0 - 1)) = false by rw [gt_neg (by decide)]; rfl] <;> rfl, rfl⟩
              · have hp1 : 1 ≤ P := Nat.pos_of_ne_zero (fun z => c123 (by rw [z]; decide))
                refine v_aload_n K dX8_holds_126 rfl ?_
                refine v_get K 0 rfl hasF_c rfl iX8 6 (by decide) rfl (by decide +kernel) rfl dX8_holds_127 ?_
                refine v_iload_n K dX8_holds_130 rfl ?_
                refine v_iconst K (1) dX8_holds_131 (by decide) ?_
                refine v_isub K dX8_holds_132 ?_
                refine v_lald K 2 rfl (P - 1) ?hx133_5 ?ix133_5 dX8_holds_133 ?_
                case hx133_5 => exact sub1 hp1
                case ix133_5 => omega
                refine v_callSi K [] (c_X8_isVowel (XI X) (XB X) _ ) rfl gX8_holds_X8_isVowel rfl rfl hd_X8_isVowel ⟨rfl, rfl⟩ ⟨by decide, by decide⟩ (by decide) (Nat.le_of_ble_eq_true rfl) ⟨Nat.zero_le _, Nat.zero_le _⟩ rfl dX8_holds_134 ?_
                refine v_if_eq K 144 dX8_holds_137 (by decide) (fun c137 => ?_) (fun c137 => ?_)
                · refine v_iconst K (0) dX8_holds_144 (by decide) ?_
                  refine v_zret K E dX8_holds_145 (by first | exact Or.inl rfl | exact Or.inr rfl | exact bI_01 _) ?_ rfl
                  exact ⟨by unfold sdH; rw [if_neg s51_0, if_neg s51_1, if_neg s51_2, if_neg s51_3, if_pos s51_4, sub1 hp1, gt_n (by omega), bI_0 c137] <;> rfl, rfl⟩
                · refine v_iconst K (1) dX8_holds_140 (by decide) ?_
                  refine v_goto K 145 dX8_holds_141 (by decide) ?_
                  refine v_zret K E dX8_holds_145 (by first | exact Or.inl rfl | exact Or.inr rfl | exact bI_01 _) ?_ rfl
                  exact ⟨by unfold sdH; rw [if_neg s51_0, if_neg s51_1, if_neg s51_2, if_neg s51_3, if_pos s51_4, sub1 hp1, gt_n (by omega), bI_1 c137] <;> rfl, rfl⟩
            · refine v_tabOut K 146 dX8_holds_51 (by have h0 := lv_neT (k := 1) (a := 1) s51_0 rfl; have h1 := lv_neT (k := 2) (a := 2) s51_1 rfl; have h2 := lv_neT (k := 3) (a := 3) s51_2 rfl; have h3 := lv_neT (k := 4) (a := 4) s51_3 rfl; have h4 := lv_neT (k := 5) (a := 5) s51_4 rfl; omega) (by decide) ?_
              refine v_iconst K (1) dX8_holds_146 (by decide) ?_
              refine v_zret K E dX8_holds_147 (by first | exact Or.inl rfl | exact Or.inr rfl | exact bI_01 _) ?_ rfl
              exact ⟨by unfold sdH; rw [if_neg s51_0, if_neg s51_1, if_neg s51_2, if_neg s51_3, if_neg s51_4] <;> rfl, rfl⟩
  · refine v_aload_n K dX8_holds_20 rfl ?_
    refine v_get K 0 rfl hasF_c rfl iX8 6 (by decide) rfl (by decide +kernel) rfl dX8_holds_21 ?_
    refine v_iload_n K dX8_holds_24 rfl ?_
    refine v_lald K 2 rfl (P + (nthR S I).length) ?hx25_7 ?ix25_7 dX8_holds_25 ?_
    case hx25_7 => exact rfl
    case ix25_7 => rw [nI_leI (by omega) (by omega)] at c17; omega
    refine v_callSi K [] (c_X8_isVowel (XI X) (XB X) _ ) rfl gX8_holds_X8_isVowel rfl rfl hd_X8_isVowel ⟨rfl, rfl⟩ ⟨by decide, by decide⟩ (by decide) (Nat.le_of_ble_eq_true rfl) ⟨Nat.zero_le _, Nat.zero_le _⟩ rfl dX8_holds_26 ?_
    refine v_if_eq K 36 dX8_holds_29 (by decide) (fun c29 => ?_) (fun c29 => ?_)
    · refine v_iconst K (0) dX8_holds_36 (by decide) ?_
      have hv : vw (gt xs (nI (P + (S.1.getD I []).length))) = false := by rw [gt_n (by omega)]; exact bI_0 c29
      refine v_istore K dX8_holds_37 (by decide) ?_
      refine v_aload_n K dX8_holds_39 rfl ?_
      refine v_get K 0 rfl hasF_c rfl iX8 0 (by decide) rfl (by decide +kernel) rfl dX8_holds_40 ?_
      refine v_iload_n K dX8_holds_43 rfl ?_
      refine v_callSi K [] (c_X8_ruleAt (XI X) (XB X) _ ) rfl gX8_holds_X8_ruleAt rfl rfl hd_X8_ruleAt ⟨rfl, rfl⟩ ⟨by decide, by decide⟩ (by decide) (Nat.le_of_ble_eq_true rfl) ⟨Nat.zero_le _, Nat.zero_le _⟩ rfl dX8_holds_44 ?_
      refine v_bipush K (6) dX8_holds_47 (by decide) ?_
      refine v_iadd K dX8_holds_49 ?_
      refine v_fald K 1 rfl (2 + 7 * I + 6) ?hx50_10 ?ix50_10 dX8_holds_50 ?_
      case hx50_10 => exact nI_add _ 6
      case ix50_10 => exact ⟨by omega, by decide⟩
      rw [hAr.2.2.2]
      refine v_case (1) (fun s51_0 => ?_) (fun s51_0 => ?_)
      · refine v_tabHit K 84 dX8_holds_51 s51_0 (by decide) (by decide) rfl (by decide) ?_
        refine v_iload_n K dX8_holds_84 rfl ?_
        refine v_if_ne K 92 dX8_holds_85 (by decide) (fun c85 => ?_) (fun c85 => ?_)
        · refine v_iconst K (0) dX8_holds_92 (by decide) ?_
          refine v_zret K E dX8_holds_93 (by first | exact Or.inl rfl | exact Or.inr rfl | exact bI_01 _) ?_ rfl
          exact ⟨by unfold sdH; rw [if_pos s51_0, decide_eq_false c85] <;> rfl, rfl⟩
        · refine v_iconst K (1) dX8_holds_88 (by decide) ?_
          refine v_goto K 93 dX8_holds_89 (by decide) ?_
          refine v_zret K E dX8_holds_93 (by first | exact Or.inl rfl | exact Or.inr rfl | exact bI_01 _) ?_ rfl
          exact ⟨by unfold sdH; rw [if_pos s51_0, decide_eq_true c85] <;> rfl, rfl⟩
      · refine v_case (2) (fun s51_1 => ?_) (fun s51_1 => ?_)
        · refine v_tabHit K 94 dX8_holds_51 s51_1 (by decide) (by decide) rfl (by decide) ?_
          refine v_iload_n K dX8_holds_94 rfl ?_
          refine v_aload_n K dX8_holds_95 rfl ?_
          refine v_get K 0 rfl hasF_c rfl iX8 7 (by decide) rfl (by decide +kernel) rfl dX8_holds_96 ?_
          refine v_ic_ne K 106 dX8_holds_99 (by decide) (fun c99 => ?_) (fun c99 => ?_)
          · refine v_iconst K (0) dX8_holds_106 (by decide) ?_
            refine v_zret K E dX8_holds_107 (by first | exact Or.inl rfl | exact Or.inr rfl | exact bI_01 _) ?_ rfl
            exact ⟨by unfold sdH; rw [if_neg s51_0, if_pos s51_1, hn, decide_eq_false c99] <;> rfl, rfl⟩
          · refine v_iconst K (1) dX8_holds_102 (by decide) ?_
            refine v_goto K 107 dX8_holds_103 (by decide) ?_
            refine v_zret K E dX8_holds_107 (by first | exact Or.inl rfl | exact Or.inr rfl | exact bI_01 _) ?_ rfl
            exact ⟨by unfold sdH; rw [if_neg s51_0, if_pos s51_1, hn, decide_eq_true c99] <;> rfl, rfl⟩
        · refine v_case (3) (fun s51_2 => ?_) (fun s51_2 => ?_)
          · refine v_tabHit K 108 dX8_holds_51 s51_2 (by decide) (by decide) rfl (by decide) ?_
            refine v_iload K dX8_holds_108 rfl ?_
            refine v_zret K E dX8_holds_110 (by first | exact Or.inl rfl | exact Or.inr rfl | exact bI_01 _) ?_ rfl
            exact ⟨by unfold sdH; rw [if_neg s51_0, if_neg s51_1, if_pos s51_2, hv] <;> rfl, rfl⟩
          · refine v_case (4) (fun s51_3 => ?_) (fun s51_3 => ?_)
            · refine v_tabHit K 111 dX8_holds_51 s51_3 (by decide) (by decide) rfl (by decide) ?_
              refine v_iload K dX8_holds_111 rfl ?_
              refine v_if_ne K 120 dX8_holds_113 (by decide) (fun c => absurd rfl c) (fun _ => ?_)
              refine v_iconst K (1) dX8_holds_116 (by decide) ?_
              refine v_goto K 121 dX8_holds_117 (by decide) ?_
              refine v_zret K E dX8_holds_121 (by first | exact Or.inl rfl | exact Or.inr rfl | exact bI_01 _) ?_ rfl
              exact ⟨by unfold sdH; rw [if_neg s51_0, if_neg s51_1, if_neg s51_2, if_pos s51_3, hv] <;> rfl, rfl⟩
            · refine v_case (5) (fun s51_4 => ?_) (fun s51_4 => ?_)
              · refine v_tabHit K 122 dX8_holds_51 s51_4 (by decide) (by decide) rfl (by decide) ?_
                refine v_iload_n K dX8_holds_122 rfl ?_
                refine v_if_le K 144 dX8_holds_123 (by decide) (fun c123 => ?_) (fun c123 => ?_)
                · refine v_iconst K (0) dX8_holds_144 (by decide) ?_
                  refine v_zret K E dX8_holds_145 (by first | exact Or.inl rfl | exact Or.inr rfl | exact bI_01 _) ?_ rfl
                  have hp0 : P = 0 := by rw [show (0 : Int32) = nI 0 from rfl, nI_leI (by omega) (by decide)] at c123; omega
                  subst hp0
                  exact ⟨by unfold sdH; rw [if_neg s51_0, if_neg s51_1, if_neg s51_2, if_neg s51_3, if_pos s51_4, show vw (gt xs (nI 0 - 1)) = false by rw [gt_neg (by decide)]; rfl] <;> rfl, rfl⟩
                · have hp1 : 1 ≤ P := Nat.pos_of_ne_zero (fun z => c123 (by rw [z]; decide))
                  refine v_aload_n K dX8_holds_126 rfl ?_
                  refine v_get K 0 rfl hasF_c rfl iX8 6 (by decide) rfl (by decide +kernel) rfl dX8_holds_127 ?_
                  refine v_iload_n K dX8_holds_130 rfl ?_
                  refine v_iconst K (1) dX8_holds_131 (by decide) ?_
                  refine v_isub K dX8_holds_132 ?_
                  refine v_lald K 2 rfl (P - 1) ?hx133_11 ?ix133_11 dX8_holds_133 ?_
                  case hx133_11 => exact sub1 hp1
                  case ix133_11 => omega
                  refine v_callSi K [] (c_X8_isVowel (XI X) (XB X) _ ) rfl gX8_holds_X8_isVowel rfl rfl hd_X8_isVowel ⟨rfl, rfl⟩ ⟨by decide, by decide⟩ (by decide) (Nat.le_of_ble_eq_true rfl) ⟨Nat.zero_le _, Nat.zero_le _⟩ rfl dX8_holds_134 ?_
                  refine v_if_eq K 144 dX8_holds_137 (by decide) (fun c137 => ?_) (fun c137 => ?_)
                  · refine v_iconst K (0) dX8_holds_144 (by decide) ?_
                    refine v_zret K E dX8_holds_145 (by first | exact Or.inl rfl | exact Or.inr rfl | exact bI_01 _) ?_ rfl
                    exact ⟨by unfold sdH; rw [if_neg s51_0, if_neg s51_1, if_neg s51_2, if_neg s51_3, if_pos s51_4, sub1 hp1, gt_n (by omega), bI_0 c137] <;> rfl, rfl⟩
                  · refine v_iconst K (1) dX8_holds_140 (by decide) ?_
                    refine v_goto K 145 dX8_holds_141 (by decide) ?_
                    refine v_zret K E dX8_holds_145 (by first | exact Or.inl rfl | exact Or.inr rfl | exact bI_01 _) ?_ rfl
                    exact ⟨by unfold sdH; rw [if_neg s51_0, if_neg s51_1, if_neg s51_2, if_neg s51_3, if_pos s51_4, sub1 hp1, gt_n (by omega), bI_1 c137] <;> rfl, rfl⟩
              · refine v_tabOut K 146 dX8_holds_51 (by have h0 := lv_neT (k := 1) (a := 1) s51_0 rfl; have h1 := lv_neT (k := 2) (a := 2) s51_1 rfl; have h2 := lv_neT (k := 3) (a := 3) s51_2 rfl; have h3 := lv_neT (k := 4) (a := 4) s51_3 rfl; have h4 := lv_neT (k := 5) (a := 5) s51_4 rfl; omega) (by decide) ?_
                refine v_iconst K (1) dX8_holds_146 (by decide) ?_
                refine v_zret K E dX8_holds_147 (by first | exact Or.inl rfl | exact Or.inr rfl | exact bI_01 _) ?_ rfl
                exact ⟨by unfold sdH; rw [if_neg s51_0, if_neg s51_1, if_neg s51_2, if_neg s51_3, if_neg s51_4] <;> rfl, rfl⟩
    · refine v_iconst K (1) dX8_holds_32 (by decide) ?_
      refine v_goto K 37 dX8_holds_33 (by decide) ?_
      have hv : vw (gt xs (nI (P + (S.1.getD I []).length))) = true := by rw [gt_n (by omega)]; exact bI_1 c29
      refine v_istore K dX8_holds_37 (by decide) ?_
      refine v_aload_n K dX8_holds_39 rfl ?_
      refine v_get K 0 rfl hasF_c rfl iX8 0 (by decide) rfl (by decide +kernel) rfl dX8_holds_40 ?_
      refine v_iload_n K dX8_holds_43 rfl ?_
      refine v_callSi K [] (c_X8_ruleAt (XI X) (XB X) _ ) rfl gX8_holds_X8_ruleAt rfl rfl hd_X8_ruleAt ⟨rfl, rfl⟩ ⟨by decide, by decide⟩ (by decide) (Nat.le_of_ble_eq_true rfl) ⟨Nat.zero_le _, Nat.zero_le _⟩ rfl dX8_holds_44 ?_
      refine v_bipush K (6) dX8_holds_47 (by decide) ?_
      refine v_iadd K dX8_holds_49 ?_
      refine v_fald K 1 rfl (2 + 7 * I + 6) ?hx50_14 ?ix50_14 dX8_holds_50 ?_
      case hx50_14 => exact nI_add _ 6
      case ix50_14 => exact ⟨by omega, by decide⟩
      rw [hAr.2.2.2]
      refine v_case (1) (fun s51_0 => ?_) (fun s51_0 => ?_)
      · refine v_tabHit K 84 dX8_holds_51 s51_0 (by decide) (by decide) rfl (by decide) ?_
        refine v_iload_n K dX8_holds_84 rfl ?_
        refine v_if_ne K 92 dX8_holds_85 (by decide) (fun c85 => ?_) (fun c85 => ?_)
        · refine v_iconst K (0) dX8_holds_92 (by decide) ?_
          refine v_zret K E dX8_holds_93 (by first | exact Or.inl rfl | exact Or.inr rfl | exact bI_01 _) ?_ rfl
          exact ⟨by unfold sdH; rw [if_pos s51_0, decide_eq_false c85] <;> rfl, rfl⟩
        · refine v_iconst K (1) dX8_holds_88 (by decide) ?_
          refine v_goto K 93 dX8_holds_89 (by decide) ?_
          refine v_zret K E dX8_holds_93 (by first | exact Or.inl rfl | exact Or.inr rfl | exact bI_01 _) ?_ rfl
          exact ⟨by unfold sdH; rw [if_pos s51_0, decide_eq_true c85] <;> rfl, rfl⟩
      · refine v_case (2) (fun s51_1 => ?_) (fun s51_1 => ?_)
        · refine v_tabHit K 94 dX8_holds_51 s51_1 (by decide) (by decide) rfl (by decide) ?_
          refine v_iload_n K dX8_holds_94 rfl ?_
          refine v_aload_n K dX8_holds_95 rfl ?_
          refine v_get K 0 rfl hasF_c rfl iX8 7 (by decide) rfl (by decide +kernel) rfl dX8_holds_96 ?_
          refine v_ic_ne K 106 dX8_holds_99 (by decide) (fun c99 => ?_) (fun c99 => ?_)
          · refine v_iconst K (0) dX8_holds_106 (by decide) ?_
            refine v_zret K E dX8_holds_107 (by first | exact Or.inl rfl | exact Or.inr rfl | exact bI_01 _) ?_ rfl
            exact ⟨by unfold sdH; rw [if_neg s51_0, if_pos s51_1, hn, decide_eq_false c99] <;> rfl, rfl⟩
          · refine v_iconst K (1) dX8_holds_102 (by decide) ?_
            refine v_goto K 107 dX8_holds_103 (by decide) ?_
            refine v_zret K E dX8_holds_107 (by first | exact Or.inl rfl | exact Or.inr rfl | exact bI_01 _) ?_ rfl
            exact ⟨by unfold sdH; rw [if_neg s51_0, if_pos s51_1, hn, decide_eq_true c99] <;> rfl, rfl⟩
        · refine v_case (3) (fun s51_2 => ?_) (fun s51_2 => ?_)
          · refine v_tabHit K 108 dX8_holds_51 s51_2 (by decide) (by decide) rfl (by decide) ?_
            refine v_iload K dX8_holds_108 rfl ?_
            refine v_zret K E dX8_holds_110 (by first | exact Or.inl rfl | exact Or.inr rfl | exact bI_01 _) ?_ rfl
            exact ⟨by unfold sdH; rw [if_neg s51_0, if_neg s51_1, if_pos s51_2, hv] <;> rfl, rfl⟩
          · refine v_case (4) (fun s51_3 => ?_) (fun s51_3 => ?_)
            · refine v_tabHit K 111 dX8_holds_51 s51_3 (by decide) (by decide) rfl (by decide) ?_
              refine v_iload K dX8_holds_111 rfl ?_
              refine v_if_ne K 120 dX8_holds_113 (by decide) (fun _ => ?_) (fun c => absurd c (by decide))
              refine v_iconst K (0) dX8_holds_120 (by decide) ?_
              refine v_zret K E dX8_holds_121 (by first | exact Or.inl rfl | exact Or.inr rfl | exact bI_01 _) ?_ rfl
              exact ⟨by unfold sdH; rw [if_neg s51_0, if_neg s51_1, if_neg s51_2, if_pos s51_3, hv] <;> rfl, rfl⟩
            · refine v_case (5) (fun s51_4 => ?_) (fun s51_4 => ?_)
              · refine v_tabHit K 122 dX8_holds_51 s51_4 (by decide) (by decide) rfl (by decide) ?_
                refine v_iload_n K dX8_holds_122 rfl ?_
                refine v_if_le K 144 dX8_holds_123 (by decide) (fun c123 => ?_) (fun c123 => ?_)
                · refine v_iconst K (0) dX8_holds_144 (by decide) ?_
                  refine v_zret K E dX8_holds_145 (by first | exact Or.inl rfl | exact Or.inr rfl | exact bI_01 _) ?_ rfl
                  have hp0 : P = 0 := by rw [show (0 : Int32) = nI 0 from rfl, nI_leI (by omega) (by decide)] at c123; omega
                  subst hp0
                  exact ⟨by unfold sdH; rw [if_neg s51_0, if_neg s51_1, if_neg s51_2, if_neg s51_3, if_pos s51_4, show vw (gt xs (nI 0 - 1)) = false by rw [gt_neg (by decide)]; rfl] <;> rfl, rfl⟩
                · have hp1 : 1 ≤ P := Nat.pos_of_ne_zero (fun z => c123 (by rw [z]; decide))
                  refine v_aload_n K dX8_holds_126 rfl ?_
                  refine v_get K 0 rfl hasF_c rfl iX8 6 (by decide) rfl (by decide +kernel) rfl dX8_holds_127 ?_
                  refine v_iload_n K dX8_holds_130 rfl ?_
                  refine v_iconst K (1) dX8_holds_131 (by decide) ?_
                  refine v_isub K dX8_holds_132 ?_
                  refine v_lald K 2 rfl (P - 1) ?hx133_15 ?ix133_15 dX8_holds_133 ?_
                  case hx133_15 => exact sub1 hp1
                  case ix133_15 => omega
                  refine v_callSi K [] (c_X8_isVowel (XI X) (XB X) _ ) rfl gX8_holds_X8_isVowel rfl rfl hd_X8_isVowel ⟨rfl, rfl⟩ ⟨by decide, by decide⟩ (by decide) (Nat.le_of_ble_eq_true rfl) ⟨Nat.zero_le _, Nat.zero_le _⟩ rfl dX8_holds_134 ?_
                  refine v_if_eq K 144 dX8_holds_137 (by decide) (fun c137 => ?_) (fun c137 => ?_)
                  · refine v_iconst K (0) dX8_holds_144 (by decide) ?_
                    refine v_zret K E dX8_holds_145 (by first | exact Or.inl rfl | exact Or.inr rfl | exact bI_01 _) ?_ rfl
                    exact ⟨by unfold sdH; rw [if_neg s51_0, if_neg s51_1, if_neg s51_2, if_neg s51_3, if_pos s51_4, sub1 hp1, gt_n (by omega), bI_0 c137] <;> rfl, rfl⟩
                  · refine v_iconst K (1) dX8_holds_140 (by decide) ?_
                    refine v_goto K 145 dX8_holds_141 (by decide) ?_
                    refine v_zret K E dX8_holds_145 (by first | exact Or.inl rfl | exact Or.inr rfl | exact bI_01 _) ?_ rfl
                    exact ⟨by unfold sdH; rw [if_neg s51_0, if_neg s51_1, if_neg s51_2, if_neg s51_3, if_pos s51_4, sub1 hp1, gt_n (by omega), bI_1 c137] <;> rfl, rfl⟩
              · refine v_tabOut K 146 dX8_holds_51 (by have h0 := lv_neT (k := 1) (a := 1) s51_0 rfl; have h1 := lv_neT (k := 2) (a := 2) s51_1 rfl; have h2 := lv_neT (k := 3) (a := 3) s51_2 rfl; have h3 := lv_neT (k := 4) (a := 4) s51_3 rfl; have h4 := lv_neT (k := 5) (a := 5) s51_4 rfl; omega) (by decide) ?_
                refine v_iconst K (1) dX8_holds_146 (by decide) ?_
                refine v_zret K E dX8_holds_147 (by first | exact Or.inl rfl | exact Or.inr rfl | exact bI_01 _) ?_ rfl
                exact ⟨by unfold sdH; rw [if_neg s51_0, if_neg s51_1, if_neg s51_2, if_neg s51_3, if_neg s51_4] <;> rfl, rfl⟩

theorem hd_X8_weight : yX8_weight.cls = RX8 ∧ yX8_weight.cls ≠ "java/lang/invoke/MethodHandle" ∧ yX8_weight.cls ≠ "java/lang/invoke/VarHandle" ∧ (parseMethodDescriptor yX8_weight.desc).map (fun d => d.parameters.length) = some 1 := by decide +kernel
set_option maxHeartbeats 4000000 in
set_option maxRecDepth 100000 in
theorem c_X8_weight (cI cB : ClassId) (m : Nat → Nat) (hl it sz sl ut ol tl sp tw tm mm rl : Int32) (S : Bk) (f : Nat → Int32) (I : Nat) (hA : allR S f) (hI : I < S.1.length) : Ct cI cB yX8_weight wsX8_weight { frames := 1, cells := 0, slots := 0, locals := 20 } [.ref (m 0), .int (nI I)] [moM m hl it sz sl ut ol tl sp tw tm mm rl, arF cI (m 1) 570 f] (dv (rk S I) [moM m hl it sz sl ut ol tl sp tw tm mm rl, arF cI (m 1) 570 f]) := by
  refine ct_of (cc := cX8_weight) (maxL := 2) (ret := (some .int)) (by decide) rfl (Nat.le_of_ble_eq_true rfl) [(0, .ref (m 0)), (1, .int (nI I))] rfl ?_
  intro X hI hB K E
  subst hI
  subst hB
  have iX8 : ∀ w ∈ u_ws RX8 TX8 28, w ∈ wsX8_weight := by decide +kernel
  have hAr := hA.2.2.2.1 I hI
  have hw := hA.1.2.2.2.2.2.2.1 I hI
  have h30 := hA.1.1
  have hn : (S.1.getD I []).length = (nthR S I).length := rfl
  refine v_iconst K (2) dX8_weight_0 (by decide) ?_
  refine v_aload_n K dX8_weight_1 rfl ?_
  refine v_get K 0 rfl hasF_c rfl iX8 0 (by decide) rfl (by decide +kernel) rfl dX8_weight_2 ?_
  refine v_iload_n K dX8_weight_5 rfl ?_
  refine v_callSi K [] (c_X8_ruleAt (XI X) (XB X) _ ) rfl gX8_weight_X8_ruleAt rfl rfl hd_X8_ruleAt ⟨rfl, rfl⟩ ⟨by decide, by decide⟩ (by decide) (Nat.le_of_ble_eq_true rfl) ⟨Nat.zero_le _, Nat.zero_le _⟩ rfl dX8_weight_6 ?_
  refine v_fald K 1 rfl (2 + 7 * I) ?hx9_2 ?ix9_2 dX8_weight_9 ?_
  case hx9_2 => exact rfl
  case ix9_2 => exact ⟨by omega, by decide⟩
  rw [hAr.1]
  refine v_imul K dX8_weight_10 ?_
  refine v_aload_n K dX8_weight_11 rfl ?_
  refine v_get K 0 rfl hasF_c rfl iX8 0 (by decide) rfl (by decide +kernel) rfl dX8_weight_12 ?_
  refine v_iload_n K dX8_weight_15 rfl ?_
  refine v_callSi K [] (c_X8_ruleAt (XI X) (XB X) _ ) rfl gX8_weight_X8_ruleAt rfl rfl hd_X8_ruleAt ⟨rfl, rfl⟩ ⟨by decide, by decide⟩ (by decide) (Nat.le_of_ble_eq_true rfl) ⟨Nat.zero_le _, Nat.zero_le _⟩ rfl dX8_weight_16 ?_
  refine v_bipush K (6) dX8_weight_19 (by decide) ?_
  refine v_iadd K dX8_weight_21 ?_
  refine v_fald K 1 rfl (2 + 7 * I + 6) ?hx22_4 ?ix22_4 dX8_weight_22 ?_
  case hx22_4 => exact nI_add _ 6
  case ix22_4 => exact ⟨by omega, by decide⟩
  rw [hAr.2.2.2]
  refine v_if_le K 30 dX8_weight_23 (by decide) (fun c23 => ?_) (fun c23 => ?_)
  · refine v_iconst K (0) dX8_weight_30 (by decide) ?_
    refine v_iadd K dX8_weight_31 ?_
    refine v_iret K E dX8_weight_32 ?_ rfl
    exact ⟨by unfold rk; rw [if_pos (Int32.le_antisymm c23 hw.2.2.2.2.1)] <;> rfl, rfl⟩
  · refine v_iconst K (1) dX8_weight_26 (by decide) ?_
    refine v_goto K 31 dX8_weight_27 (by decide) ?_
    refine v_iadd K dX8_weight_31 ?_
    refine v_iret K E dX8_weight_32 ?_ rfl
    exact ⟨by unfold rk; rw [if_neg (fun z => c23 (by rw [z]; decide))] <;> rfl, rfl⟩

theorem hd_X8_ruleAtPlace : yX8_ruleAtPlace.cls = RX8 ∧ yX8_ruleAtPlace.cls ≠ "java/lang/invoke/MethodHandle" ∧ yX8_ruleAtPlace.cls ≠ "java/lang/invoke/VarHandle" ∧ (parseMethodDescriptor yX8_ruleAtPlace.desc).map (fun d => d.parameters.length) = some 1 := by decide +kernel
set_option maxHeartbeats 4000000 in
set_option maxRecDepth 100000 in
theorem c_X8_ruleAtPlace (cI cB : ClassId) (m : Nat → Nat) (hl it sl ut ol tl sp tw tm mm rl : Int32) (S : Bk) (f : Nat → Int32) (xs : List Int32) (P : Nat) (hA : allR S f) (hP : P < xs.length) : Ct cI cB yX8_ruleAtPlace wsX8_ruleAtPlace { frames := 2, cells := 0, slots := 0, locals := 45 } [.ref (m 0), .int (nI P)] [moM m hl it (nI xs.length) sl ut ol tl sp tw tm mm rl, arF cI (m 1) 570 f, arL cI (m 5) 12 xs] (dv (bst S xs P S.1.length).1 [moM m hl it (nI xs.length) sl ut ol tl sp tw tm mm rl, arF cI (m 1) 570 f, arL cI (m 5) 12 xs]) := by
  refine ct_of (cc := cX8_ruleAtPlace) (maxL := 4) (ret := (some .int)) (by decide) rfl (Nat.le_of_ble_eq_true rfl) [(0, .ref (m 0)), (1, .int (nI P))] rfl ?_
  intro X hI hB K E
  subst hI
  subst hB
  have iX8 : ∀ w ∈ u_ws RX8 TX8 28, w ∈ wsX8_ruleAtPlace := by decide +kernel
  have h30 := hA.1.1
  refine v_arlen 2 rfl (fun hX => ?_)
  have lp : ∀ k2, k2 ≤ S.1.length → ∀ (x : Int32), x = nI k2 → V X 0 0 5 [(0, .ref (m 0)), (1, .int (nI P)), (2, .int (bst S xs P k2).1), (3, .int x)] [] [moM m hl it (nI xs.length) sl ut ol tl sp tw tm mm rl, arF (XI X) (m 1) 570 f, arL (XI X) (m 5) 12 xs] := by
    refine loop_up S.1.length ?_
    intro k2 hk ih x hx
    subst hx
    refine v_iload_n K dX8_ruleAtPlace_5 rfl ?_
    refine v_aload_n K dX8_ruleAtPlace_6 rfl ?_
    refine v_get K 0 rfl hasF_c rfl iX8 0 (by decide) rfl (by decide +kernel) rfl dX8_ruleAtPlace_7 ?_
    refine v_iconst K (0) dX8_ruleAtPlace_10 (by decide) ?_
    refine v_fald K 1 rfl (0) ?hx11_1 ?ix11_1 dX8_ruleAtPlace_11 ?_
    case hx11_1 => exact rfl
    case ix11_1 => exact ⟨by decide, by decide⟩
    rw [hA.2.1]
    refine v_ic_ge K 60 dX8_ruleAtPlace_12 (by decide) (fun c12 => ?_) (fun c12 => ?_)
    · refine v_iload_n K dX8_ruleAtPlace_60 rfl ?_
      refine v_iret K E dX8_ruleAtPlace_61 ?_ rfl
      exact ⟨by rw [up_end rfl (by omega) hk c12] <;> rfl, rfl⟩
    · have hlt := up_lt rfl (by omega) hk c12
      refine v_aload_n K dX8_ruleAtPlace_15 rfl ?_
      refine v_iload_n K dX8_ruleAtPlace_16 rfl ?_
      refine v_iload_n K dX8_ruleAtPlace_17 rfl ?_
      refine v_callVi K [0, 1, 2] (c_X8_stands (XI X) (XB X) _ _ _ _ _ _ _ _ _ _ _ _ S _ _ _ _ ?hc18_0_2 ?hc18_1_2 ?hc18_2_2) rfl gX8_ruleAtPlace_X8_stands rfl rfl hd_X8_stands ⟨rfl, rfl⟩ ⟨by decide, by decide⟩ 0 rfl hasF_c rfl (by decide) (Nat.le_of_ble_eq_true rfl) ⟨Nat.zero_le _, Nat.zero_le _⟩ rfl dX8_ruleAtPlace_18 ?_
      case hc18_0_2 => exact hA
      case hc18_1_2 => exact hlt
      case hc18_2_2 => omega
      refine v_if_eq K 54 dX8_ruleAtPlace_21 (by decide) (fun c21 => ?_) (fun c21 => ?_)
      · refine v_iinc K dX8_ruleAtPlace_54 rfl (by decide) iinc_1 ?_
        refine v_goto K 5 dX8_ruleAtPlace_57 (by decide) ?_
        have hno := bst_no (S := S) (xs := xs) (P := P) (k := k2) (fun z => by unfold hld at z; rw [bI_0 c21] at z; exact Bool.false_ne_true z.2)
        exact v_j (ih hlt _ (nI_1 k2)) (by rw [hno]; rfl) rfl rfl
      · refine v_aload_n K dX8_ruleAtPlace_24 rfl ?_
        refine v_iload_n K dX8_ruleAtPlace_25 rfl ?_
        refine v_iload_n K dX8_ruleAtPlace_26 rfl ?_
        refine v_callVi K [0, 1, 2] (c_X8_holds (XI X) (XB X) _ _ _ _ _ _ _ _ _ _ _ _ S _ _ _ _ ?hc27_0_3 ?hc27_1_3 ?hc27_2_3) rfl gX8_ruleAtPlace_X8_holds rfl rfl hd_X8_holds ⟨rfl, rfl⟩ ⟨by decide, by decide⟩ 0 rfl hasF_c rfl (by decide) (Nat.le_of_ble_eq_true rfl) ⟨Nat.zero_le _, Nat.zero_le _⟩ rfl dX8_ruleAtPlace_27 ?_
        case hc27_0_3 => exact hA
        case hc27_1_3 => exact hlt
        case hc27_2_3 => exact hP
        refine v_if_eq K 54 dX8_ruleAtPlace_30 (by decide) (fun c30 => ?_) (fun c30 => ?_)
        · refine v_iinc K dX8_ruleAtPlace_54 rfl (by decide) iinc_1 ?_
          refine v_goto K 5 dX8_ruleAtPlace_57 (by decide) ?_
          have hno := bst_no (S := S) (xs := xs) (P := P) (k := k2) (fun z => by unfold hld at z; rw [bI_0 c30, Bool.and_false] at z; exact Bool.false_ne_true z.2)
          exact v_j (ih hlt _ (nI_1 k2)) (by rw [hno]; rfl) rfl rfl
        · have hhd : hld S xs k2 P = true := by unfold hld; rw [bI_1 c21, bI_1 c30] <;> rfl
          refine v_iload_n K dX8_ruleAtPlace_33 rfl ?_
          refine v_bipush K (-5) dX8_ruleAtPlace_34 (by decide) ?_
          refine v_ic_eq K 52 dX8_ruleAtPlace_36 (by decide) (fun c36 => ?_) (fun c36 => ?_)
          · have hb2 : (bst S xs P k2).2 = 0 := ((bst_rk S xs P k2).resolve_right (fun ⟨J, hJ, hbJ⟩ => by rw [hbJ] at c36; exact absurd c36 (fun z => by rw [i_eq, i_n (by omega)] at z; have h5 : (-5 : Int32).toInt = -5 := (by decide); rw [h5] at z; omega))).2
            refine v_iload_n K dX8_ruleAtPlace_52 rfl ?_
            refine v_istore_n K dX8_ruleAtPlace_53 (by decide) ?_
            refine v_iinc K dX8_ruleAtPlace_54 rfl (by decide) iinc_1 ?_
            refine v_goto K 5 dX8_ruleAtPlace_57 (by decide) ?_
            have hye := bst_yes (S := S) (xs := xs) (P := P) (k := k2) (by rw [hb2]; exact rk_pos hA.1 hlt) hhd
            exact v_j (ih hlt _ (nI_1 k2)) (by rw [hye]; rfl) rfl rfl
          · obtain ⟨J, hJ, hbJ⟩ := (bst_rk S xs P k2).resolve_left (fun z => c36 z.1)
            have hb1 : (bst S xs P k2).1 = nI J := by rw [hbJ]
            have hb2 : (bst S xs P k2).2 = rk S J := by rw [hbJ]
            rw [hb1]
            refine v_aload_n K dX8_ruleAtPlace_39 rfl ?_
            refine v_iload_n K dX8_ruleAtPlace_40 rfl ?_
            refine v_callVi K [0, 1] (c_X8_weight (XI X) (XB X) _ _ _ _ _ _ _ _ _ _ _ _ _ S _ _ ?hc41_0_4 ?hc41_1_4) rfl gX8_ruleAtPlace_X8_weight rfl rfl hd_X8_weight ⟨rfl, rfl⟩ ⟨by decide, by decide⟩ 0 rfl hasF_c rfl (by decide) (Nat.le_of_ble_eq_true rfl) ⟨Nat.zero_le _, Nat.zero_le _⟩ rfl dX8_ruleAtPlace_41 ?_
            case hc41_0_4 => exact hA
            case hc41_1_4 => exact hlt
            refine v_aload_n K dX8_ruleAtPlace_44 rfl ?_
            refine v_iload_n K dX8_ruleAtPlace_45 rfl ?_
            refine v_callVi K [0, 1] (c_X8_weight (XI X) (XB X) _ _ _ _ _ _ _ _ _ _ _ _ _ S _ _ ?hc46_0_5 ?hc46_1_5) rfl gX8_ruleAtPlace_X8_weight rfl rfl hd_X8_weight ⟨rfl, rfl⟩ ⟨by decide, by decide⟩ 0 rfl hasF_c rfl (by decide) (Nat.le_of_ble_eq_true rfl) ⟨Nat.zero_le _, Nat.zero_le _⟩ rfl dX8_ruleAtPlace_46 ?_
            case hc46_0_5 => exact hA
            case hc46_1_5 => omega
            refine v_ic_le K 54 dX8_ruleAtPlace_49 (by decide) (fun c49 => ?_) (fun c49 => ?_)
            · refine v_iinc K dX8_ruleAtPlace_54 rfl (by decide) iinc_1 ?_
              refine v_goto K 5 dX8_ruleAtPlace_57 (by decide) ?_
              have hno := bst_no (S := S) (xs := xs) (P := P) (k := k2) (fun z => by rw [hb2] at z; exact Int32.not_lt.mpr c49 z.1)
              exact v_j (ih hlt _ (nI_1 k2)) (by rw [hno, hb1]; rfl) rfl rfl
            · refine v_iload_n K dX8_ruleAtPlace_52 rfl ?_
              refine v_istore_n K dX8_ruleAtPlace_53 (by decide) ?_
              refine v_iinc K dX8_ruleAtPlace_54 rfl (by decide) iinc_1 ?_
              refine v_goto K 5 dX8_ruleAtPlace_57 (by decide) ?_
              have hye := bst_yes (S := S) (xs := xs) (P := P) (k := k2) (by rw [hb2]; exact Int32.not_le.mp c49) hhd
              exact v_j (ih hlt _ (nI_1 k2)) (by rw [hye]; rfl) rfl rfl
  refine v_bipush K (-5) dX8_ruleAtPlace_0 (by decide) ?_
  refine v_istore_n K dX8_ruleAtPlace_2 (by decide) ?_
  refine v_iconst K (0) dX8_ruleAtPlace_3 (by decide) ?_
  refine v_istore_n K dX8_ruleAtPlace_4 (by decide) ?_
  exact v_j (lp 0 (Nat.zero_le _) 0 rfl) rfl rfl rfl

theorem hd_X8_lays : yX8_lays.cls = RX8 ∧ yX8_lays.cls ≠ "java/lang/invoke/MethodHandle" ∧ yX8_lays.cls ≠ "java/lang/invoke/VarHandle" ∧ (parseMethodDescriptor yX8_lays.desc).map (fun d => d.parameters.length) = some 1 := by decide +kernel
set_option maxHeartbeats 4000000 in
set_option maxRecDepth 100000 in
theorem c_X8_lays (cI cB : ClassId) (m : Nat → Nat) (hl it sz sl ut ol tl sp tw tm mm rl : Int32) (S : Bk) (f : Nat → Int32) (xs : List Int32) (I : Nat) (hA : allR S f) (hI : I < S.2.2.2.2.1.length) : Ct cI cB yX8_lays wsX8_lays { frames := 1, cells := 0, slots := 0, locals := 20 } [.ref (m 0), .int (nI I)] [moM m hl it sz sl ut ol tl sp tw tm mm rl, arF cI (m 1) 570 f, arL cI (m 5) 12 xs] (dn [moM m hl it (nI (nthW S I).length) sl ut ol tl sp tw tm mm rl, arF cI (m 1) 570 f, arL cI (m 5) 12 (nthW S I)]) := by
  refine ct_of (cc := cX8_lays) (maxL := 3) (ret := none) (by decide) rfl (Nat.le_of_ble_eq_true rfl) [(0, .ref (m 0)), (1, .int (nI I))] rfl ?_
  intro X hI hB K E
  subst hI
  subst hB
  have iX8 : ∀ w ∈ u_ws RX8 TX8 28, w ∈ wsX8_lays := by decide +kernel
  have hAw := hA.2.2.2.2.2 I hI
  have hww := hA.1.2.2.2.2.2.2.2.2 I hI
  have h20 := hA.1.2.2.2.2.1
  refine v_aload_n K dX8_lays_0 rfl ?_
  refine v_aload_n K dX8_lays_1 rfl ?_
  refine v_get K 0 rfl hasF_c rfl iX8 0 (by decide) rfl (by decide +kernel) rfl dX8_lays_2 ?_
  refine v_iload_n K dX8_lays_5 rfl ?_
  refine v_callSi K [] (c_X8_wordAt (XI X) (XB X) _ ) rfl gX8_lays_X8_wordAt rfl rfl hd_X8_wordAt ⟨rfl, rfl⟩ ⟨by decide, by decide⟩ (by decide) (Nat.le_of_ble_eq_true rfl) ⟨Nat.zero_le _, Nat.zero_le _⟩ rfl dX8_lays_6 ?_
  refine v_iconst K (1) dX8_lays_9 (by decide) ?_
  refine v_iadd K dX8_lays_10 ?_
  refine v_fald K 1 rfl (290 + 14 * I + 1) ?hx11_2 ?ix11_2 dX8_lays_11 ?_
  case hx11_2 => exact nI_1 _
  case ix11_2 => exact ⟨by omega, by decide⟩
  rw [hAw.2.1]
  refine v_put K 0 rfl rfl iX8 tyX8 tyX8_ok nmX8 7 (by decide) rfl (by decide +kernel) rfl rfl (Nat.le_of_ble_eq_true rfl) dX8_lays_12 ?_
  refine v_iconst K (0) dX8_lays_15 (by decide) ?_
  refine v_istore_n K dX8_lays_16 (by decide) ?_
  refine v_ltk 2 0 rfl ?_
  rw [List.take_zero]
  have lp : ∀ k2, k2 ≤ (nthW S I).length → ∀ (x : Int32), x = nI k2 → V X 0 0 17 [(0, .ref (m 0)), (1, .int (nI I)), (2, .int x)] [] [moM m hl it (nI (nthW S I).length) sl ut ol tl sp tw tm mm rl, arF (XI X) (m 1) 570 f, arL (XI X) (m 5) 12 ((nthW S I).take k2)] := by
    refine loop_up (nthW S I).length ?_
    intro k2 hk ih x hx
    subst hx
    refine v_iload_n K dX8_lays_17 rfl ?_
    refine v_aload_n K dX8_lays_18 rfl ?_
    refine v_get K 0 rfl hasF_c rfl iX8 7 (by decide) rfl (by decide +kernel) rfl dX8_lays_19 ?_
    refine v_ic_ge K 50 dX8_lays_22 (by decide) (fun c22 => ?_) (fun c22 => ?_)
    · refine v_ret K E dX8_lays_50 ?_ rfl
      exact ⟨rfl, by rw [up_end rfl (by omega) hk c22, List.take_length] <;> rfl⟩
    · have hlt := up_lt rfl (by omega) hk c22
      refine v_aload_n K dX8_lays_25 rfl ?_
      refine v_get K 0 rfl hasF_c rfl iX8 6 (by decide) rfl (by decide +kernel) rfl dX8_lays_26 ?_
      refine v_iload_n K dX8_lays_29 rfl ?_
      refine v_aload_n K dX8_lays_30 rfl ?_
      refine v_get K 0 rfl hasF_c rfl iX8 0 (by decide) rfl (by decide +kernel) rfl dX8_lays_31 ?_
      refine v_iload_n K dX8_lays_34 rfl ?_
      refine v_callSi K [] (c_X8_wordAt (XI X) (XB X) _ ) rfl gX8_lays_X8_wordAt rfl rfl hd_X8_wordAt ⟨rfl, rfl⟩ ⟨by decide, by decide⟩ (by decide) (Nat.le_of_ble_eq_true rfl) ⟨Nat.zero_le _, Nat.zero_le _⟩ rfl dX8_lays_35 ?_
      refine v_iconst K (2) dX8_lays_38 (by decide) ?_
      refine v_iadd K dX8_lays_39 ?_
      refine v_iload_n K dX8_lays_40 rfl ?_
      refine v_iadd K dX8_lays_41 ?_
      refine v_fald K 1 rfl (290 + 14 * I + 2 + k2) ?hx42_4 ?ix42_4 dX8_lays_42 ?_
      case hx42_4 => rw [show nI (290 + 14 * I) + 2 = nI (290 + 14 * I + 2) from nI_add _ 2, nI_add]
      case ix42_4 => exact ⟨by omega, by decide⟩
      rw [hAw.2.2 k2 hlt]
      refine v_last K 2 rfl ?hx43_5 ?ix43_5 dX8_lays_43 ?_
      case hx43_5 => rw [List.length_take, Nat.min_eq_left (by omega)]
      case ix43_5 => rw [List.length_take]; omega
      refine v_iinc K dX8_lays_44 rfl (by decide) iinc_1 ?_
      refine v_goto K 17 dX8_lays_47 (by decide) ?_
      exact v_j (ih hlt _ (nI_1 k2)) rfl rfl (by rw [gd_in hlt, ← List.take_succ_eq_append_getElem hlt] <;> rfl)
  exact v_j (lp 0 (Nat.zero_le _) 0 rfl) rfl rfl rfl
