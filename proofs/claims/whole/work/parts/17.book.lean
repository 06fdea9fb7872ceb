theorem hd_X0_rules : yX0_rules.cls = RX0 ∧ yX0_rules.cls ≠ "java/lang/invoke/MethodHandle" ∧ yX0_rules.cls ≠ "java/lang/invoke/VarHandle" ∧ (parseMethodDescriptor yX0_rules.desc).map (fun d => d.parameters.length) = some 0 := by decide +kernel
set_option maxHeartbeats 4000000 in
set_option maxRecDepth 100000 in
theorem c_X0_rules (cI cB : ClassId) (A : Nat → Nat) (nr nw : Nat) (S : Bk)  : Ct cI cB yX0_rules wsX0_rules { frames := 2, cells := 0, slots := 0, locals := 40 } [.ref (A 0)] [bookM cI A nr nw S] (dv (nI S.1.length) [bookM cI A nr nw S]) := by
  refine ct_of (cc := cX0_rules) (maxL := 1) (ret := (some .int)) (by decide) rfl (Nat.le_of_ble_eq_true rfl) [(0, .ref (A 0))] rfl ?_
  intro X hI hB K E
  subst hI
  subst hB
  have iX0 : ∀ w ∈ u_ws RX0 TX0 6, w ∈ wsX0_rules := by decide +kernel
  refine v_obook 0 rfl ?_
  refine v_aload_n K dX0_rules_0 rfl ?_
  refine v_get K 0 rfl hasF_c rfl iX0 0 (by decide) rfl (by decide +kernel) rfl dX0_rules_1 ?_
  refine v_callVi K [1] (c_X4_lines (XI X) (XB X) _ _ _ _ _ _ _ _ ) rfl gX0_rules_X4_lines rfl rfl hd_X4_lines ⟨rfl, rfl⟩ ⟨by decide, by decide⟩ 1 rfl rowsF rfl (by decide) (Nat.le_of_ble_eq_true rfl) ⟨Nat.zero_le _, Nat.zero_le _⟩ rfl dX0_rules_4 ?_
  refine v_cbook 0 rfl ?_
  refine v_iret K E dX0_rules_7 ?_ rfl
  exact ⟨rfl, rfl⟩

theorem hd_X0_words : yX0_words.cls = RX0 ∧ yX0_words.cls ≠ "java/lang/invoke/MethodHandle" ∧ yX0_words.cls ≠ "java/lang/invoke/VarHandle" ∧ (parseMethodDescriptor yX0_words.desc).map (fun d => d.parameters.length) = some 0 := by decide +kernel
set_option maxHeartbeats 4000000 in
set_option maxRecDepth 100000 in
theorem c_X0_words (cI cB : ClassId) (A : Nat → Nat) (nr nw : Nat) (S : Bk)  : Ct cI cB yX0_words wsX0_words { frames := 2, cells := 0, slots := 0, locals := 40 } [.ref (A 0)] [bookM cI A nr nw S] (dv (nI S.2.2.2.2.1.length) [bookM cI A nr nw S]) := by
  refine ct_of (cc := cX0_words) (maxL := 1) (ret := (some .int)) (by decide) rfl (Nat.le_of_ble_eq_true rfl) [(0, .ref (A 0))] rfl ?_
  intro X hI hB K E
  subst hI
  subst hB
  have iX0 : ∀ w ∈ u_ws RX0 TX0 6, w ∈ wsX0_words := by decide +kernel
  refine v_obook 0 rfl ?_
  refine v_aload_n K dX0_words_0 rfl ?_
  refine v_get K 0 rfl hasF_c rfl iX0 4 (by decide) rfl (by decide +kernel) rfl dX0_words_1 ?_
  refine v_callVi K [5] (c_X4_lines (XI X) (XB X) _ _ _ _ _ _ _ _ ) rfl gX0_words_X4_lines rfl rfl hd_X4_lines ⟨rfl, rfl⟩ ⟨by decide, by decide⟩ 5 rfl rowsF rfl (by decide) (Nat.le_of_ble_eq_true rfl) ⟨Nat.zero_le _, Nat.zero_le _⟩ rfl dX0_words_4 ?_
  refine v_cbook 0 rfl ?_
  refine v_iret K E dX0_words_7 ?_ rfl
  exact ⟨rfl, rfl⟩

theorem hd_X0_hasRule : yX0_hasRule.cls = RX0 ∧ yX0_hasRule.cls ≠ "java/lang/invoke/MethodHandle" ∧ yX0_hasRule.cls ≠ "java/lang/invoke/VarHandle" ∧ (parseMethodDescriptor yX0_hasRule.desc).map (fun d => d.parameters.length) = some 1 := by decide +kernel
set_option maxHeartbeats 4000000 in
set_option maxRecDepth 100000 in
theorem c_X0_hasRule (cI cB : ClassId) (A : Nat → Nat) (nr nw : Nat) (S : Bk) (i : Int32)  : Ct cI cB yX0_hasRule wsX0_hasRule { frames := 2, cells := 0, slots := 0, locals := 41 } [.ref (A 0), .int i] [bookM cI A nr nw S] (dv (bI (hasL S.1 i)) [bookM cI A nr nw S]) := by
  refine ct_of (cc := cX0_hasRule) (maxL := 2) (ret := (some .boolean)) (by decide) rfl (Nat.le_of_ble_eq_true rfl) [(0, .ref (A 0)), (1, .int i)] rfl ?_
  intro X hI hB K E
  subst hI
  subst hB
  have iX0 : ∀ w ∈ u_ws RX0 TX0 6, w ∈ wsX0_hasRule := by decide +kernel
  refine v_obook 0 rfl ?_
  refine v_aload_n K dX0_hasRule_0 rfl ?_
  refine v_get K 0 rfl hasF_c rfl iX0 0 (by decide) rfl (by decide +kernel) rfl dX0_hasRule_1 ?_
  refine v_iload_n K dX0_hasRule_4 rfl ?_
  refine v_callVi K [1] (c_X4_has (XI X) (XB X) _ _ _ _ _ _ _ _ _ ) rfl gX0_hasRule_X4_has rfl rfl hd_X4_has ⟨rfl, rfl⟩ ⟨by decide, by decide⟩ 1 rfl rowsF rfl (by decide) (Nat.le_of_ble_eq_true rfl) ⟨Nat.zero_le _, Nat.zero_le _⟩ rfl dX0_hasRule_5 ?_
  refine v_cbook 0 rfl ?_
  refine v_zret K E dX0_hasRule_8 (by first | exact Or.inl rfl | exact Or.inr rfl | exact bI_01 _) ?_ rfl
  exact ⟨rfl, rfl⟩

theorem hd_X0_hasWord : yX0_hasWord.cls = RX0 ∧ yX0_hasWord.cls ≠ "java/lang/invoke/MethodHandle" ∧ yX0_hasWord.cls ≠ "java/lang/invoke/VarHandle" ∧ (parseMethodDescriptor yX0_hasWord.desc).map (fun d => d.parameters.length) = some 1 := by decide +kernel
set_option maxHeartbeats 4000000 in
set_option maxRecDepth 100000 in
theorem c_X0_hasWord (cI cB : ClassId) (A : Nat → Nat) (nr nw : Nat) (S : Bk) (i : Int32)  : Ct cI cB yX0_hasWord wsX0_hasWord { frames := 2, cells := 0, slots := 0, locals := 41 } [.ref (A 0), .int i] [bookM cI A nr nw S] (dv (bI (hasL S.2.2.2.2.1 i)) [bookM cI A nr nw S]) := by
  refine ct_of (cc := cX0_hasWord) (maxL := 2) (ret := (some .boolean)) (by decide) rfl (Nat.le_of_ble_eq_true rfl) [(0, .ref (A 0)), (1, .int i)] rfl ?_
  intro X hI hB K E
  subst hI
  subst hB
  have iX0 : ∀ w ∈ u_ws RX0 TX0 6, w ∈ wsX0_hasWord := by decide +kernel
  refine v_obook 0 rfl ?_
  refine v_aload_n K dX0_hasWord_0 rfl ?_
  refine v_get K 0 rfl hasF_c rfl iX0 4 (by decide) rfl (by decide +kernel) rfl dX0_hasWord_1 ?_
  refine v_iload_n K dX0_hasWord_4 rfl ?_
  refine v_callVi K [5] (c_X4_has (XI X) (XB X) _ _ _ _ _ _ _ _ _ ) rfl gX0_hasWord_X4_has rfl rfl hd_X4_has ⟨rfl, rfl⟩ ⟨by decide, by decide⟩ 5 rfl rowsF rfl (by decide) (Nat.le_of_ble_eq_true rfl) ⟨Nat.zero_le _, Nat.zero_le _⟩ rfl dX0_hasWord_5 ?_
  refine v_cbook 0 rfl ?_
  refine v_zret K E dX0_hasWord_8 (by first | exact Or.inl rfl | exact Or.inr rfl | exact bI_01 _) ?_ rfl
  exact ⟨rfl, rfl⟩

theorem hd_X0_copyFrom : yX0_copyFrom.cls = RX0 ∧ yX0_copyFrom.cls ≠ "java/lang/invoke/MethodHandle" ∧ yX0_copyFrom.cls ≠ "java/lang/invoke/VarHandle" ∧ (parseMethodDescriptor yX0_copyFrom.desc).map (fun d => d.parameters.length) = some 1 := by decide +kernel
set_option maxHeartbeats 4000000 in
set_option maxRecDepth 100000 in
theorem c_X0_copyFrom (cI cB : ClassId) (A : Nat → Nat) (nr nw : Nat) (S : Bk) (A2 : Nat → Nat) (nr2 nw2 : Nat) (S2 : Bk)  : Ct cI cB yX0_copyFrom wsX0_copyFrom { frames := 4, cells := 0, slots := 0, locals := 86 } [.ref (A 0), .ref (A2 0)] [bookM cI A nr nw S, bookM cI A2 nr2 nw2 S2] (dn [bookM cI A nr nw (cpB nr nw S2), bookM cI A2 nr2 nw2 S2]) := by
  refine ct_of (cc := cX0_copyFrom) (maxL := 2) (ret := none) (by decide) rfl (Nat.le_of_ble_eq_true rfl) [(0, .ref (A 0)), (1, .ref (A2 0))] rfl ?_
  intro X hI hB K E
  subst hI
  subst hB
  have iX0 : ∀ w ∈ u_ws RX0 TX0 6, w ∈ wsX0_copyFrom := by decide +kernel
  refine v_obook 0 rfl ?_
  refine v_obook 7 rfl ?_
  refine v_aload_n K dX0_copyFrom_0 rfl ?_
  refine v_get K 0 rfl hasF_c rfl iX0 0 (by decide) rfl (by decide +kernel) rfl dX0_copyFrom_1 ?_
  refine v_aload_n K dX0_copyFrom_4 rfl ?_
  refine v_get K 7 rfl hasF_c rfl iX0 0 (by decide) rfl (by decide +kernel) rfl dX0_copyFrom_5 ?_
  refine v_callVv K [1, 8] (c_X4_copyFrom (XI X) (XB X) _ _ _ _ _ _ _ _ _ _ _ _ _ _ _ ) rfl gX0_copyFrom_X4_copyFrom rfl rfl hd_X4_copyFrom ⟨rfl, rfl⟩ ⟨by decide, by decide⟩ 1 rfl rowsF rfl (by decide) (Nat.le_of_ble_eq_true rfl) ⟨Nat.zero_le _, Nat.zero_le _⟩ rfl dX0_copyFrom_8 ?_
  refine v_aload_n K dX0_copyFrom_11 rfl ?_
  refine v_get K 0 rfl hasF_c rfl iX0 1 (by decide) rfl (by decide +kernel) rfl dX0_copyFrom_12 ?_
  refine v_aload_n K dX0_copyFrom_15 rfl ?_
  refine v_get K 7 rfl hasF_c rfl iX0 1 (by decide) rfl (by decide +kernel) rfl dX0_copyFrom_16 ?_
  refine v_callVv K [2, 9] (c_X3_copyFrom (XI X) (XB X) _ _ _ _ _ _ _ _ ) rfl gX0_copyFrom_X3_copyFrom rfl rfl hd_X3_copyFrom ⟨rfl, rfl⟩ ⟨by decide, by decide⟩ 2 rfl rowF rfl (by decide) (Nat.le_of_ble_eq_true rfl) ⟨Nat.zero_le _, Nat.zero_le _⟩ rfl dX0_copyFrom_19 ?_
  refine v_aload_n K dX0_copyFrom_22 rfl ?_
  refine v_get K 0 rfl hasF_c rfl iX0 2 (by decide) rfl (by decide +kernel) rfl dX0_copyFrom_23 ?_
  refine v_aload_n K dX0_copyFrom_26 rfl ?_
  refine v_get K 7 rfl hasF_c rfl iX0 2 (by decide) rfl (by decide +kernel) rfl dX0_copyFrom_27 ?_
  refine v_callVv K [3, 10] (c_X3_copyFrom (XI X) (XB X) _ _ _ _ _ _ _ _ ) rfl gX0_copyFrom_X3_copyFrom rfl rfl hd_X3_copyFrom ⟨rfl, rfl⟩ ⟨by decide, by decide⟩ 3 rfl rowF rfl (by decide) (Nat.le_of_ble_eq_true rfl) ⟨Nat.zero_le _, Nat.zero_le _⟩ rfl dX0_copyFrom_30 ?_
  refine v_aload_n K dX0_copyFrom_33 rfl ?_
  refine v_get K 0 rfl hasF_c rfl iX0 3 (by decide) rfl (by decide +kernel) rfl dX0_copyFrom_34 ?_
  refine v_aload_n K dX0_copyFrom_37 rfl ?_
  refine v_get K 7 rfl hasF_c rfl iX0 3 (by decide) rfl (by decide +kernel) rfl dX0_copyFrom_38 ?_
  refine v_callVv K [4, 11] (c_X4_copyFrom (XI X) (XB X) _ _ _ _ _ _ _ _ _ _ _ _ _ _ _ ) rfl gX0_copyFrom_X4_copyFrom rfl rfl hd_X4_copyFrom ⟨rfl, rfl⟩ ⟨by decide, by decide⟩ 4 rfl rowsF rfl (by decide) (Nat.le_of_ble_eq_true rfl) ⟨Nat.zero_le _, Nat.zero_le _⟩ rfl dX0_copyFrom_41 ?_
  refine v_aload_n K dX0_copyFrom_44 rfl ?_
  refine v_get K 0 rfl hasF_c rfl iX0 4 (by decide) rfl (by decide +kernel) rfl dX0_copyFrom_45 ?_
  refine v_aload_n K dX0_copyFrom_48 rfl ?_
  refine v_get K 7 rfl hasF_c rfl iX0 4 (by decide) rfl (by decide +kernel) rfl dX0_copyFrom_49 ?_
  refine v_callVv K [5, 12] (c_X4_copyFrom (XI X) (XB X) _ _ _ _ _ _ _ _ _ _ _ _ _ _ _ ) rfl gX0_copyFrom_X4_copyFrom rfl rfl hd_X4_copyFrom ⟨rfl, rfl⟩ ⟨by decide, by decide⟩ 5 rfl rowsF rfl (by decide) (Nat.le_of_ble_eq_true rfl) ⟨Nat.zero_le _, Nat.zero_le _⟩ rfl dX0_copyFrom_52 ?_
  refine v_aload_n K dX0_copyFrom_55 rfl ?_
  refine v_get K 0 rfl hasF_c rfl iX0 5 (by decide) rfl (by decide +kernel) rfl dX0_copyFrom_56 ?_
  refine v_aload_n K dX0_copyFrom_59 rfl ?_
  refine v_get K 7 rfl hasF_c rfl iX0 5 (by decide) rfl (by decide +kernel) rfl dX0_copyFrom_60 ?_
  refine v_callVv K [6, 13] (c_X3_copyFrom (XI X) (XB X) _ _ _ _ _ _ _ _ ) rfl gX0_copyFrom_X3_copyFrom rfl rfl hd_X3_copyFrom ⟨rfl, rfl⟩ ⟨by decide, by decide⟩ 6 rfl rowF rfl (by decide) (Nat.le_of_ble_eq_true rfl) ⟨Nat.zero_le _, Nat.zero_le _⟩ rfl dX0_copyFrom_63 ?_
  rw [ad_all, ad_all, ad_all]
  refine v_cbook 0 rfl ?_
  refine v_cbook 1 rfl ?_
  refine v_ret K E dX0_copyFrom_66 ?_ rfl
  exact ⟨rfl, rfl⟩

theorem hd_X0_addRule : yX0_addRule.cls = RX0 ∧ yX0_addRule.cls ≠ "java/lang/invoke/MethodHandle" ∧ yX0_addRule.cls ≠ "java/lang/invoke/VarHandle" ∧ (parseMethodDescriptor yX0_addRule.desc).map (fun d => d.parameters.length) = some 1 := by decide +kernel
set_option maxHeartbeats 4000000 in
set_option maxRecDepth 100000 in
theorem c_X0_addRule (cI cB : ClassId) (A : Nat → Nat) (nr nw : Nat) (S : Bk) (rd lt tx la : Nat) (p e s d k : Int32) (xs : List Int32)  : Ct cI cB yX0_addRule wsX0_addRule { frames := 4, cells := 0, slots := 0, locals := 86 } [.ref (A 0), .ref rd] [bookM cI A nr nw S, rdM rd lt tx p e s d k, rowM cI lt la 25 xs] (dv (bI (!hasRl S.1 S.2.2.1 xs d)) [bookM cI A nr nw (addRule nr S xs s d), rdM rd lt tx p e s d k, rowM cI lt la 25 xs]) := by
  refine ct_of (cc := cX0_addRule) (maxL := 3) (ret := (some .boolean)) (by decide) rfl (Nat.le_of_ble_eq_true rfl) [(0, .ref (A 0)), (1, .ref rd)] rfl ?_
  intro X hI hB K E
  subst hI
  subst hB
  have iX0 : ∀ w ∈ u_ws RX0 TX0 6, w ∈ wsX0_addRule := by decide +kernel
  have iX2 : ∀ w ∈ u_ws RX2 TX2 7, w ∈ wsX0_addRule := by decide +kernel
  refine v_obook 0 rfl ?_
  refine v_rowsrl 1 rfl (fun hE => ?_)
  obtain ⟨C0, hC0⟩ := hE
  have hN := rl_N hC0
  have lp : ∀ k2, k2 ≤ S.1.length → ∀ (x : Int32), x = nI k2 → (∀ j, j < k2 → ¬ (S.2.2.1.getD j (-5) = d ∧ S.1.getD j [] = xs)) → V X 0 0 2 [(0, .ref (A 0)), (1, .ref rd), (2, .int x)] [] [cM (A 0) (.inr (0, [.ref (A 1), .ref (A 6), .ref (A 8), .ref (A 10), .ref (A 15), .ref (A 20)])), rowsM (XI X) (A 1) (A 2) (A 3) (A 4) (A 5) nr 4 S.1, rowM (XI X) (A 6) (A 7) nr S.2.1, rowM (XI X) (A 8) (A 9) nr S.2.2.1, rowsM (XI X) (A 10) (A 11) (A 12) (A 13) (A 14) 26 2 S.2.2.2.1, rowsM (XI X) (A 15) (A 16) (A 17) (A 18) (A 19) nw 12 S.2.2.2.2.1, rowM (XI X) (A 20) (A 21) nw S.2.2.2.2.2, rdM rd lt tx p e s d k, rowM (XI X) lt la 25 xs] := by
    refine loop_up S.1.length ?_
    intro k2 hk ih x hx hp
    subst hx
    refine v_iload_n K dX0_addRule_2 rfl ?_
    refine v_aload_n K dX0_addRule_3 rfl ?_
    refine v_cbook 0 rfl ?_
    refine v_callVi K [0] (c_X0_rules (XI X) (XB X) _ _ _ _ ) rfl gX0_addRule_X0_rules rfl rfl hd_X0_rules ⟨rfl, rfl⟩ ⟨by decide, by decide⟩ 0 rfl bookF rfl (by decide) (Nat.le_of_ble_eq_true rfl) ⟨Nat.zero_le _, Nat.zero_le _⟩ rfl dX0_addRule_4 ?_
    refine v_obook 0 rfl ?_
    refine v_ic_ge K 48 dX0_addRule_7 (by decide) (fun c7 => ?_) (fun c7 => ?_)
    · have hh := hasRl_f (fun j hj => hp j (by rw [up_end rfl hN hk c7]; exact hj))
      refine v_aload_n K dX0_addRule_48 rfl ?_
      refine v_get K 0 rfl hasF_c rfl iX0 0 (by decide) rfl (by decide +kernel) rfl dX0_addRule_49 ?_
      refine v_aload_n K dX0_addRule_52 rfl ?_
      refine v_get K 7 rfl rdF rfl iX2 0 (by decide) rfl (by decide +kernel) rfl dX0_addRule_53 ?_
      refine v_callVv K [1, 8] (c_X4_add (XI X) (XB X) _ _ _ _ _ _ _ _ _ _ _ _ ) rfl gX0_addRule_X4_add rfl rfl hd_X4_add ⟨rfl, rfl⟩ ⟨by decide, by decide⟩ 1 rfl rowsF rfl (by decide) (Nat.le_of_ble_eq_true rfl) ⟨Nat.zero_le _, Nat.zero_le _⟩ rfl dX0_addRule_56 ?_
      refine v_aload_n K dX0_addRule_59 rfl ?_
      refine v_get K 0 rfl hasF_c rfl iX0 1 (by decide) rfl (by decide +kernel) rfl dX0_addRule_60 ?_
      refine v_aload_n K dX0_addRule_63 rfl ?_
      refine v_get K 7 rfl rdF rfl iX2 4 (by decide) rfl (by decide +kernel) rfl dX0_addRule_64 ?_
      refine v_callVv K [2] (c_X3_add (XI X) (XB X) _ _ _ _ _ ) rfl gX0_addRule_X3_add rfl rfl hd_X3_add ⟨rfl, rfl⟩ ⟨by decide, by decide⟩ 2 rfl rowF rfl (by decide) (Nat.le_of_ble_eq_true rfl) ⟨Nat.zero_le _, Nat.zero_le _⟩ rfl dX0_addRule_67 ?_
      refine v_aload_n K dX0_addRule_70 rfl ?_
      refine v_get K 0 rfl hasF_c rfl iX0 2 (by decide) rfl (by decide +kernel) rfl dX0_addRule_71 ?_
      refine v_aload_n K dX0_addRule_74 rfl ?_
      refine v_get K 7 rfl rdF rfl iX2 5 (by decide) rfl (by decide +kernel) rfl dX0_addRule_75 ?_
      refine v_callVv K [3] (c_X3_add (XI X) (XB X) _ _ _ _ _ ) rfl gX0_addRule_X3_add rfl rfl hd_X3_add ⟨rfl, rfl⟩ ⟨by decide, by decide⟩ 3 rfl rowF rfl (by decide) (Nat.le_of_ble_eq_true rfl) ⟨Nat.zero_le _, Nat.zero_le _⟩ rfl dX0_addRule_78 ?_
      refine v_iconst K (1) dX0_addRule_81 (by decide) ?_
      refine v_cbook 0 rfl ?_
      refine v_zret K E dX0_addRule_82 (by first | exact Or.inl rfl | exact Or.inr rfl | exact bI_01 _) ?_ rfl
      exact ⟨by rw [hh] <;> rfl, by unfold addRule; rw [if_neg (by rw [hh]; exact Bool.false_ne_true)] <;> rfl⟩
    · have hlt := up_lt rfl hN hk c7
      refine v_aload_n K dX0_addRule_10 rfl ?_
      refine v_get K 0 rfl hasF_c rfl iX0 2 (by decide) rfl (by decide +kernel) rfl dX0_addRule_11 ?_
      refine v_iload_n K dX0_addRule_14 rfl ?_
      refine v_callVi K [3] (c_X3_get (XI X) (XB X) _ _ _ _ _ ) rfl gX0_addRule_X3_get rfl rfl hd_X3_get ⟨rfl, rfl⟩ ⟨by decide, by decide⟩ 3 rfl rowF rfl (by decide) (Nat.le_of_ble_eq_true rfl) ⟨Nat.zero_le _, Nat.zero_le _⟩ rfl dX0_addRule_15 ?_
      rw [gt_n (by omega)]
      refine v_aload_n K dX0_addRule_18 rfl ?_
      refine v_get K 7 rfl rdF rfl iX2 5 (by decide) rfl (by decide +kernel) rfl dX0_addRule_19 ?_
      refine v_ic_ne K 42 dX0_addRule_22 (by decide) (fun c22 => ?_) (fun c22 => ?_)
      · refine v_iinc K dX0_addRule_42 rfl (by decide) iinc_1 ?_
        refine v_goto K 2 dX0_addRule_45 (by decide) ?_
        exact v_j (ih hlt _ (nI_1 k2) (fun j hj => (Nat.lt_or_ge j k2).elim (hp j) (fun h => by rw [show j = k2 by omega]; exact fun z => c22 z.1))) rfl rfl rfl
      · refine v_aload_n K dX0_addRule_25 rfl ?_
        refine v_get K 0 rfl hasF_c rfl iX0 0 (by decide) rfl (by decide +kernel) rfl dX0_addRule_26 ?_
        refine v_iload_n K dX0_addRule_29 rfl ?_
        refine v_aload_n K dX0_addRule_30 rfl ?_
        refine v_get K 7 rfl rdF rfl iX2 0 (by decide) rfl (by decide +kernel) rfl dX0_addRule_31 ?_
        refine v_callVi K [1, 8] (c_X4_isLike (XI X) (XB X) _ _ _ _ _ _ _ _ _ _ _ _ _ ?hc34_0) rfl gX0_addRule_X4_isLike rfl rfl hd_X4_isLike ⟨rfl, rfl⟩ ⟨by decide, by decide⟩ 1 rfl rowsF rfl (by decide) (Nat.le_of_ble_eq_true rfl) ⟨Nat.zero_le _, Nat.zero_le _⟩ rfl dX0_addRule_34 ?_
        case hc34_0 => exact hlt
        refine v_if_eq K 42 dX0_addRule_37 (by decide) (fun c37 => ?_) (fun c37 => ?_)
        · refine v_iinc K dX0_addRule_42 rfl (by decide) iinc_1 ?_
          refine v_goto K 2 dX0_addRule_45 (by decide) ?_
          exact v_j (ih hlt _ (nI_1 k2) (fun j hj => (Nat.lt_or_ge j k2).elim (hp j) (fun h => by rw [show j = k2 by omega]; exact fun z => of_decide_eq_false (bI_0 c37) z.2))) rfl rfl rfl
        · refine v_iconst K (0) dX0_addRule_40 (by decide) ?_
          refine v_cbook 0 rfl ?_
          refine v_zret K E dX0_addRule_41 (by first | exact Or.inl rfl | exact Or.inr rfl | exact bI_01 _) ?_ rfl
          exact ⟨by rw [hasRl_t hlt c22 (of_decide_eq_true (bI_1 c37))] <;> rfl, by unfold addRule; rw [if_pos (hasRl_t hlt c22 (of_decide_eq_true (bI_1 c37)))] <;> rfl⟩
  refine v_iconst K (0) dX0_addRule_0 (by decide) ?_
  refine v_istore_n K dX0_addRule_1 (by decide) ?_
  exact v_j (lp 0 (Nat.zero_le _) 0 rfl (fun j hj => absurd hj (Nat.not_lt_zero j))) rfl rfl rfl

theorem hd_X0_addWord : yX0_addWord.cls = RX0 ∧ yX0_addWord.cls ≠ "java/lang/invoke/MethodHandle" ∧ yX0_addWord.cls ≠ "java/lang/invoke/VarHandle" ∧ (parseMethodDescriptor yX0_addWord.desc).map (fun d => d.parameters.length) = some 1 := by decide +kernel
set_option maxHeartbeats 4000000 in
set_option maxRecDepth 100000 in
theorem c_X0_addWord (cI cB : ClassId) (A : Nat → Nat) (nr nw : Nat) (S : Bk) (rd lt tx la : Nat) (p e s d k : Int32) (xs : List Int32)  : Ct cI cB yX0_addWord wsX0_addWord { frames := 4, cells := 0, slots := 0, locals := 89 } [.ref (A 0), .ref rd] [bookM cI A nr nw S, rdM rd lt tx p e s d k, rowM cI lt la 25 xs] (dv (bI (!hasWd S xs)) [bookM cI A nr nw (addWord nw S xs k), rdM rd lt tx p e s d k, rowM cI lt la 25 xs]) := by
  refine ct_of (cc := cX0_addWord) (maxL := 2) (ret := (some .boolean)) (by decide) rfl (Nat.le_of_ble_eq_true rfl) [(0, .ref (A 0)), (1, .ref rd)] rfl ?_
  intro X hI hB K E
  subst hI
  subst hB
  have iX0 : ∀ w ∈ u_ws RX0 TX0 6, w ∈ wsX0_addWord := by decide +kernel
  have iX2 : ∀ w ∈ u_ws RX2 TX2 7, w ∈ wsX0_addWord := by decide +kernel
  refine v_obook 0 rfl ?_
  refine v_rowsrl 5 rfl (fun hE => ?_)
  obtain ⟨C0, hC0⟩ := hE
  have hN := rl_N hC0
  refine v_aload_n K dX0_addWord_0 rfl ?_
  refine v_get K 0 rfl hasF_c rfl iX0 4 (by decide) rfl (by decide +kernel) rfl dX0_addWord_1 ?_
  refine v_aload_n K dX0_addWord_4 rfl ?_
  refine v_get K 7 rfl rdF rfl iX2 0 (by decide) rfl (by decide +kernel) rfl dX0_addWord_5 ?_
  refine v_callVi K [5, 8] (c_X4_find (XI X) (XB X) _ _ _ _ _ _ _ _ _ _ _ _ ) rfl gX0_addWord_X4_find rfl rfl hd_X4_find ⟨rfl, rfl⟩ ⟨by decide, by decide⟩ 5 rfl rowsF rfl (by decide) (Nat.le_of_ble_eq_true rfl) ⟨Nat.zero_le _, Nat.zero_le _⟩ rfl dX0_addWord_8 ?_
  refine v_bipush K (-5) dX0_addWord_11 (by decide) ?_
  refine v_ic_eq K 18 dX0_addWord_13 (by decide) (fun c13 => ?_) (fun c13 => ?_)
  · have hh := opI_none (fdo_lt0 hN) c13
    refine v_aload_n K dX0_addWord_18 rfl ?_
    refine v_get K 0 rfl hasF_c rfl iX0 4 (by decide) rfl (by decide +kernel) rfl dX0_addWord_19 ?_
    refine v_aload_n K dX0_addWord_22 rfl ?_
    refine v_get K 7 rfl rdF rfl iX2 0 (by decide) rfl (by decide +kernel) rfl dX0_addWord_23 ?_
    refine v_callVv K [5, 8] (c_X4_add (XI X) (XB X) _ _ _ _ _ _ _ _ _ _ _ _ ) rfl gX0_addWord_X4_add rfl rfl hd_X4_add ⟨rfl, rfl⟩ ⟨by decide, by decide⟩ 5 rfl rowsF rfl (by decide) (Nat.le_of_ble_eq_true rfl) ⟨Nat.zero_le _, Nat.zero_le _⟩ rfl dX0_addWord_26 ?_
    refine v_aload_n K dX0_addWord_29 rfl ?_
    refine v_get K 0 rfl hasF_c rfl iX0 5 (by decide) rfl (by decide +kernel) rfl dX0_addWord_30 ?_
    refine v_aload_n K dX0_addWord_33 rfl ?_
    refine v_get K 7 rfl rdF rfl iX2 6 (by decide) rfl (by decide +kernel) rfl dX0_addWord_34 ?_
    refine v_callVv K [6] (c_X3_add (XI X) (XB X) _ _ _ _ _ ) rfl gX0_addWord_X3_add rfl rfl hd_X3_add ⟨rfl, rfl⟩ ⟨by decide, by decide⟩ 6 rfl rowF rfl (by decide) (Nat.le_of_ble_eq_true rfl) ⟨Nat.zero_le _, Nat.zero_le _⟩ rfl dX0_addWord_37 ?_
    refine v_iconst K (1) dX0_addWord_40 (by decide) ?_
    refine v_cbook 0 rfl ?_
    refine v_zret K E dX0_addWord_41 (by first | exact Or.inl rfl | exact Or.inr rfl | exact bI_01 _) ?_ rfl
    exact ⟨by unfold hasWd; rw [hh] <;> rfl, by unfold addWord; rw [if_pos hh] <;> rfl⟩
  · refine v_iconst K (0) dX0_addWord_16 (by decide) ?_
    refine v_cbook 0 rfl ?_
    refine v_zret K E dX0_addWord_17 (by first | exact Or.inl rfl | exact Or.inr rfl | exact bI_01 _) ?_ rfl
    exact ⟨by rw [wd_t c13] <;> rfl, by unfold addWord; rw [if_neg (fun z => c13 (by rw [z]; rfl))] <;> rfl⟩

theorem hd_X0_addEntry : yX0_addEntry.cls = RX0 ∧ yX0_addEntry.cls ≠ "java/lang/invoke/MethodHandle" ∧ yX0_addEntry.cls ≠ "java/lang/invoke/VarHandle" ∧ (parseMethodDescriptor yX0_addEntry.desc).map (fun d => d.parameters.length) = some 1 := by decide +kernel
set_option maxHeartbeats 4000000 in
set_option maxRecDepth 100000 in
theorem c_X0_addEntry (cI cB : ClassId) (A : Nat → Nat) (nr nw : Nat) (S : Bk) (rd lt tx la : Nat) (p e s d k : Int32) (xs : List Int32)  : Ct cI cB yX0_addEntry wsX0_addEntry { frames := 5, cells := 0, slots := 0, locals := 110 } [.ref (A 0), .ref rd] [bookM cI A nr nw S, rdM rd lt tx p e s d k, rowM cI lt la 25 xs] (dv (bI (newEnt S xs e d)) [bookM cI A nr nw (addEnt nr nw S xs e s d k), rdM rd lt tx p e s d k, rowM cI lt la 25 xs]) := by
  refine ct_of (cc := cX0_addEntry) (maxL := 2) (ret := (some .boolean)) (by decide) rfl (Nat.le_of_ble_eq_true rfl) [(0, .ref (A 0)), (1, .ref rd)] rfl ?_
  intro X hI hB K E
  subst hI
  subst hB
  have iX0 : ∀ w ∈ u_ws RX0 TX0 6, w ∈ wsX0_addEntry := by decide +kernel
  have iX2 : ∀ w ∈ u_ws RX2 TX2 7, w ∈ wsX0_addEntry := by decide +kernel
  refine v_aload_n K dX0_addEntry_0 rfl ?_
  refine v_get K 1 rfl rdF rfl iX2 3 (by decide) rfl (by decide +kernel) rfl dX0_addEntry_1 ?_
  refine v_case (0) (fun s4_0 => ?_) (fun s4_0 => ?_)
  · refine v_lk K 32 dX0_addEntry_4 rfl (by rw [s4_0] <;> rfl) (by decide) ?_
    refine v_aload_n K dX0_addEntry_32 rfl ?_
    refine v_aload_n K dX0_addEntry_33 rfl ?_
    refine v_callVi K [0, 1, 2] (c_X0_addRule (XI X) (XB X) _ _ _ _ _ _ _ _ _ _ _ _ _ _ ) rfl gX0_addEntry_X0_addRule rfl rfl hd_X0_addRule ⟨rfl, rfl⟩ ⟨by decide, by decide⟩ 0 rfl bookF rfl (by decide) (Nat.le_of_ble_eq_true rfl) ⟨Nat.zero_le _, Nat.zero_le _⟩ rfl dX0_addEntry_34 ?_
    refine v_zret K E dX0_addEntry_37 (by first | exact Or.inl rfl | exact Or.inr rfl | exact bI_01 _) ?_ rfl
    exact ⟨by unfold newEnt; rw [if_pos s4_0] <;> rfl, by unfold addEnt; rw [if_pos s4_0] <;> rfl⟩
  · refine v_case (1) (fun s4_1 => ?_) (fun s4_1 => ?_)
    · refine v_lk K 38 dX0_addEntry_4 rfl (by rw [s4_1] <;> rfl) (by decide) ?_
      refine v_aload_n K dX0_addEntry_38 rfl ?_
      refine v_aload_n K dX0_addEntry_39 rfl ?_
      refine v_callVi K [0, 1, 2] (c_X0_addWord (XI X) (XB X) _ _ _ _ _ _ _ _ _ _ _ _ _ _ ) rfl gX0_addEntry_X0_addWord rfl rfl hd_X0_addWord ⟨rfl, rfl⟩ ⟨by decide, by decide⟩ 0 rfl bookF rfl (by decide) (Nat.le_of_ble_eq_true rfl) ⟨Nat.zero_le _, Nat.zero_le _⟩ rfl dX0_addEntry_40 ?_
      refine v_zret K E dX0_addEntry_43 (by first | exact Or.inl rfl | exact Or.inr rfl | exact bI_01 _) ?_ rfl
      exact ⟨by unfold newEnt; rw [if_neg s4_0, if_pos s4_1] <;> rfl, by unfold addEnt; rw [if_neg s4_0, if_pos s4_1] <;> rfl⟩
    · refine v_lk (off := 40) K 44 dX0_addEntry_4 rfl ((lv_osw s4_0 rfl).trans ((lv_osw s4_1 rfl).trans (rfl))) (by decide) ?_
      refine v_obook 0 rfl ?_
      refine v_aload_n K dX0_addEntry_44 rfl ?_
      refine v_get K 0 rfl hasF_c rfl iX0 3 (by decide) rfl (by decide +kernel) rfl dX0_addEntry_45 ?_
      refine v_aload_n K dX0_addEntry_48 rfl ?_
      refine v_get K 7 rfl rdF rfl iX2 4 (by decide) rfl (by decide +kernel) rfl dX0_addEntry_49 ?_
      refine v_bipush K (65) dX0_addEntry_52 (by decide) ?_
      refine v_isub K dX0_addEntry_54 ?_
      refine v_aload_n K dX0_addEntry_55 rfl ?_
      refine v_get K 7 rfl rdF rfl iX2 0 (by decide) rfl (by decide +kernel) rfl dX0_addEntry_56 ?_
      refine v_callVv K [4, 8] (c_X4_put (XI X) (XB X) _ _ _ _ _ _ _ _ _ _ _ _ _ ) rfl gX0_addEntry_X4_put rfl rfl hd_X4_put ⟨rfl, rfl⟩ ⟨by decide, by decide⟩ 4 rfl rowsF rfl (by decide) (Nat.le_of_ble_eq_true rfl) ⟨Nat.zero_le _, Nat.zero_le _⟩ rfl dX0_addEntry_59 ?_
      refine v_iconst K (1) dX0_addEntry_62 (by decide) ?_
      refine v_cbook 0 rfl ?_
      refine v_zret K E dX0_addEntry_63 (by first | exact Or.inl rfl | exact Or.inr rfl | exact bI_01 _) ?_ rfl
      exact ⟨by unfold newEnt; rw [if_neg s4_0, if_neg s4_1] <;> rfl, by unfold addEnt; rw [if_neg s4_0, if_neg s4_1] <;> rfl⟩

theorem hd_X0_dropRule : yX0_dropRule.cls = RX0 ∧ yX0_dropRule.cls ≠ "java/lang/invoke/MethodHandle" ∧ yX0_dropRule.cls ≠ "java/lang/invoke/VarHandle" ∧ (parseMethodDescriptor yX0_dropRule.desc).map (fun d => d.parameters.length) = some 1 := by decide +kernel
set_option maxHeartbeats 4000000 in
set_option maxRecDepth 100000 in
theorem c_X0_dropRule (cI cB : ClassId) (A : Nat → Nat) (nr nw : Nat) (S : Bk) (I : Nat) (h1 : I < S.1.length) (h9 : I < 1000000000) : Ct cI cB yX0_dropRule wsX0_dropRule { frames := 5, cells := 0, slots := 0, locals := 112 } [.ref (A 0), .int (nI I)] [bookM cI A nr nw S] (dn [bookM cI A nr nw (dropR S I)]) := by
  refine ct_of (cc := cX0_dropRule) (maxL := 2) (ret := none) (by decide) rfl (Nat.le_of_ble_eq_true rfl) [(0, .ref (A 0)), (1, .int (nI I))] rfl ?_
  intro X hI hB K E
  subst hI
  subst hB
  have iX0 : ∀ w ∈ u_ws RX0 TX0 6, w ∈ wsX0_dropRule := by decide +kernel
  refine v_obook 0 rfl ?_
  refine v_aload_n K dX0_dropRule_0 rfl ?_
  refine v_get K 0 rfl hasF_c rfl iX0 0 (by decide) rfl (by decide +kernel) rfl dX0_dropRule_1 ?_
  refine v_iload_n K dX0_dropRule_4 rfl ?_
  refine v_callVv K [1] (c_X4_remove (XI X) (XB X) _ _ _ _ _ _ _ _ _ ?hc5_0) rfl gX0_dropRule_X4_remove rfl rfl hd_X4_remove ⟨rfl, rfl⟩ ⟨by decide, by decide⟩ 1 rfl rowsF rfl (by decide) (Nat.le_of_ble_eq_true rfl) ⟨Nat.zero_le _, Nat.zero_le _⟩ rfl dX0_dropRule_5 ?_
  case hc5_0 => exact h1
  refine v_aload_n K dX0_dropRule_8 rfl ?_
  refine v_get K 0 rfl hasF_c rfl iX0 1 (by decide) rfl (by decide +kernel) rfl dX0_dropRule_9 ?_
  refine v_iload_n K dX0_dropRule_12 rfl ?_
  refine v_callVv K [2] (c_X3_remove (XI X) (XB X) _ _ _ _ _ ?hc13_0) rfl gX0_dropRule_X3_remove rfl rfl hd_X3_remove ⟨rfl, rfl⟩ ⟨by decide, by decide⟩ 2 rfl rowF rfl (by decide) (Nat.le_of_ble_eq_true rfl) ⟨Nat.zero_le _, Nat.zero_le _⟩ rfl dX0_dropRule_13 ?_
  case hc13_0 => exact h9
  refine v_aload_n K dX0_dropRule_16 rfl ?_
  refine v_get K 0 rfl hasF_c rfl iX0 2 (by decide) rfl (by decide +kernel) rfl dX0_dropRule_17 ?_
  refine v_iload_n K dX0_dropRule_20 rfl ?_
  refine v_callVv K [3] (c_X3_remove (XI X) (XB X) _ _ _ _ _ ?hc21_0) rfl gX0_dropRule_X3_remove rfl rfl hd_X3_remove ⟨rfl, rfl⟩ ⟨by decide, by decide⟩ 3 rfl rowF rfl (by decide) (Nat.le_of_ble_eq_true rfl) ⟨Nat.zero_le _, Nat.zero_le _⟩ rfl dX0_dropRule_21 ?_
  case hc21_0 => exact h9
  refine v_cbook 0 rfl ?_
  refine v_ret K E dX0_dropRule_24 ?_ rfl
  exact ⟨rfl, rfl⟩

theorem hd_X0_shiftRule : yX0_shiftRule.cls = RX0 ∧ yX0_shiftRule.cls ≠ "java/lang/invoke/MethodHandle" ∧ yX0_shiftRule.cls ≠ "java/lang/invoke/VarHandle" ∧ (parseMethodDescriptor yX0_shiftRule.desc).map (fun d => d.parameters.length) = some 2 := by decide +kernel
set_option maxHeartbeats 4000000 in
set_option maxRecDepth 100000 in
theorem c_X0_shiftRule (cI cB : ClassId) (A : Nat → Nat) (nr nw : Nat) (S : Bk) (I J : Nat) (h1 : I < S.1.length) (h2 : J < S.1.length) (h9 : I < 1000000000) (h8 : J < 1000000000) : Ct cI cB yX0_shiftRule wsX0_shiftRule { frames := 4, cells := 0, slots := 0, locals := 91 } [.ref (A 0), .int (nI I), .int (nI J)] [bookM cI A nr nw S] (dn [bookM cI A nr nw (shiftR S I J)]) := by
  refine ct_of (cc := cX0_shiftRule) (maxL := 3) (ret := none) (by decide) rfl (Nat.le_of_ble_eq_true rfl) [(0, .ref (A 0)), (1, .int (nI I)), (2, .int (nI J))] rfl ?_
  intro X hI hB K E
  subst hI
  subst hB
  have iX0 : ∀ w ∈ u_ws RX0 TX0 6, w ∈ wsX0_shiftRule := by decide +kernel
  refine v_obook 0 rfl ?_
  refine v_aload_n K dX0_shiftRule_0 rfl ?_
  refine v_get K 0 rfl hasF_c rfl iX0 0 (by decide) rfl (by decide +kernel) rfl dX0_shiftRule_1 ?_
  refine v_iload_n K dX0_shiftRule_4 rfl ?_
  refine v_iload_n K dX0_shiftRule_5 rfl ?_
  refine v_callVv K [1] (c_X4_move (XI X) (XB X) _ _ _ _ _ _ _ _ _ _ ?hc6_0 ?hc6_1) rfl gX0_shiftRule_X4_move rfl rfl hd_X4_move ⟨rfl, rfl⟩ ⟨by decide, by decide⟩ 1 rfl rowsF rfl (by decide) (Nat.le_of_ble_eq_true rfl) ⟨Nat.zero_le _, Nat.zero_le _⟩ rfl dX0_shiftRule_6 ?_
  case hc6_0 => exact h1
  case hc6_1 => exact h2
  refine v_aload_n K dX0_shiftRule_9 rfl ?_
  refine v_get K 0 rfl hasF_c rfl iX0 1 (by decide) rfl (by decide +kernel) rfl dX0_shiftRule_10 ?_
  refine v_iload_n K dX0_shiftRule_13 rfl ?_
  refine v_iload_n K dX0_shiftRule_14 rfl ?_
  refine v_callVv K [2] (c_X3_move (XI X) (XB X) _ _ _ _ _ _ ?hc15_0 ?hc15_1) rfl gX0_shiftRule_X3_move rfl rfl hd_X3_move ⟨rfl, rfl⟩ ⟨by decide, by decide⟩ 2 rfl rowF rfl (by decide) (Nat.le_of_ble_eq_true rfl) ⟨Nat.zero_le _, Nat.zero_le _⟩ rfl dX0_shiftRule_15 ?_
  case hc15_0 => exact h9
  case hc15_1 => exact h8
  refine v_aload_n K dX0_shiftRule_18 rfl ?_
  refine v_get K 0 rfl hasF_c rfl iX0 2 (by decide) rfl (by decide +kernel) rfl dX0_shiftRule_19 ?_
  refine v_iload_n K dX0_shiftRule_22 rfl ?_
  refine v_iload_n K dX0_shiftRule_23 rfl ?_
  refine v_callVv K [3] (c_X3_move (XI X) (XB X) _ _ _ _ _ _ ?hc24_0 ?hc24_1) rfl gX0_shiftRule_X3_move rfl rfl hd_X3_move ⟨rfl, rfl⟩ ⟨by decide, by decide⟩ 3 rfl rowF rfl (by decide) (Nat.le_of_ble_eq_true rfl) ⟨Nat.zero_le _, Nat.zero_le _⟩ rfl dX0_shiftRule_24 ?_
  case hc24_0 => exact h9
  case hc24_1 => exact h8
  refine v_cbook 0 rfl ?_
  refine v_ret K E dX0_shiftRule_27 ?_ rfl
  exact ⟨rfl, rfl⟩

theorem hd_X0_dropWord : yX0_dropWord.cls = RX0 ∧ yX0_dropWord.cls ≠ "java/lang/invoke/MethodHandle" ∧ yX0_dropWord.cls ≠ "java/lang/invoke/VarHandle" ∧ (parseMethodDescriptor yX0_dropWord.desc).map (fun d => d.parameters.length) = some 1 := by decide +kernel
set_option maxHeartbeats 4000000 in
set_option maxRecDepth 100000 in
theorem c_X0_dropWord (cI cB : ClassId) (A : Nat → Nat) (nr nw : Nat) (S : Bk) (I : Nat) (h1 : I < S.2.2.2.2.1.length) (h9 : I < 1000000000) : Ct cI cB yX0_dropWord wsX0_dropWord { frames := 5, cells := 0, slots := 0, locals := 112 } [.ref (A 0), .int (nI I)] [bookM cI A nr nw S] (dn [bookM cI A nr nw (dropW S I)]) := by
  refine ct_of (cc := cX0_dropWord) (maxL := 2) (ret := none) (by decide) rfl (Nat.le_of_ble_eq_true rfl) [(0, .ref (A 0)), (1, .int (nI I))] rfl ?_
  intro X hI hB K E
  subst hI
  subst hB
  have iX0 : ∀ w ∈ u_ws RX0 TX0 6, w ∈ wsX0_dropWord := by decide +kernel
  refine v_obook 0 rfl ?_
  refine v_aload_n K dX0_dropWord_0 rfl ?_
  refine v_get K 0 rfl hasF_c rfl iX0 4 (by decide) rfl (by decide +kernel) rfl dX0_dropWord_1 ?_
  refine v_iload_n K dX0_dropWord_4 rfl ?_
  refine v_callVv K [5] (c_X4_remove (XI X) (XB X) _ _ _ _ _ _ _ _ _ ?hc5_0) rfl gX0_dropWord_X4_remove rfl rfl hd_X4_remove ⟨rfl, rfl⟩ ⟨by decide, by decide⟩ 5 rfl rowsF rfl (by decide) (Nat.le_of_ble_eq_true rfl) ⟨Nat.zero_le _, Nat.zero_le _⟩ rfl dX0_dropWord_5 ?_
  case hc5_0 => exact h1
  refine v_aload_n K dX0_dropWord_8 rfl ?_
  refine v_get K 0 rfl hasF_c rfl iX0 5 (by decide) rfl (by decide +kernel) rfl dX0_dropWord_9 ?_
  refine v_iload_n K dX0_dropWord_12 rfl ?_
  refine v_callVv K [6] (c_X3_remove (XI X) (XB X) _ _ _ _ _ ?hc13_0) rfl gX0_dropWord_X3_remove rfl rfl hd_X3_remove ⟨rfl, rfl⟩ ⟨by decide, by decide⟩ 6 rfl rowF rfl (by decide) (Nat.le_of_ble_eq_true rfl) ⟨Nat.zero_le _, Nat.zero_le _⟩ rfl dX0_dropWord_13 ?_
  case hc13_0 => exact h9
  refine v_cbook 0 rfl ?_
  refine v_ret K E dX0_dropWord_16 ?_ rfl
  exact ⟨rfl, rfl⟩

theorem hd_X0_longSigns : yX0_longSigns.cls = RX0 ∧ yX0_longSigns.cls ≠ "java/lang/invoke/MethodHandle" ∧ yX0_longSigns.cls ≠ "java/lang/invoke/VarHandle" ∧ (parseMethodDescriptor yX0_longSigns.desc).map (fun d => d.parameters.length) = some 0 := by decide +kernel
set_option maxHeartbeats 4000000 in
set_option maxRecDepth 100000 in
theorem c_X0_longSigns (cI cB : ClassId) (A : Nat → Nat) (nr nw : Nat) (S : Bk)  : Ct cI cB yX0_longSigns wsX0_longSigns { frames := 2, cells := 0, slots := 0, locals := 42 } [.ref (A 0)] [bookM cI A nr nw S] (dv (nI (longS S.2.2.2.1)) [bookM cI A nr nw S]) := by
  refine ct_of (cc := cX0_longSigns) (maxL := 3) (ret := (some .int)) (by decide) rfl (Nat.le_of_ble_eq_true rfl) [(0, .ref (A 0))] rfl ?_
  intro X hI hB K E
  subst hI
  subst hB
  have iX0 : ∀ w ∈ u_ws RX0 TX0 6, w ∈ wsX0_longSigns := by decide +kernel
  refine v_obook 0 rfl ?_
  refine v_rowsrl 4 rfl (fun hE => ?_)
  obtain ⟨C0, hC0⟩ := hE
  have hN := rl_N hC0
  have lp : ∀ k, k ≤ S.2.2.2.1.length → ∀ (x : Int32) (n : Nat), x = nI k → n + longS (S.2.2.2.1.drop k) = longS S.2.2.2.1 → V X 0 0 4 [(0, .ref (A 0)), (1, .int (nI n)), (2, .int x)] [] [cM (A 0) (.inr (0, [.ref (A 1), .ref (A 6), .ref (A 8), .ref (A 10), .ref (A 15), .ref (A 20)])), rowsM (XI X) (A 1) (A 2) (A 3) (A 4) (A 5) nr 4 S.1, rowM (XI X) (A 6) (A 7) nr S.2.1, rowM (XI X) (A 8) (A 9) nr S.2.2.1, rowsM (XI X) (A 10) (A 11) (A 12) (A 13) (A 14) 26 2 S.2.2.2.1, rowsM (XI X) (A 15) (A 16) (A 17) (A 18) (A 19) nw 12 S.2.2.2.2.1, rowM (XI X) (A 20) (A 21) nw S.2.2.2.2.2] := by
    refine loop_up S.2.2.2.1.length ?_
    intro k hk ih x n hx hp
    subst hx
    refine v_iload_n K dX0_longSigns_4 rfl ?_
    refine v_aload_n K dX0_longSigns_5 rfl ?_
    refine v_get K 0 rfl hasF_c rfl iX0 3 (by decide) rfl (by decide +kernel) rfl dX0_longSigns_6 ?_
    refine v_callVi K [4] (c_X4_lines (XI X) (XB X) _ _ _ _ _ _ _ _ ) rfl gX0_longSigns_X4_lines rfl rfl hd_X4_lines ⟨rfl, rfl⟩ ⟨by decide, by decide⟩ 4 rfl rowsF rfl (by decide) (Nat.le_of_ble_eq_true rfl) ⟨Nat.zero_le _, Nat.zero_le _⟩ rfl dX0_longSigns_9 ?_
    refine v_ic_ge K 36 dX0_longSigns_12 (by decide) (fun c12 => ?_) (fun c12 => ?_)
    · refine v_cbook 0 rfl ?_
      refine v_iload_n K dX0_longSigns_36 rfl ?_
      refine v_iret K E dX0_longSigns_37 ?_ rfl
      exact ⟨by rw [← hp, up_end rfl hN hk c12, List.drop_length] <;> rfl, rfl⟩
    · have hlt := up_lt rfl hN hk c12
      have hl2 := Nat.lt_of_le_of_lt (rl_len (k := k) hC0) hC0.1.2.1
      refine v_aload_n K dX0_longSigns_15 rfl ?_
      refine v_get K 0 rfl hasF_c rfl iX0 3 (by decide) rfl (by decide +kernel) rfl dX0_longSigns_16 ?_
      refine v_iload_n K dX0_longSigns_19 rfl ?_
      refine v_callVi K [4] (c_X4_length (XI X) (XB X) _ _ _ _ _ _ _ _ _ ) rfl gX0_longSigns_X4_length rfl rfl hd_X4_length ⟨rfl, rfl⟩ ⟨by decide, by decide⟩ 4 rfl rowsF rfl (by decide) (Nat.le_of_ble_eq_true rfl) ⟨Nat.zero_le _, Nat.zero_le _⟩ rfl dX0_longSigns_20 ?_
      rw [gl_n hlt hN]
      refine v_iconst K (2) dX0_longSigns_23 (by decide) ?_
      refine v_ic_ne K 30 dX0_longSigns_24 (by decide) (fun c24 => ?_) (fun c24 => ?_)
      · refine v_iinc K dX0_longSigns_30 rfl (by decide) iinc_1 ?_
        refine v_goto K 4 dX0_longSigns_33 (by decide) ?_
        exact v_j (ih hlt _ n (nI_1 k) (by rw [← hp, longS_step hlt (fun z => c24 (by rw [z]; rfl))])) rfl rfl rfl
      · refine v_iinc K dX0_longSigns_27 rfl (by decide) iinc_1 ?_
        refine v_iinc K dX0_longSigns_30 rfl (by decide) iinc_1 ?_
        refine v_goto K 4 dX0_longSigns_33 (by decide) ?_
        exact v_j (ih hlt _ (n + 1) (nI_1 k) (by rw [← hp, longS_hit hlt ((nI_eq (b := 2) (by omega) (by decide)).mp c24)]; omega)) (by rw [← nI_1]; rfl) rfl rfl
  refine v_iconst K (0) dX0_longSigns_0 (by decide) ?_
  refine v_istore_n K dX0_longSigns_1 (by decide) ?_
  refine v_iconst K (0) dX0_longSigns_2 (by decide) ?_
  refine v_istore_n K dX0_longSigns_3 (by decide) ?_
  exact v_j (lp 0 (Nat.zero_le _) 0 0 rfl (Nat.zero_add _)) rfl rfl rfl
