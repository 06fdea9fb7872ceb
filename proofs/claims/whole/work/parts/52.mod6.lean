theorem hd_X8_takesOut : yX8_takesOut.cls = RX8 ∧ yX8_takesOut.cls ≠ "java/lang/invoke/MethodHandle" ∧ yX8_takesOut.cls ≠ "java/lang/invoke/VarHandle" ∧ (parseMethodDescriptor yX8_takesOut.desc).map (fun d => d.parameters.length) = some 4 := by decide +kernel
set_option maxHeartbeats 4000000 in
set_option maxRecDepth 100000 in
theorem c_X8_takesOut (cI cB : ClassId) (m : Nat → Nat) (hl it sz sl ut ol tl sp tw tm mm rl : Int32) (f : Nat → Int32) (c fr e p n1 : Nat) (hfc : f c = nI (n1 + 1)) (hc : c < fr) (hAB : e * p ≤ e * n1) (hB : fr + e * n1 + e ≤ 570) : Ct cI cB yX8_takesOut wsX8_takesOut { frames := 0, cells := 0, slots := 0, locals := 0 } [.ref (m 0), .int (nI c), .int (nI fr), .int (nI e), .int (nI p)] [moM m hl it sz sl ut ol tl sp tw tm mm rl, arF cI (m 1) 570 f] (dn [moM m hl it sz sl ut ol tl sp tw tm mm rl, arF cI (m 1) 570 (toK f c fr e p n1 (e * n1))]) := by
  refine ct_of (cc := cX8_takesOut) (maxL := 6) (ret := none) (by decide) rfl (Nat.le_of_ble_eq_true rfl) [(0, .ref (m 0)), (1, .int (nI c)), (2, .int (nI fr)), (3, .int (nI e)), (4, .int (nI p))] rfl ?_
  intro X hI hB K E
  subst hI
  subst hB
  have iX8 : ∀ w ∈ u_ws RX8 TX8 28, w ∈ wsX8_takesOut := by decide +kernel
  have lp : ∀ k, k ≤ e * n1 → e * p ≤ k → ∀ (x : Int32), x = nI k → V X 0 0 16 [(0, .ref (m 0)), (1, .int (nI c)), (2, .int (nI fr)), (3, .int (nI e)), (5, .int x)] [] [moM m hl it sz sl ut ol tl sp tw tm mm rl, arF (XI X) (m 1) 570 (toK f c fr e p n1 k)] := by
    refine loop_up (e * n1) ?_
    intro k hk ih hpk x hx
    subst hx
    refine v_iload K dX8_takesOut_16 rfl ?_
    refine v_iload_n K dX8_takesOut_18 rfl ?_
    refine v_aload_n K dX8_takesOut_19 rfl ?_
    refine v_get K 0 rfl hasF_c rfl iX8 0 (by decide) rfl (by decide +kernel) rfl dX8_takesOut_20 ?_
    refine v_iload_n K dX8_takesOut_23 rfl ?_
    refine v_fald K 1 rfl (c) ?hx24_1 ?ix24_1 dX8_takesOut_24 ?_
    case hx24_1 => exact rfl
    case ix24_1 => exact ⟨by omega, by decide⟩
    rw [toK_c]
    refine v_imul K dX8_takesOut_25 ?_
    rw [pk_mul]
    refine v_ic_ge K 55 dX8_takesOut_26 (by decide) (fun c26 => ?_) (fun c26 => ?_)
    · refine v_ret K E dX8_takesOut_55 ?_ rfl
      have he := up_end rfl (by omega) hk c26
      exact ⟨rfl, by rw [he] <;> rfl⟩
    · have hlt := up_lt rfl (by omega) hk c26
      refine v_aload_n K dX8_takesOut_29 rfl ?_
      refine v_get K 0 rfl hasF_c rfl iX8 0 (by decide) rfl (by decide +kernel) rfl dX8_takesOut_30 ?_
      refine v_iload_n K dX8_takesOut_33 rfl ?_
      refine v_iload K dX8_takesOut_34 rfl ?_
      refine v_iadd K dX8_takesOut_36 ?_
      refine v_aload_n K dX8_takesOut_37 rfl ?_
      refine v_get K 0 rfl hasF_c rfl iX8 0 (by decide) rfl (by decide +kernel) rfl dX8_takesOut_38 ?_
      refine v_iload_n K dX8_takesOut_41 rfl ?_
      refine v_iload K dX8_takesOut_42 rfl ?_
      refine v_iadd K dX8_takesOut_44 ?_
      refine v_iload_n K dX8_takesOut_45 rfl ?_
      refine v_iadd K dX8_takesOut_46 ?_
      refine v_fald K 1 rfl (fr + k + e) ?hx47_2 ?ix47_2 dX8_takesOut_47 ?_
      case hx47_2 => rw [nI_add, nI_add]
      case ix47_2 => exact ⟨by omega, by decide⟩
      refine v_fast K 1 rfl (fr + k) ?hx48_3 ?ix48_3 dX8_takesOut_48 ?_
      case hx48_3 => exact nI_add _ _
      case ix48_3 => exact ⟨by omega, by decide⟩
      refine v_iinc K dX8_takesOut_49 rfl (by decide) iinc_1 ?_
      refine v_goto K 16 dX8_takesOut_52 (by decide) ?_
      exact v_j (ih hlt (by omega) _ (nI_1 k)) rfl rfl (by rw [toK_s hc hpk] <;> rfl)
  refine v_aload_n K dX8_takesOut_0 rfl ?_
  refine v_get K 0 rfl hasF_c rfl iX8 0 (by decide) rfl (by decide +kernel) rfl dX8_takesOut_1 ?_
  refine v_iload_n K dX8_takesOut_4 rfl ?_
  refine v_dup2 K dX8_takesOut_5 rfl rfl ?_
  refine v_fald K 1 rfl (c) ?hx6_4 ?ix6_4 dX8_takesOut_6 ?_
  case hx6_4 => exact rfl
  case ix6_4 => exact ⟨by omega, by decide⟩
  refine v_iconst K (1) dX8_takesOut_7 (by decide) ?_
  refine v_isub K dX8_takesOut_8 ?_
  rw [hfc, sub1 (by omega), Nat.add_sub_cancel]
  refine v_fast K 1 rfl (c) ?hx9_5 ?ix9_5 dX8_takesOut_9 ?_
  case hx9_5 => exact rfl
  case ix9_5 => exact ⟨by omega, by decide⟩
  rw [toK_0 (fr := fr) (e := e) (p := p)]
  refine v_iload_n K dX8_takesOut_10 rfl ?_
  refine v_iload K dX8_takesOut_11 rfl ?_
  refine v_imul K dX8_takesOut_13 ?_
  rw [pk_mul]
  refine v_istore K dX8_takesOut_14 (by decide) ?_
  exact v_j (lp (e * p) hAB (Nat.le_refl _) _ rfl) rfl rfl rfl

theorem hd_X8_removeRule : yX8_removeRule.cls = RX8 ∧ yX8_removeRule.cls ≠ "java/lang/invoke/MethodHandle" ∧ yX8_removeRule.cls ≠ "java/lang/invoke/VarHandle" ∧ (parseMethodDescriptor yX8_removeRule.desc).map (fun d => d.parameters.length) = some 1 := by decide +kernel
set_option maxHeartbeats 4000000 in
set_option maxRecDepth 100000 in
theorem c_X8_removeRule (cI cB : ClassId) (m : Nat → Nat) (it sz sl ut ol tl sp tw tm mm rl : Int32) (S : Bk) (hs : List Bk) (f g h : Nat → Int32) (i : Int32) (hA : allR S f) (hH : histR hs h) : Ct cI cB yX8_removeRule wsX8_removeRule { frames := 2, cells := 0, slots := 0, locals := 46 } [.ref (m 0), .int i] [moM m (nI hs.length) it sz sl ut ol tl sp tw tm mm rl, arF cI (m 1) 570 f, arF cI (m 2) 570 g, arF cI (m 3) 2280 h] (acP cI m it sz sl ut ol tl sp tw tm mm rl (rmRT S hs i)) := by
  refine ct_of (cc := cX8_removeRule) (maxL := 2) (ret := (some .int)) (by decide) rfl (Nat.le_of_ble_eq_true rfl) [(0, .ref (m 0)), (1, .int i)] rfl ?_
  intro X hI hB K E
  subst hI
  subst hB
  have iX8 : ∀ w ∈ u_ws RX8 TX8 28, w ∈ wsX8_removeRule := by decide +kernel
  refine v_aload_n K dX8_removeRule_0 rfl ?_
  refine v_iload_n K dX8_removeRule_1 rfl ?_
  refine v_callVi K [0, 1] (c_X8_isRule (XI X) (XB X) _ _ _ _ _ _ _ _ _ _ _ _ _ S _ _ ?hc2_0_1) rfl gX8_removeRule_X8_isRule rfl rfl hd_X8_isRule ⟨rfl, rfl⟩ ⟨by decide, by decide⟩ 0 rfl hasF_c rfl (by decide) (Nat.le_of_ble_eq_true rfl) ⟨Nat.zero_le _, Nat.zero_le _⟩ rfl dX8_removeRule_2 ?_
  case hc2_0_1 => exact hA
  refine v_if_ne K 10 dX8_removeRule_5 (by decide) (fun c5 => ?_) (fun c5 => ?_)
  · have hbt := bI_1 c5
    obtain ⟨I, hI, rfl⟩ := hasL_of (L := S.1) (by have := hA.1.1; have := hA.1.2.2.2.2.1; omega) hbt
    have hb1 := hA.1.1
    have hb2 := hA.1.2.2.2.2.1
    refine v_aload_n K dX8_removeRule_10 rfl ?_
    refine v_callVv K [0, 1, 2] (c_X8_remember (XI X) (XB X) _ _ _ _ _ _ _ _ _ _ _ _ _ _ _ ) rfl gX8_removeRule_X8_remember rfl rfl hd_X8_remember ⟨rfl, rfl⟩ ⟨by decide, by decide⟩ 0 rfl hasF_c rfl (by decide) (Nat.le_of_ble_eq_true rfl) ⟨Nat.zero_le _, Nat.zero_le _⟩ rfl dX8_removeRule_11 ?_
    refine v_aload_n K dX8_removeRule_14 rfl ?_
    refine v_iconst K (0) dX8_removeRule_15 (by decide) ?_
    refine v_iconst K (2) dX8_removeRule_16 (by decide) ?_
    refine v_bipush K (7) dX8_removeRule_17 (by decide) ?_
    refine v_iload_n K dX8_removeRule_19 rfl ?_
    refine v_callVv K [0, 1] (c_X8_takesOut (XI X) (XB X) _ _ _ _ _ _ _ _ _ _ _ _ _ _ 0 2 7 I (S.1.length - 1) ?hc20_0_3 ?hc20_1_3 ?hc20_2_3 ?hc20_3_3) rfl gX8_removeRule_X8_takesOut rfl rfl hd_X8_takesOut ⟨rfl, rfl⟩ ⟨by decide, by decide⟩ 0 rfl hasF_c rfl (by decide) (Nat.le_of_ble_eq_true rfl) ⟨Nat.zero_le _, Nat.zero_le _⟩ rfl dX8_removeRule_20 ?_
    case hc20_0_3 => rw [hA.2.1]; exact congrArg nI (by omega)
    case hc20_1_3 => decide
    case hc20_2_3 => omega
    case hc20_3_3 => omega
    refine v_aload_n K dX8_removeRule_23 rfl ?_
    refine v_aload_n K dX8_removeRule_24 rfl ?_
    refine v_get K 0 rfl hasF_c rfl iX8 0 (by decide) rfl (by decide +kernel) rfl dX8_removeRule_25 ?_
    refine v_iconst K (0) dX8_removeRule_28 (by decide) ?_
    refine v_fald K 1 rfl (0) ?hx29_4 ?ix29_4 dX8_removeRule_29 ?_
    case hx29_4 => exact rfl
    case ix29_4 => exact ⟨by decide, by decide⟩
    rw [toK_c]
    refine v_callV K [0, 2, 3] (c_X8_acted (XI X) (XB X) _ _ _ _ _ _ _ _ _ _ _ _ _ S _ _ _ ?hc30_0_5 ?hc30_1_5) rfl gX8_removeRule_X8_acted rfl rfl hd_X8_acted ⟨rfl, rfl⟩ ⟨by decide, by decide⟩ 0 rfl hasF_c rfl (by decide) (Nat.le_of_ble_eq_true rfl) ⟨Nat.zero_le _, Nat.zero_le _⟩ rfl dX8_removeRule_30 ?_
    case hc30_0_5 => exact hH
    case hc30_1_5 => exact allR_cp hA
    intro ov Mc1 hpo _
    obtain ⟨rfl, h2, hH2, rfl⟩ := hpo
    refine v_iret K E dX8_removeRule_33 ?_ rfl
    exact acP_i ((rmRT_y hbt (by omega)).trans (by rw [show (dropR S I).1.length = S.1.length - 1 from rmG_len] <;> rfl)) (allR_dropR hA hI) hH2
  · refine v_iconst K (-1) dX8_removeRule_8 (by decide) ?_
    refine v_iret K E dX8_removeRule_9 ?_ rfl
    exact acP_i (rmRT_n (bI_0 c5)) hA hH

theorem hd_X8_removeWord : yX8_removeWord.cls = RX8 ∧ yX8_removeWord.cls ≠ "java/lang/invoke/MethodHandle" ∧ yX8_removeWord.cls ≠ "java/lang/invoke/VarHandle" ∧ (parseMethodDescriptor yX8_removeWord.desc).map (fun d => d.parameters.length) = some 1 := by decide +kernel
set_option maxHeartbeats 4000000 in
set_option maxRecDepth 100000 in
theorem c_X8_removeWord (cI cB : ClassId) (m : Nat → Nat) (it sz sl ut ol tl sp tw tm mm rl : Int32) (S : Bk) (hs : List Bk) (f g h : Nat → Int32) (i : Int32) (hA : allR S f) (hH : histR hs h) : Ct cI cB yX8_removeWord wsX8_removeWord { frames := 2, cells := 0, slots := 0, locals := 46 } [.ref (m 0), .int i] [moM m (nI hs.length) it sz sl ut ol tl sp tw tm mm rl, arF cI (m 1) 570 f, arF cI (m 2) 570 g, arF cI (m 3) 2280 h] (acP cI m it sz sl ut ol tl sp tw tm mm rl (rmWT S hs i)) := by
  refine ct_of (cc := cX8_removeWord) (maxL := 2) (ret := (some .int)) (by decide) rfl (Nat.le_of_ble_eq_true rfl) [(0, .ref (m 0)), (1, .int i)] rfl ?_
  intro X hI hB K E
  subst hI
  subst hB
  have iX8 : ∀ w ∈ u_ws RX8 TX8 28, w ∈ wsX8_removeWord := by decide +kernel
  refine v_aload_n K dX8_removeWord_0 rfl ?_
  refine v_iload_n K dX8_removeWord_1 rfl ?_
  refine v_callVi K [0, 1] (c_X8_isWord (XI X) (XB X) _ _ _ _ _ _ _ _ _ _ _ _ _ S _ _ ?hc2_0_1) rfl gX8_removeWord_X8_isWord rfl rfl hd_X8_isWord ⟨rfl, rfl⟩ ⟨by decide, by decide⟩ 0 rfl hasF_c rfl (by decide) (Nat.le_of_ble_eq_true rfl) ⟨Nat.zero_le _, Nat.zero_le _⟩ rfl dX8_removeWord_2 ?_
  case hc2_0_1 => exact hA
  refine v_if_ne K 10 dX8_removeWord_5 (by decide) (fun c5 => ?_) (fun c5 => ?_)
  · have hbt := bI_1 c5
    obtain ⟨I, hI, rfl⟩ := hasL_of (L := S.2.2.2.2.1) (by have := hA.1.1; have := hA.1.2.2.2.2.1; omega) hbt
    have hb1 := hA.1.1
    have hb2 := hA.1.2.2.2.2.1
    refine v_aload_n K dX8_removeWord_10 rfl ?_
    refine v_callVv K [0, 1, 2] (c_X8_remember (XI X) (XB X) _ _ _ _ _ _ _ _ _ _ _ _ _ _ _ ) rfl gX8_removeWord_X8_remember rfl rfl hd_X8_remember ⟨rfl, rfl⟩ ⟨by decide, by decide⟩ 0 rfl hasF_c rfl (by decide) (Nat.le_of_ble_eq_true rfl) ⟨Nat.zero_le _, Nat.zero_le _⟩ rfl dX8_removeWord_11 ?_
    refine v_aload_n K dX8_removeWord_14 rfl ?_
    refine v_iconst K (1) dX8_removeWord_15 (by decide) ?_
    refine v_sipush K (290) dX8_removeWord_16 (by decide) ?_
    refine v_bipush K (14) dX8_removeWord_19 (by decide) ?_
    refine v_iload_n K dX8_removeWord_21 rfl ?_
    refine v_callVv K [0, 1] (c_X8_takesOut (XI X) (XB X) _ _ _ _ _ _ _ _ _ _ _ _ _ _ 1 290 14 I (S.2.2.2.2.1.length - 1) ?hc22_0_3 ?hc22_1_3 ?hc22_2_3 ?hc22_3_3) rfl gX8_removeWord_X8_takesOut rfl rfl hd_X8_takesOut ⟨rfl, rfl⟩ ⟨by decide, by decide⟩ 0 rfl hasF_c rfl (by decide) (Nat.le_of_ble_eq_true rfl) ⟨Nat.zero_le _, Nat.zero_le _⟩ rfl dX8_removeWord_22 ?_
    case hc22_0_3 => rw [hA.2.2.1]; exact congrArg nI (by omega)
    case hc22_1_3 => decide
    case hc22_2_3 => omega
    case hc22_3_3 => omega
    refine v_aload_n K dX8_removeWord_25 rfl ?_
    refine v_aload_n K dX8_removeWord_26 rfl ?_
    refine v_get K 0 rfl hasF_c rfl iX8 0 (by decide) rfl (by decide +kernel) rfl dX8_removeWord_27 ?_
    refine v_iconst K (1) dX8_removeWord_30 (by decide) ?_
    refine v_fald K 1 rfl (1) ?hx31_4 ?ix31_4 dX8_removeWord_31 ?_
    case hx31_4 => exact rfl
    case ix31_4 => exact ⟨by decide, by decide⟩
    rw [toK_c]
    refine v_callV K [0, 2, 3] (c_X8_acted (XI X) (XB X) _ _ _ _ _ _ _ _ _ _ _ _ _ S _ _ _ ?hc32_0_5 ?hc32_1_5) rfl gX8_removeWord_X8_acted rfl rfl hd_X8_acted ⟨rfl, rfl⟩ ⟨by decide, by decide⟩ 0 rfl hasF_c rfl (by decide) (Nat.le_of_ble_eq_true rfl) ⟨Nat.zero_le _, Nat.zero_le _⟩ rfl dX8_removeWord_32 ?_
    case hc32_0_5 => exact hH
    case hc32_1_5 => exact allR_cp hA
    intro ov Mc1 hpo _
    obtain ⟨rfl, h2, hH2, rfl⟩ := hpo
    refine v_iret K E dX8_removeWord_35 ?_ rfl
    exact acP_i ((rmWT_y hbt (by omega)).trans (by rw [show (dropW S I).2.2.2.2.1.length = S.2.2.2.2.1.length - 1 from rmG_len] <;> rfl)) (allR_dropW hA hI) hH2
  · refine v_iconst K (-1) dX8_removeWord_8 (by decide) ?_
    refine v_iret K E dX8_removeWord_9 ?_ rfl
    exact acP_i (rmWT_n (bI_0 c5)) hA hH

theorem hd_X8_setKind : yX8_setKind.cls = RX8 ∧ yX8_setKind.cls ≠ "java/lang/invoke/MethodHandle" ∧ yX8_setKind.cls ≠ "java/lang/invoke/VarHandle" ∧ (parseMethodDescriptor yX8_setKind.desc).map (fun d => d.parameters.length) = some 2 := by decide +kernel
set_option maxHeartbeats 4000000 in
set_option maxRecDepth 100000 in
theorem c_X8_setKind (cI cB : ClassId) (m : Nat → Nat) (it sz sl ut ol tl sp tw tm mm rl : Int32) (S : Bk) (hs : List Bk) (f g h : Nat → Int32) (i kd : Int32) (hA : allR S f) (hH : histR hs h) : Ct cI cB yX8_setKind wsX8_setKind { frames := 2, cells := 0, slots := 0, locals := 46 } [.ref (m 0), .int i, .int kd] [moM m (nI hs.length) it sz sl ut ol tl sp tw tm mm rl, arF cI (m 1) 570 f, arF cI (m 2) 570 g, arF cI (m 3) 2280 h] (acP cI m it sz sl ut ol tl sp tw tm mm rl (kdT S hs i kd)) := by
  refine ct_of (cc := cX8_setKind) (maxL := 4) (ret := (some .int)) (by decide) rfl (Nat.le_of_ble_eq_true rfl) [(0, .ref (m 0)), (1, .int i), (2, .int kd)] rfl ?_
  intro X hI hB K E
  subst hI
  subst hB
  have iX8 : ∀ w ∈ u_ws RX8 TX8 28, w ∈ wsX8_setKind := by decide +kernel
  refine v_aload_n K dX8_setKind_0 rfl ?_
  refine v_iload_n K dX8_setKind_1 rfl ?_
  refine v_callVi K [0, 1] (c_X8_isWord (XI X) (XB X) _ _ _ _ _ _ _ _ _ _ _ _ _ S _ _ ?hc2_0_1) rfl gX8_setKind_X8_isWord rfl rfl hd_X8_isWord ⟨rfl, rfl⟩ ⟨by decide, by decide⟩ 0 rfl hasF_c rfl (by decide) (Nat.le_of_ble_eq_true rfl) ⟨Nat.zero_le _, Nat.zero_le _⟩ rfl dX8_setKind_2 ?_
  case hc2_0_1 => exact hA
  refine v_if_ne K 10 dX8_setKind_5 (by decide) (fun c5 => ?_) (fun c5 => ?_)
  · have hbt := bI_1 c5
    have hb2 := hA.1.2.2.2.2.1
    refine v_iload_n K dX8_setKind_10 rfl ?_
    refine v_i2l K dX8_setKind_11 ?_
    refine v_lconst K (0) dX8_setKind_12 (by decide) ?_
    refine v_ldc2 K (2) (by decide +kernel) dX8_setKind_13 ?_
    refine v_callSi K [] (c_X8_in (XI X) (XB X) _ _ _ ) rfl gX8_setKind_X8_in rfl rfl hd_X8_in ⟨rfl, rfl⟩ ⟨by decide, by decide⟩ (by decide) (Nat.le_of_ble_eq_true rfl) ⟨Nat.zero_le _, Nat.zero_le _⟩ rfl dX8_setKind_16 ?_
    rw [in02]
    refine v_if_ne K 25 dX8_setKind_19 (by decide) (fun c19 => ?_) (fun c19 => ?_)
    · have hk02 := of_decide_eq_true (bI_1 c19)
      obtain ⟨I, hI, rfl⟩ := hasL_of (L := S.2.2.2.2.1) (by omega) hbt
      refine v_aload_n K dX8_setKind_25 rfl ?_
      refine v_get K 0 rfl hasF_c rfl iX8 0 (by decide) rfl (by decide +kernel) rfl dX8_setKind_26 ?_
      refine v_iload_n K dX8_setKind_29 rfl ?_
      refine v_callSi K [] (c_X8_wordAt (XI X) (XB X) _ ) rfl gX8_setKind_X8_wordAt rfl rfl hd_X8_wordAt ⟨rfl, rfl⟩ ⟨by decide, by decide⟩ (by decide) (Nat.le_of_ble_eq_true rfl) ⟨Nat.zero_le _, Nat.zero_le _⟩ rfl dX8_setKind_30 ?_
      refine v_fald K 1 rfl (290 + 14 * I) ?hx33_4 ?ix33_4 dX8_setKind_33 ?_
      case hx33_4 => exact rfl
      case ix33_4 => exact ⟨by omega, by decide⟩
      rw [(hA.2.2.2.2.2 I hI).1]
      refine v_istore_n K dX8_setKind_34 (by decide) ?_
      refine v_iload_n K dX8_setKind_35 rfl ?_
      refine v_iload_n K dX8_setKind_36 rfl ?_
      refine v_ic_ne K 43 dX8_setKind_37 (by decide) (fun c37 => ?_) (fun c37 => ?_)
      · refine v_aload_n K dX8_setKind_43 rfl ?_
        refine v_callVv K [0, 1, 2] (c_X8_remember (XI X) (XB X) _ _ _ _ _ _ _ _ _ _ _ _ _ _ _ ) rfl gX8_setKind_X8_remember rfl rfl hd_X8_remember ⟨rfl, rfl⟩ ⟨by decide, by decide⟩ 0 rfl hasF_c rfl (by decide) (Nat.le_of_ble_eq_true rfl) ⟨Nat.zero_le _, Nat.zero_le _⟩ rfl dX8_setKind_44 ?_
        refine v_aload_n K dX8_setKind_47 rfl ?_
        refine v_get K 0 rfl hasF_c rfl iX8 0 (by decide) rfl (by decide +kernel) rfl dX8_setKind_48 ?_
        refine v_iload_n K dX8_setKind_51 rfl ?_
        refine v_callSi K [] (c_X8_wordAt (XI X) (XB X) _ ) rfl gX8_setKind_X8_wordAt rfl rfl hd_X8_wordAt ⟨rfl, rfl⟩ ⟨by decide, by decide⟩ (by decide) (Nat.le_of_ble_eq_true rfl) ⟨Nat.zero_le _, Nat.zero_le _⟩ rfl dX8_setKind_52 ?_
        refine v_iload_n K dX8_setKind_55 rfl ?_
        refine v_fast K 1 rfl (290 + 14 * I) ?hx56_7 ?ix56_7 dX8_setKind_56 ?_
        case hx56_7 => exact rfl
        case ix56_7 => exact ⟨by omega, by decide⟩
        refine v_aload_n K dX8_setKind_57 rfl ?_
        refine v_iload_n K dX8_setKind_58 rfl ?_
        refine v_callV K [0, 2, 3] (c_X8_acted (XI X) (XB X) _ _ _ _ _ _ _ _ _ _ _ _ _ S _ _ _ ?hc59_0_8 ?hc59_1_8) rfl gX8_setKind_X8_acted rfl rfl hd_X8_acted ⟨rfl, rfl⟩ ⟨by decide, by decide⟩ 0 rfl hasF_c rfl (by decide) (Nat.le_of_ble_eq_true rfl) ⟨Nat.zero_le _, Nat.zero_le _⟩ rfl dX8_setKind_59 ?_
        case hc59_0_8 => exact hH
        case hc59_1_8 => exact allR_cp hA
        intro ov Mc1 hpo _
        obtain ⟨rfl, h2, hH2, rfl⟩ := hpo
        refine v_iret K E dX8_setKind_62 ?_ rfl
        exact acP_i (kdT_y hbt (by omega) hk02 c37) (allR_kind hA hI hk02) hH2
      · refine v_bipush K (-5) dX8_setKind_40 (by decide) ?_
        refine v_iret K E dX8_setKind_42 ?_ rfl
        exact acP_i (kdT_5 hbt (by omega) hk02 c37) hA hH
    · refine v_bipush K (-2) dX8_setKind_22 (by decide) ?_
      refine v_iret K E dX8_setKind_24 ?_ rfl
      exact acP_i (kdT_2 hbt (of_decide_eq_false (bI_0 c19))) hA hH
  · refine v_iconst K (-1) dX8_setKind_8 (by decide) ?_
    refine v_iret K E dX8_setKind_9 ?_ rfl
    exact acP_i (kdT_n (bI_0 c5)) hA hH

theorem hd_X8_restore : yX8_restore.cls = RX8 ∧ yX8_restore.cls ≠ "java/lang/invoke/MethodHandle" ∧ yX8_restore.cls ≠ "java/lang/invoke/VarHandle" ∧ (parseMethodDescriptor yX8_restore.desc).map (fun d => d.parameters.length) = some 0 := by decide +kernel
set_option maxHeartbeats 4000000 in
set_option maxRecDepth 100000 in
theorem c_X8_restore (cI cB : ClassId) (m : Nat → Nat) (sz sl ut ol tl sp tw tm mm rl : Int32) (S S2 : Bk) (b : Bool) (hs : List Bk) (f g h s : Nat → Int32) (hA : allR S f) (hH : histR hs h) (hS : b = true → allR S2 s) : Ct cI cB yX8_restore wsX8_restore { frames := 2, cells := 0, slots := 0, locals := 42 } [.ref (m 0)] [moM m (nI hs.length) (bI b) sz sl ut ol tl sp tw tm mm rl, arF cI (m 1) 570 f, arF cI (m 2) 570 g, arF cI (m 3) 2280 h, arF cI (m 4) 570 s] (rsP cI m (bI b) sz sl ut ol tl sp tw tm mm rl s (rsT S S2 b hs)) := by
  refine ct_of (cc := cX8_restore) (maxL := 1) (ret := (some .int)) (by decide) rfl (Nat.le_of_ble_eq_true rfl) [(0, .ref (m 0))] rfl ?_
  intro X hI hB K E
  subst hI
  subst hB
  have iX8 : ∀ w ∈ u_ws RX8 TX8 28, w ∈ wsX8_restore := by decide +kernel
  refine v_aload_n K dX8_restore_0 rfl ?_
  refine v_get K 0 rfl hasF_c rfl iX8 5 (by decide) rfl (by decide +kernel) rfl dX8_restore_1 ?_
  refine v_if_ne K 10 dX8_restore_4 (by decide) (fun c4 => ?_) (fun c4 => ?_)
  · have hbt := bI_1 c4
    have hA2 := hS hbt
    refine v_aload_n K dX8_restore_10 rfl ?_
    refine v_callVv K [0, 1, 2] (c_X8_remember (XI X) (XB X) _ _ _ _ _ _ _ _ _ _ _ _ _ _ _ ) rfl gX8_restore_X8_remember rfl rfl hd_X8_remember ⟨rfl, rfl⟩ ⟨by decide, by decide⟩ 0 rfl hasF_c rfl (by decide) (Nat.le_of_ble_eq_true rfl) ⟨Nat.zero_le _, Nat.zero_le _⟩ rfl dX8_restore_11 ?_
    refine v_aload_n K dX8_restore_14 rfl ?_
    refine v_get K 0 rfl hasF_c rfl iX8 4 (by decide) rfl (by decide +kernel) rfl dX8_restore_15 ?_
    refine v_aload_n K dX8_restore_18 rfl ?_
    refine v_get K 0 rfl hasF_c rfl iX8 0 (by decide) rfl (by decide +kernel) rfl dX8_restore_19 ?_
    refine v_callSv K [4, 1] (c_X8_copy (XI X) (XB X) _ _ _ _ ) rfl gX8_restore_X8_copy rfl rfl hd_X8_copy ⟨rfl, rfl⟩ ⟨by decide, by decide⟩ (by decide) (Nat.le_of_ble_eq_true rfl) ⟨Nat.zero_le _, Nat.zero_le _⟩ rfl dX8_restore_22 ?_
    refine v_aload_n K dX8_restore_25 rfl ?_
    refine v_aload_n K dX8_restore_26 rfl ?_
    refine v_get K 0 rfl hasF_c rfl iX8 0 (by decide) rfl (by decide +kernel) rfl dX8_restore_27 ?_
    refine v_iconst K (1) dX8_restore_30 (by decide) ?_
    refine v_fald K 1 rfl (1) ?hx31_3 ?ix31_3 dX8_restore_31 ?_
    case hx31_3 => exact rfl
    case ix31_3 => exact ⟨by decide, by decide⟩
    rw [cpK_in (by decide), hA2.2.2.1]
    refine v_callV K [0, 2, 3] (c_X8_acted (XI X) (XB X) _ _ _ _ _ _ _ _ _ _ _ _ _ S _ _ _ ?hc32_0_4 ?hc32_1_4) rfl gX8_restore_X8_acted rfl rfl hd_X8_acted ⟨rfl, rfl⟩ ⟨by decide, by decide⟩ 0 rfl hasF_c rfl (by decide) (Nat.le_of_ble_eq_true rfl) ⟨Nat.zero_le _, Nat.zero_le _⟩ rfl dX8_restore_32 ?_
    case hc32_0_4 => exact hH
    case hc32_1_4 => exact allR_cp hA
    intro ov Mc1 hpo _
    obtain ⟨rfl, h2, hH2, rfl⟩ := hpo
    refine v_iret K E dX8_restore_35 ?_ rfl
    exact rsP_i (if_pos hbt) (allR_cp hA2) hH2
  · refine v_bipush K (-5) dX8_restore_7 (by decide) ?_
    refine v_iret K E dX8_restore_9 ?_ rfl
    exact rsP_i (if_neg (by rw [bI_0 c4]; exact Bool.false_ne_true)) hA hH

theorem hd_X8_letterOf : yX8_letterOf.cls = RX8 ∧ yX8_letterOf.cls ≠ "java/lang/invoke/MethodHandle" ∧ yX8_letterOf.cls ≠ "java/lang/invoke/VarHandle" ∧ (parseMethodDescriptor yX8_letterOf.desc).map (fun d => d.parameters.length) = some 2 := by decide +kernel
set_option maxHeartbeats 4000000 in
set_option maxRecDepth 100000 in
theorem c_X8_letterOf (cI cB : ClassId) (m : Nat → Nat) (hl it sz sl ut ol tl sp tw tm mm rl : Int32) (S : Bk) (f : Nat → Int32) (i j : Int32) (hA : allR S f) : Ct cI cB yX8_letterOf wsX8_letterOf { frames := 2, cells := 0, slots := 0, locals := 46 } [.ref (m 0), .int i, .int j] [moM m hl it sz sl ut ol tl sp tw tm mm rl, arF cI (m 1) 570 f] (dv (vLetter S i j) [moM m hl it sz sl ut ol tl sp tw tm mm rl, arF cI (m 1) 570 f]) := by
  refine ct_of (cc := cX8_letterOf) (maxL := 3) (ret := (some .int)) (by decide) rfl (Nat.le_of_ble_eq_true rfl) [(0, .ref (m 0)), (1, .int i), (2, .int j)] rfl ?_
  intro X hI hB K E
  subst hI
  subst hB
  have iX8 : ∀ w ∈ u_ws RX8 TX8 28, w ∈ wsX8_letterOf := by decide +kernel
  refine v_aload_n K dX8_letterOf_0 rfl ?_
  refine v_iload_n K dX8_letterOf_1 rfl ?_
  refine v_callVi K [0, 1] (c_X8_isRule (XI X) (XB X) _ _ _ _ _ _ _ _ _ _ _ _ _ S _ _ ?hc2_0_1) rfl gX8_letterOf_X8_isRule rfl rfl hd_X8_isRule ⟨rfl, rfl⟩ ⟨by decide, by decide⟩ 0 rfl hasF_c rfl (by decide) (Nat.le_of_ble_eq_true rfl) ⟨Nat.zero_le _, Nat.zero_le _⟩ rfl dX8_letterOf_2 ?_
  case hc2_0_1 => exact hA
  refine v_if_ne K 10 dX8_letterOf_5 (by decide) (fun c5 => ?_) (fun c5 => ?_)
  · have hbt := bI_1 c5
    have hb1 := hA.1.1
    refine v_iload_n K dX8_letterOf_10 rfl ?_
    refine v_if_ge K 17 dX8_letterOf_11 (by decide) (fun c11 => ?_) (fun c11 => ?_)
    · obtain ⟨I, hI, rfl⟩ := hasL_of (L := S.1) (by omega) hbt
      have hAr := hA.2.2.2.1 I hI
      have hw := hA.1.2.2.2.2.2.2.1 I hI
      have h30 := hA.1.1
      have hn : (S.1.getD I []).length = (nthR S I).length := rfl
      refine v_iload_n K dX8_letterOf_17 rfl ?_
      refine v_aload_n K dX8_letterOf_18 rfl ?_
      refine v_get K 0 rfl hasF_c rfl iX8 0 (by decide) rfl (by decide +kernel) rfl dX8_letterOf_19 ?_
      refine v_iload_n K dX8_letterOf_22 rfl ?_
      refine v_callSi K [] (c_X8_ruleAt (XI X) (XB X) _ ) rfl gX8_letterOf_X8_ruleAt rfl rfl hd_X8_ruleAt ⟨rfl, rfl⟩ ⟨by decide, by decide⟩ (by decide) (Nat.le_of_ble_eq_true rfl) ⟨Nat.zero_le _, Nat.zero_le _⟩ rfl dX8_letterOf_23 ?_
      refine v_fald K 1 rfl (2 + 7 * I) ?hx26_3 ?ix26_3 dX8_letterOf_26 ?_
      case hx26_3 => exact rfl
      case ix26_3 => exact ⟨by omega, by decide⟩
      rw [hAr.1]
      refine v_ic_ge K 46 dX8_letterOf_27 (by decide) (fun c27 => ?_) (fun c27 => ?_)
      · refine v_bipush K (-5) dX8_letterOf_46 (by decide) ?_
        refine v_iret K E dX8_letterOf_48 ?_ rfl
        exact ⟨by rw [vLet_g hbt c11, gg_o (by omega) (by rw [hn]; omega) c27] <;> rfl, rfl⟩
      · obtain ⟨J, hJ, rfl⟩ := vRes_in c11 (by omega) c27
        refine v_aload_n K dX8_letterOf_30 rfl ?_
        refine v_get K 0 rfl hasF_c rfl iX8 0 (by decide) rfl (by decide +kernel) rfl dX8_letterOf_31 ?_
        refine v_iload_n K dX8_letterOf_34 rfl ?_
        refine v_callSi K [] (c_X8_ruleAt (XI X) (XB X) _ ) rfl gX8_letterOf_X8_ruleAt rfl rfl hd_X8_ruleAt ⟨rfl, rfl⟩ ⟨by decide, by decide⟩ (by decide) (Nat.le_of_ble_eq_true rfl) ⟨Nat.zero_le _, Nat.zero_le _⟩ rfl dX8_letterOf_35 ?_
        refine v_iconst K (1) dX8_letterOf_38 (by decide) ?_
        refine v_iadd K dX8_letterOf_39 ?_
        refine v_iload_n K dX8_letterOf_40 rfl ?_
        refine v_iadd K dX8_letterOf_41 ?_
        refine v_fald K 1 rfl (2 + 7 * I + 1 + J) ?hx42_5 ?ix42_5 dX8_letterOf_42 ?_
        case hx42_5 => rw [nI_1, nI_add]
        case ix42_5 => exact ⟨by omega, by decide⟩
        rw [hAr.2.1 J hJ]
        refine v_goto K 48 dX8_letterOf_43 (by decide) ?_
        refine v_iret K E dX8_letterOf_48 ?_ rfl
        exact ⟨by rw [vLet_g hbt c11, gg_i (by omega) (by omega)] <;> rfl, rfl⟩
    · refine v_bipush K (-2) dX8_letterOf_14 (by decide) ?_
      refine v_iret K E dX8_letterOf_16 ?_ rfl
      exact ⟨by rw [vLet_2 hbt c11] <;> rfl, rfl⟩
  · refine v_iconst K (-1) dX8_letterOf_8 (by decide) ?_
    refine v_iret K E dX8_letterOf_9 ?_ rfl
    exact ⟨by rw [vLet_n (bI_0 c5)] <;> rfl, rfl⟩

theorem hd_X8_sign : yX8_sign.cls = RX8 ∧ yX8_sign.cls ≠ "java/lang/invoke/MethodHandle" ∧ yX8_sign.cls ≠ "java/lang/invoke/VarHandle" ∧ (parseMethodDescriptor yX8_sign.desc).map (fun d => d.parameters.length) = some 2 := by decide +kernel
set_option maxHeartbeats 4000000 in
set_option maxRecDepth 100000 in
theorem c_X8_sign (cI cB : ClassId) (m : Nat → Nat) (hl it sz sl ut ol tl sp tw tm mm rl : Int32) (S : Bk) (f : Nat → Int32) (c j : Int32) (hA : allR S f) : Ct cI cB yX8_sign wsX8_sign { frames := 1, cells := 0, slots := 0, locals := 25 } [.ref (m 0), .int c, .int j] [moM m hl it sz sl ut ol tl sp tw tm mm rl, arF cI (m 1) 570 f] (dv (vSign S c j) [moM m hl it sz sl ut ol tl sp tw tm mm rl, arF cI (m 1) 570 f]) := by
  refine ct_of (cc := cX8_sign) (maxL := 4) (ret := (some .int)) (by decide) rfl (Nat.le_of_ble_eq_true rfl) [(0, .ref (m 0)), (1, .int c), (2, .int j)] rfl ?_
  intro X hI hB K E
  subst hI
  subst hB
  have iX8 : ∀ w ∈ u_ws RX8 TX8 28, w ∈ wsX8_sign := by decide +kernel
  refine v_iload_n K dX8_sign_0 rfl ?_
  refine v_i2l K dX8_sign_1 ?_
  refine v_ldc2 K (65) (by decide +kernel) dX8_sign_2 ?_
  refine v_ldc2 K (90) (by decide +kernel) dX8_sign_5 ?_
  refine v_callSi K [] (c_X8_in (XI X) (XB X) _ _ _ ) rfl gX8_sign_X8_in rfl rfl hd_X8_in ⟨rfl, rfl⟩ ⟨by decide, by decide⟩ (by decide) (Nat.le_of_ble_eq_true rfl) ⟨Nat.zero_le _, Nat.zero_le _⟩ rfl dX8_sign_8 ?_
  rw [in65]
  refine v_if_ne K 16 dX8_sign_11 (by decide) (fun c11 => ?_) (fun c11 => ?_)
  · have hbt := bI_1 c11
    refine v_iload_n K dX8_sign_16 rfl ?_
    refine v_i2l K dX8_sign_17 ?_
    refine v_lconst K (0) dX8_sign_18 (by decide) ?_
    refine v_lconst K (1) dX8_sign_19 (by decide) ?_
    refine v_callSi K [] (c_X8_in (XI X) (XB X) _ _ _ ) rfl gX8_sign_X8_in rfl rfl hd_X8_in ⟨rfl, rfl⟩ ⟨by decide, by decide⟩ (by decide) (Nat.le_of_ble_eq_true rfl) ⟨Nat.zero_le _, Nat.zero_le _⟩ rfl dX8_sign_20 ?_
    rw [in01]
    refine v_if_ne K 29 dX8_sign_23 (by decide) (fun c23 => ?_) (fun c23 => ?_)
    · have hk01 := of_decide_eq_true (bI_1 c23)
      obtain ⟨s, hs, hc1, hc2⟩ := cpt_n (of_decide_eq_true hbt)
      have hAs := hA.2.2.2.2.1 s hs
      have hws := hA.1.2.2.2.2.2.2.2.1 s hs
      have hn : (S.2.2.2.1.getD s []).length = (nthS S s).length := rfl
      refine v_sipush K (212) dX8_sign_29 (by decide) ?_
      refine v_iconst K (3) dX8_sign_32 (by decide) ?_
      refine v_iload_n K dX8_sign_33 rfl ?_
      refine v_bipush K (65) dX8_sign_34 (by decide) ?_
      refine v_isub K dX8_sign_36 ?_
      refine v_imul K dX8_sign_37 ?_
      rw [hc2, show (3 : Int32) * nI s = nI (3 * s) from pk_mul 3 s]
      refine v_iadd K dX8_sign_38 ?_
      rw [show (212 : Int32) + nI (3 * s) = nI (212 + 3 * s) from nI_add 212 _]
      refine v_istore_n K dX8_sign_39 (by decide) ?_
      refine v_iload_n K dX8_sign_40 rfl ?_
      refine v_aload_n K dX8_sign_41 rfl ?_
      refine v_get K 0 rfl hasF_c rfl iX8 0 (by decide) rfl (by decide +kernel) rfl dX8_sign_42 ?_
      refine v_iload_n K dX8_sign_45 rfl ?_
      refine v_fald K 1 rfl (212 + 3 * s) ?hx46_3 ?ix46_3 dX8_sign_46 ?_
      case hx46_3 => exact rfl
      case ix46_3 => exact ⟨by omega, by decide⟩
      rw [hAs.1]
      refine v_ic_ge K 63 dX8_sign_47 (by decide) (fun c47 => ?_) (fun c47 => ?_)
      · refine v_bipush K (-5) dX8_sign_63 (by decide) ?_
        refine v_iret K E dX8_sign_65 ?_ rfl
        exact ⟨by rw [vSg_g hbt hk01, hc2, gg_o (by omega) (by rw [hn]; omega) c47] <;> rfl, rfl⟩
      · obtain ⟨J, hJ, rfl⟩ := vRes_in hk01.1 (by omega) c47
        refine v_aload_n K dX8_sign_50 rfl ?_
        refine v_get K 0 rfl hasF_c rfl iX8 0 (by decide) rfl (by decide +kernel) rfl dX8_sign_51 ?_
        refine v_iload_n K dX8_sign_54 rfl ?_
        refine v_iconst K (1) dX8_sign_55 (by decide) ?_
        refine v_iadd K dX8_sign_56 ?_
        refine v_iload_n K dX8_sign_57 rfl ?_
        refine v_iadd K dX8_sign_58 ?_
        refine v_fald K 1 rfl (212 + 3 * s + 1 + J) ?hx59_4 ?ix59_4 dX8_sign_59 ?_
        case hx59_4 => rw [nI_1, nI_add]
        case ix59_4 => exact ⟨by omega, by decide⟩
        rw [hAs.2 J hJ]
        refine v_goto K 65 dX8_sign_60 (by decide) ?_
        refine v_iret K E dX8_sign_65 ?_ rfl
        exact ⟨by rw [vSg_g hbt hk01, hc2, gg_i (by omega) (by omega)] <;> rfl, rfl⟩
    · refine v_bipush K (-2) dX8_sign_26 (by decide) ?_
      refine v_iret K E dX8_sign_28 ?_ rfl
      exact ⟨by rw [vSg_2 hbt (of_decide_eq_false (bI_0 c23))] <;> rfl, rfl⟩
  · refine v_iconst K (-1) dX8_sign_14 (by decide) ?_
    refine v_iret K E dX8_sign_15 ?_ rfl
    exact ⟨by rw [vSg_n (bI_0 c11)] <;> rfl, rfl⟩
