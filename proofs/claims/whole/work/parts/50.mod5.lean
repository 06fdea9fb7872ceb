theorem hd_X8_copy : yX8_copy.cls ≠ "java/lang/invoke/MethodHandle" ∧ yX8_copy.cls ≠ "java/lang/invoke/VarHandle" ∧ (parseMethodDescriptor yX8_copy.desc).map (fun d => d.parameters.length) = some 2 := by decide +kernel
set_option maxHeartbeats 4000000 in
set_option maxRecDepth 100000 in
theorem c_X8_copy (cI cB : ClassId) (a b : Nat) (f g : Nat → Int32)  : Ct cI cB yX8_copy wsX8_copy { frames := 0, cells := 0, slots := 0, locals := 0 } [.ref a, .ref b] [arF cI a 570 f, arF cI b 570 g] (dn [arF cI a 570 f, arF cI b 570 (cpK f g 570)]) := by
  refine ct_of (cc := cX8_copy) (maxL := 3) (ret := none) (by decide) rfl (Nat.le_of_ble_eq_true rfl) [(0, .ref a), (1, .ref b)] rfl ?_
  intro X hI hB K E
  subst hI
  subst hB
  have lp : ∀ k, k ≤ 570 → ∀ (x : Int32), x = nI k → V X 0 0 2 [(0, .ref a), (1, .ref b), (2, .int x)] [] [arF (XI X) a 570 f, arF (XI X) b 570 (cpK f g k)] := by
    refine loop_up (570) ?_
    intro k hk ih x hx
    subst hx
    refine v_iload_n K dX8_copy_2 rfl ?_
    refine v_sipush K (570) dX8_copy_3 (by decide) ?_
    refine v_ic_ge K 21 dX8_copy_6 (by decide) (fun c6 => ?_) (fun c6 => ?_)
    · refine v_ret K E dX8_copy_21 ?_ rfl
      have he := up_end (N := 570) rfl (by omega) hk c6
      exact ⟨rfl, by rw [he] <;> rfl⟩
    · have hlt := up_lt (N := 570) rfl (by omega) hk c6
      refine v_aload_n K dX8_copy_9 rfl ?_
      refine v_iload_n K dX8_copy_10 rfl ?_
      refine v_aload_n K dX8_copy_11 rfl ?_
      refine v_iload_n K dX8_copy_12 rfl ?_
      refine v_fald K 0 rfl (k) ?hx13_1 ?ix13_1 dX8_copy_13 ?_
      case hx13_1 => exact rfl
      case ix13_1 => exact ⟨by omega, by decide⟩
      refine v_fast K 1 rfl (k) ?hx14_2 ?ix14_2 dX8_copy_14 ?_
      case hx14_2 => exact rfl
      case ix14_2 => exact ⟨by omega, by decide⟩
      refine v_iinc K dX8_copy_15 rfl (by decide) iinc_1 ?_
      refine v_goto K 2 dX8_copy_18 (by decide) ?_
      exact v_j (ih hlt _ (nI_1 k)) rfl rfl (by rw [cpK_s] <;> rfl)
  refine v_iconst K (0) dX8_copy_0 (by decide) ?_
  refine v_istore_n K dX8_copy_1 (by decide) ?_
  exact v_j (lp 0 (Nat.zero_le _) 0 rfl) rfl rfl (by rw [cpK_0] <;> rfl)

theorem hd_X8_remember : yX8_remember.cls = RX8 ∧ yX8_remember.cls ≠ "java/lang/invoke/MethodHandle" ∧ yX8_remember.cls ≠ "java/lang/invoke/VarHandle" ∧ (parseMethodDescriptor yX8_remember.desc).map (fun d => d.parameters.length) = some 0 := by decide +kernel
set_option maxHeartbeats 4000000 in
set_option maxRecDepth 100000 in
theorem c_X8_remember (cI cB : ClassId) (m : Nat → Nat) (hl it sz sl ut ol tl sp tw tm mm rl : Int32) (f g : Nat → Int32)  : Ct cI cB yX8_remember wsX8_remember { frames := 1, cells := 0, slots := 0, locals := 22 } [.ref (m 0)] [moM m hl it sz sl ut ol tl sp tw tm mm rl, arF cI (m 1) 570 f, arF cI (m 2) 570 g] (dn [moM m hl it sz sl ut ol tl sp tw tm mm rl, arF cI (m 1) 570 f, arF cI (m 2) 570 (cpK f g 570)]) := by
  refine ct_of (cc := cX8_remember) (maxL := 1) (ret := none) (by decide) rfl (Nat.le_of_ble_eq_true rfl) [(0, .ref (m 0))] rfl ?_
  intro X hI hB K E
  subst hI
  subst hB
  have iX8 : ∀ w ∈ u_ws RX8 TX8 28, w ∈ wsX8_remember := by decide +kernel
  refine v_aload_n K dX8_remember_0 rfl ?_
  refine v_get K 0 rfl hasF_c rfl iX8 0 (by decide) rfl (by decide +kernel) rfl dX8_remember_1 ?_
  refine v_aload_n K dX8_remember_4 rfl ?_
  refine v_get K 0 rfl hasF_c rfl iX8 1 (by decide) rfl (by decide +kernel) rfl dX8_remember_5 ?_
  refine v_callSv K [1, 2] (c_X8_copy (XI X) (XB X) _ _ _ _ ) rfl gX8_remember_X8_copy rfl rfl hd_X8_copy ⟨rfl, rfl⟩ ⟨by decide, by decide⟩ (by decide) (Nat.le_of_ble_eq_true rfl) ⟨Nat.zero_le _, Nat.zero_le _⟩ rfl dX8_remember_8 ?_
  refine v_ret K E dX8_remember_11 ?_ rfl
  exact ⟨rfl, rfl⟩

theorem hd_X8_refused : yX8_refused.cls = RX8 ∧ yX8_refused.cls ≠ "java/lang/invoke/MethodHandle" ∧ yX8_refused.cls ≠ "java/lang/invoke/VarHandle" ∧ (parseMethodDescriptor yX8_refused.desc).map (fun d => d.parameters.length) = some 1 := by decide +kernel
set_option maxHeartbeats 4000000 in
set_option maxRecDepth 100000 in
theorem c_X8_refused (cI cB : ClassId) (m : Nat → Nat) (hl it sz sl ut ol tl sp tw tm mm rl : Int32) (f g : Nat → Int32) (e : Int32)  : Ct cI cB yX8_refused wsX8_refused { frames := 1, cells := 0, slots := 0, locals := 22 } [.ref (m 0), .int e] [moM m hl it sz sl ut ol tl sp tw tm mm rl, arF cI (m 1) 570 f, arF cI (m 2) 570 g] (dv e [moM m hl it sz sl ut ol tl sp tw tm mm rl, arF cI (m 1) 570 (cpK g f 570), arF cI (m 2) 570 g]) := by
  refine ct_of (cc := cX8_refused) (maxL := 2) (ret := (some .int)) (by decide) rfl (Nat.le_of_ble_eq_true rfl) [(0, .ref (m 0)), (1, .int e)] rfl ?_
  intro X hI hB K E
  subst hI
  subst hB
  have iX8 : ∀ w ∈ u_ws RX8 TX8 28, w ∈ wsX8_refused := by decide +kernel
  refine v_aload_n K dX8_refused_0 rfl ?_
  refine v_get K 0 rfl hasF_c rfl iX8 1 (by decide) rfl (by decide +kernel) rfl dX8_refused_1 ?_
  refine v_aload_n K dX8_refused_4 rfl ?_
  refine v_get K 0 rfl hasF_c rfl iX8 0 (by decide) rfl (by decide +kernel) rfl dX8_refused_5 ?_
  refine v_callSv K [2, 1] (c_X8_copy (XI X) (XB X) _ _ _ _ ) rfl gX8_refused_X8_copy rfl rfl hd_X8_copy ⟨rfl, rfl⟩ ⟨by decide, by decide⟩ (by decide) (Nat.le_of_ble_eq_true rfl) ⟨Nat.zero_le _, Nat.zero_le _⟩ rfl dX8_refused_8 ?_
  refine v_iload_n K dX8_refused_11 rfl ?_
  refine v_iret K E dX8_refused_12 ?_ rfl
  exact ⟨rfl, rfl⟩

theorem hd_X8_acted : yX8_acted.cls = RX8 ∧ yX8_acted.cls ≠ "java/lang/invoke/MethodHandle" ∧ yX8_acted.cls ≠ "java/lang/invoke/VarHandle" ∧ (parseMethodDescriptor yX8_acted.desc).map (fun d => d.parameters.length) = some 1 := by decide +kernel
set_option maxHeartbeats 4000000 in
set_option maxRecDepth 100000 in
theorem c_X8_acted (cI cB : ClassId) (m : Nat → Nat) (it sz sl ut ol tl sp tw tm mm rl : Int32) (hs : List Bk) (So : Bk) (kp h : Nat → Int32) (r : Int32) (hH : histR hs h) (hK : allR So kp) : Ct cI cB yX8_acted wsX8_acted { frames := 0, cells := 0, slots := 0, locals := 0 } [.ref (m 0), .int r] [moM m (nI hs.length) it sz sl ut ol tl sp tw tm mm rl, arF cI (m 2) 570 kp, arF cI (m 3) 2280 h] (fun ov M => ov = some (.int r) ∧ ∃ h2, histR (rec4 hs So) h2 ∧ M = [moM m (nI (rec4 hs So).length) it sz sl ut ol tl sp tw tm mm rl, arF cI (m 2) 570 kp, arF cI (m 3) 2280 h2]) := by
  refine ct_of (cc := cX8_acted) (maxL := 3) (ret := (some .int)) (by decide) rfl (Nat.le_of_ble_eq_true rfl) [(0, .ref (m 0)), (1, .int r)] rfl ?_
  intro X hI hB K E
  subst hI
  subst hB
  have iX8 : ∀ w ∈ u_ws RX8 TX8 28, w ∈ wsX8_acted := by decide +kernel
  have lp : ∀ (hs1 : List Bk) (h1 : Nat → Int32), hs1.length < 4 → histR hs1 h1 → rec4 hs So = hs1 ++ [So] → ∀ k, k ≤ 570 → ∀ (x : Int32), x = nI k → V X 0 0 51 [(0, .ref (m 0)), (1, .int r), (2, .int x)] [] [moM m (nI hs1.length) it sz sl ut ol tl sp tw tm mm rl, arF (XI X) (m 2) 570 kp, arF (XI X) (m 3) 2280 (plK kp h1 hs1.length k)] := by
    intro hs1 h1 hl1 hH1 hre
    refine loop_up 570 ?_
    intro k hk ih x hx
    subst hx
    refine v_iload_n K dX8_acted_51 rfl ?_
    refine v_sipush K (570) dX8_acted_52 (by decide) ?_
    refine v_ic_ge K 85 dX8_acted_55 (by decide) (fun c55 => ?_) (fun c55 => ?_)
    · refine v_aload_n K dX8_acted_85 rfl ?_
      refine v_dup K dX8_acted_86 rfl ?_
      refine v_get K 0 rfl hasF_c rfl iX8 3 (by decide) rfl (by decide +kernel) rfl dX8_acted_87 ?_
      refine v_iconst K (1) dX8_acted_90 (by decide) ?_
      refine v_iadd K dX8_acted_91 ?_
      refine v_put K 0 rfl rfl iX8 tyX8 tyX8_ok nmX8 3 (by decide) rfl (by decide +kernel) rfl rfl (Nat.le_of_ble_eq_true rfl) dX8_acted_92 ?_
      refine v_iload_n K dX8_acted_95 rfl ?_
      refine v_iret K E dX8_acted_96 ?_ rfl
      have he := up_end (N := 570) rfl (by omega) hk c55
      exact ⟨rfl, plK kp h1 hs1.length 570, by rw [hre]; exact hist_add hl1 hH1 hK, by rw [he, hre, len1b] <;> rfl⟩
    · have hlt := up_lt (N := 570) rfl (by omega) hk c55
      refine v_aload_n K dX8_acted_58 rfl ?_
      refine v_get K 0 rfl hasF_c rfl iX8 2 (by decide) rfl (by decide +kernel) rfl dX8_acted_59 ?_
      refine v_sipush K (570) dX8_acted_62 (by decide) ?_
      refine v_aload_n K dX8_acted_65 rfl ?_
      refine v_get K 0 rfl hasF_c rfl iX8 3 (by decide) rfl (by decide +kernel) rfl dX8_acted_66 ?_
      refine v_imul K dX8_acted_69 ?_
      refine v_iload_n K dX8_acted_70 rfl ?_
      refine v_iadd K dX8_acted_71 ?_
      refine v_aload_n K dX8_acted_72 rfl ?_
      refine v_get K 0 rfl hasF_c rfl iX8 1 (by decide) rfl (by decide +kernel) rfl dX8_acted_73 ?_
      refine v_iload_n K dX8_acted_76 rfl ?_
      refine v_fald K 1 rfl (k) ?hx77_1 ?ix77_1 dX8_acted_77 ?_
      case hx77_1 => exact rfl
      case ix77_1 => exact ⟨by omega, by decide⟩
      refine v_fast K 2 rfl (570 * hs1.length + k) ?hx78_2 ?ix78_2 dX8_acted_78 ?_
      case hx78_2 => rw [show (570 : Int32) * nI hs1.length = nI (570 * hs1.length) from pk_mul 570 _, nI_add]
      case ix78_2 => exact ⟨by omega, by decide⟩
      refine v_iinc K dX8_acted_79 rfl (by decide) iinc_1 ?_
      refine v_goto K 51 dX8_acted_82 (by decide) ?_
      exact v_j (ih hlt _ (nI_1 k)) rfl rfl (by rw [plK_s] <;> rfl)
  refine v_aload_n K dX8_acted_0 rfl ?_
  refine v_get K 0 rfl hasF_c rfl iX8 3 (by decide) rfl (by decide +kernel) rfl dX8_acted_1 ?_
  refine v_iconst K (4) dX8_acted_4 (by decide) ?_
  refine v_ic_ne K 49 dX8_acted_5 (by decide) (fun c5 => ?_) (fun c5 => ?_)
  · refine v_iconst K (0) dX8_acted_49 (by decide) ?_
    refine v_istore_n K dX8_acted_50 (by decide) ?_
    have h4 : hs.length < 4 := by have h1 : hs.length ≠ 4 := fun z => c5 (by rw [z] <;> rfl); have := hH.1; omega
    exact v_j (lp hs h h4 hH (rec4_n h4) 0 (Nat.zero_le _) 0 rfl) rfl rfl (by rw [plK_0] <;> rfl)
  · refine v_iconst K (0) dX8_acted_8 (by decide) ?_
    refine v_istore_n K dX8_acted_9 (by decide) ?_
    have h4 : hs.length = 4 := (nI_eq (b := 4) (by have := hH.1; omega) (by decide)).mp c5
    have lq : ∀ k, k ≤ 1710 → ∀ (x : Int32), x = nI k → V X 0 0 10 [(0, .ref (m 0)), (1, .int r), (2, .int x)] [] [moM m (nI hs.length) it sz sl ut ol tl sp tw tm mm rl, arF (XI X) (m 2) 570 kp, arF (XI X) (m 3) 2280 (shK h k)] := by
      refine loop_up 1710 ?_
      intro k hk ih x hx
      subst hx
      refine v_iload_n K dX8_acted_10 rfl ?_
      refine v_sipush K (1710) dX8_acted_11 (by decide) ?_
      refine v_ic_ge K 39 dX8_acted_14 (by decide) (fun c14 => ?_) (fun c14 => ?_)
      · refine v_aload_n K dX8_acted_39 rfl ?_
        refine v_dup K dX8_acted_40 rfl ?_
        refine v_get K 0 rfl hasF_c rfl iX8 3 (by decide) rfl (by decide +kernel) rfl dX8_acted_41 ?_
        refine v_iconst K (1) dX8_acted_44 (by decide) ?_
        refine v_isub K dX8_acted_45 ?_
        refine v_put K 0 rfl rfl iX8 tyX8 tyX8_ok nmX8 3 (by decide) rfl (by decide +kernel) rfl rfl (Nat.le_of_ble_eq_true rfl) dX8_acted_46 ?_
        refine v_iconst K (0) dX8_acted_49 (by decide) ?_
        refine v_istore_n K dX8_acted_50 (by decide) ?_
        have he := up_end (N := 1710) rfl (by omega) hk c14
        have hd3 : (hs.drop 1).length = 3 := by rw [List.length_drop]; omega
        exact v_j (lp (hs.drop 1) (shK h 1710) (by omega) (hist_sh h4 hH) (rec4_4 h4) 0 (Nat.zero_le _) 0 rfl) rfl rfl (by rw [he, plK_0, hd3, h4] <;> rfl)
      · have hlt := up_lt (N := 1710) rfl (by omega) hk c14
        refine v_aload_n K dX8_acted_17 rfl ?_
        refine v_get K 0 rfl hasF_c rfl iX8 2 (by decide) rfl (by decide +kernel) rfl dX8_acted_18 ?_
        refine v_iload_n K dX8_acted_21 rfl ?_
        refine v_aload_n K dX8_acted_22 rfl ?_
        refine v_get K 0 rfl hasF_c rfl iX8 2 (by decide) rfl (by decide +kernel) rfl dX8_acted_23 ?_
        refine v_iload_n K dX8_acted_26 rfl ?_
        refine v_sipush K (570) dX8_acted_27 (by decide) ?_
        refine v_iadd K dX8_acted_30 ?_
        refine v_fald K 2 rfl (k + 570) ?hx31_3 ?ix31_3 dX8_acted_31 ?_
        case hx31_3 => exact nI_add k 570
        case ix31_3 => exact ⟨by omega, by decide⟩
        refine v_fast K 2 rfl (k) ?hx32_4 ?ix32_4 dX8_acted_32 ?_
        case hx32_4 => exact rfl
        case ix32_4 => exact ⟨by omega, by decide⟩
        refine v_iinc K dX8_acted_33 rfl (by decide) iinc_1 ?_
        refine v_goto K 10 dX8_acted_36 (by decide) ?_
        exact v_j (ih hlt _ (nI_1 k)) rfl rfl (by rw [shK_s] <;> rfl)
    exact v_j (lq 0 (Nat.zero_le _) 0 rfl) rfl rfl (by rw [shK_0] <;> rfl)

theorem hd_X8_type : yX8_type.cls = RX8 ∧ yX8_type.cls ≠ "java/lang/invoke/MethodHandle" ∧ yX8_type.cls ≠ "java/lang/invoke/VarHandle" ∧ (parseMethodDescriptor yX8_type.desc).map (fun d => d.parameters.length) = some 1 := by decide +kernel
set_option maxHeartbeats 4000000 in
set_option maxRecDepth 100000 in
theorem c_X8_type (cI cB : ClassId) (m : Nat → Nat) (hl it sz sl ut ol sp tw tm mm rl : Int32) (ts : List Int32) (c : Int32)  : Ct cI cB yX8_type wsX8_type { frames := 0, cells := 0, slots := 0, locals := 0 } [.ref (m 0), .int c] [moM m hl it sz sl ut ol (nI ts.length) sp tw tm mm rl, arL cI (m 12) 60 ts] (dv (tyT ts c).1 [moM m hl it sz sl ut ol (nI (tyT ts c).2.length) sp tw tm mm rl, arL cI (m 12) 60 (tyT ts c).2]) := by
  refine ct_of (cc := cX8_type) (maxL := 2) (ret := (some .int)) (by decide) rfl (Nat.le_of_ble_eq_true rfl) [(0, .ref (m 0)), (1, .int c)] rfl ?_
  intro X hI hB K E
  subst hI
  subst hB
  have iX8 : ∀ w ∈ u_ws RX8 TX8 28, w ∈ wsX8_type := by decide +kernel
  refine v_arlen 1 rfl (fun hX => ?_)
  refine v_aload_n K dX8_type_0 rfl ?_
  refine v_get K 0 rfl hasF_c rfl iX8 18 (by decide) rfl (by decide +kernel) rfl dX8_type_1 ?_
  refine v_bipush K (60) dX8_type_4 (by decide) ?_
  refine v_ic_ne K 12 dX8_type_6 (by decide) (fun c6 => ?_) (fun c6 => ?_)
  · have hlt : ts.length < 60 := by have h1 : ts.length ≠ 60 := fun z => c6 (by rw [z] <;> rfl); omega
    refine v_aload_n K dX8_type_12 rfl ?_
    refine v_get K 0 rfl hasF_c rfl iX8 17 (by decide) rfl (by decide +kernel) rfl dX8_type_13 ?_
    refine v_aload_n K dX8_type_16 rfl ?_
    refine v_get K 0 rfl hasF_c rfl iX8 18 (by decide) rfl (by decide +kernel) rfl dX8_type_17 ?_
    refine v_iload_n K dX8_type_20 rfl ?_
    refine v_last K 1 rfl ?hx21_1 ?ix21_1 dX8_type_21 ?_
    case hx21_1 => exact rfl
    case ix21_1 => exact hlt
    refine v_aload_n K dX8_type_22 rfl ?_
    refine v_dup K dX8_type_23 rfl ?_
    refine v_get K 0 rfl hasF_c rfl iX8 18 (by decide) rfl (by decide +kernel) rfl dX8_type_24 ?_
    refine v_iconst K (1) dX8_type_27 (by decide) ?_
    refine v_iadd K dX8_type_28 ?_
    refine v_put K 0 rfl rfl iX8 tyX8 tyX8_ok nmX8 18 (by decide) rfl (by decide +kernel) rfl rfl (Nat.le_of_ble_eq_true rfl) dX8_type_29 ?_
    refine v_aload_n K dX8_type_32 rfl ?_
    refine v_get K 0 rfl hasF_c rfl iX8 18 (by decide) rfl (by decide +kernel) rfl dX8_type_33 ?_
    refine v_iret K E dX8_type_36 ?_ rfl
    exact ⟨by rw [tyT_n hlt] <;> rfl, by rw [tyT_n hlt, len1] <;> rfl⟩
  · have hF := tyT_f (c := c) (ts := ts) (by have := (nI_eq (b := 60) (by omega) (by decide)).mp c6; omega)
    refine v_bipush K (-3) dX8_type_9 (by decide) ?_
    refine v_iret K E dX8_type_11 ?_ rfl
    exact ⟨by rw [hF] <;> rfl, by rw [hF] <;> rfl⟩

theorem hd_X8_clearText : yX8_clearText.cls = RX8 ∧ yX8_clearText.cls ≠ "java/lang/invoke/MethodHandle" ∧ yX8_clearText.cls ≠ "java/lang/invoke/VarHandle" ∧ (parseMethodDescriptor yX8_clearText.desc).map (fun d => d.parameters.length) = some 0 := by decide +kernel
set_option maxHeartbeats 4000000 in
set_option maxRecDepth 100000 in
theorem c_X8_clearText (cI cB : ClassId) (m : Nat → Nat) (hl it sz sl ut ol sp tw tm mm rl : Int32) (ts : List Int32)  : Ct cI cB yX8_clearText wsX8_clearText { frames := 0, cells := 0, slots := 0, locals := 0 } [.ref (m 0)] [moM m hl it sz sl ut ol (nI ts.length) sp tw tm mm rl, arL cI (m 12) 60 ts] (dv (nI ts.length) [moM m hl it sz sl ut ol (nI ([] : List Int32).length) sp tw tm mm rl, arL cI (m 12) 60 []]) := by
  refine ct_of (cc := cX8_clearText) (maxL := 2) (ret := (some .int)) (by decide) rfl (Nat.le_of_ble_eq_true rfl) [(0, .ref (m 0))] rfl ?_
  intro X hI hB K E
  subst hI
  subst hB
  have iX8 : ∀ w ∈ u_ws RX8 TX8 28, w ∈ wsX8_clearText := by decide +kernel
  refine v_ltk 1 0 rfl ?_
  rw [List.take_zero]
  refine v_aload_n K dX8_clearText_0 rfl ?_
  refine v_get K 0 rfl hasF_c rfl iX8 18 (by decide) rfl (by decide +kernel) rfl dX8_clearText_1 ?_
  refine v_istore_n K dX8_clearText_4 (by decide) ?_
  refine v_aload_n K dX8_clearText_5 rfl ?_
  refine v_iconst K (0) dX8_clearText_6 (by decide) ?_
  refine v_put K 0 rfl rfl iX8 tyX8 tyX8_ok nmX8 18 (by decide) rfl (by decide +kernel) rfl rfl (Nat.le_of_ble_eq_true rfl) dX8_clearText_7 ?_
  refine v_iload_n K dX8_clearText_10 rfl ?_
  refine v_iret K E dX8_clearText_11 ?_ rfl
  exact ⟨rfl, rfl⟩

theorem hd_X8_isHere : yX8_isHere.cls = RX8 ∧ yX8_isHere.cls ≠ "java/lang/invoke/MethodHandle" ∧ yX8_isHere.cls ≠ "java/lang/invoke/VarHandle" ∧ (parseMethodDescriptor yX8_isHere.desc).map (fun d => d.parameters.length) = some 2 := by decide +kernel
set_option maxHeartbeats 4000000 in
set_option maxRecDepth 100000 in
theorem c_X8_isHere (cI cB : ClassId) (m : Nat → Nat) (hl it sz sl ut ol tw tm mm rl : Int32) (ts : List Int32) (P : Nat) (lo hi : Int32) (hP : P ≤ ts.length) (h0 : 0 ≤ lo) : Ct cI cB yX8_isHere wsX8_isHere { frames := 1, cells := 0, slots := 0, locals := 25 } [.ref (m 0), .int lo, .int hi] [moM m hl it sz sl ut ol (nI ts.length) (nI P) tw tm mm rl, arL cI (m 12) 60 ts] (dv (bI (isH ts P lo hi)) [moM m hl it sz sl ut ol (nI ts.length) (nI P) tw tm mm rl, arL cI (m 12) 60 ts]) := by
  refine ct_of (cc := cX8_isHere) (maxL := 3) (ret := (some .boolean)) (by decide) rfl (Nat.le_of_ble_eq_true rfl) [(0, .ref (m 0)), (1, .int lo), (2, .int hi)] rfl ?_
  intro X hI hB K E
  subst hI
  subst hB
  have iX8 : ∀ w ∈ u_ws RX8 TX8 28, w ∈ wsX8_isHere := by decide +kernel
  refine v_arlen 1 rfl (fun hX => ?_)
  refine v_aload_n K dX8_isHere_0 rfl ?_
  refine v_get K 0 rfl hasF_c rfl iX8 19 (by decide) rfl (by decide +kernel) rfl dX8_isHere_1 ?_
  refine v_aload_n K dX8_isHere_4 rfl ?_
  refine v_get K 0 rfl hasF_c rfl iX8 18 (by decide) rfl (by decide +kernel) rfl dX8_isHere_5 ?_
  refine v_ic_ge K 35 dX8_isHere_8 (by decide) (fun c8 => ?_) (fun c8 => ?_)
  · refine v_iconst K (0) dX8_isHere_35 (by decide) ?_
    refine v_zret K E dX8_isHere_36 (by first | exact Or.inl rfl | exact Or.inr rfl | exact bI_01 _) ?_ rfl
    exact ⟨by rw [isH_out h0 (by rw [nI_leI (by omega) (by omega)] at c8; exact c8)] <;> rfl, rfl⟩
  · have hlt : P < ts.length := nI_gt (by omega) (by omega) c8
    refine v_aload_n K dX8_isHere_11 rfl ?_
    refine v_get K 0 rfl hasF_c rfl iX8 17 (by decide) rfl (by decide +kernel) rfl dX8_isHere_12 ?_
    refine v_aload_n K dX8_isHere_15 rfl ?_
    refine v_get K 0 rfl hasF_c rfl iX8 19 (by decide) rfl (by decide +kernel) rfl dX8_isHere_16 ?_
    refine v_lald K 1 rfl (P) ?hx19_1 ?ix19_1 dX8_isHere_19 ?_
    case hx19_1 => exact rfl
    case ix19_1 => exact hlt
    refine v_i2l K dX8_isHere_20 ?_
    refine v_iload_n K dX8_isHere_21 rfl ?_
    refine v_i2l K dX8_isHere_22 ?_
    refine v_iload_n K dX8_isHere_23 rfl ?_
    refine v_i2l K dX8_isHere_24 ?_
    refine v_callSi K [] (c_X8_in (XI X) (XB X) _ _ _ ) rfl gX8_isHere_X8_in rfl rfl hd_X8_in ⟨rfl, rfl⟩ ⟨by decide, by decide⟩ (by decide) (Nat.le_of_ble_eq_true rfl) ⟨Nat.zero_le _, Nat.zero_le _⟩ rfl dX8_isHere_25 ?_
    rw [inB_i]
    refine v_if_eq K 35 dX8_isHere_28 (by decide) (fun c28 => ?_) (fun c28 => ?_)
    · refine v_iconst K (0) dX8_isHere_35 (by decide) ?_
      refine v_zret K E dX8_isHere_36 (by first | exact Or.inl rfl | exact Or.inr rfl | exact bI_01 _) ?_ rfl
      have e : isH ts P lo hi = false := bI_0 c28
      exact ⟨by rw [e] <;> rfl, rfl⟩
    · refine v_iconst K (1) dX8_isHere_31 (by decide) ?_
      refine v_goto K 36 dX8_isHere_32 (by decide) ?_
      refine v_zret K E dX8_isHere_36 (by first | exact Or.inl rfl | exact Or.inr rfl | exact bI_01 _) ?_ rfl
      have e : isH ts P lo hi = true := bI_1 c28
      exact ⟨by rw [e] <;> rfl, rfl⟩

theorem hd_X8_takes : yX8_takes.cls = RX8 ∧ yX8_takes.cls ≠ "java/lang/invoke/MethodHandle" ∧ yX8_takes.cls ≠ "java/lang/invoke/VarHandle" ∧ (parseMethodDescriptor yX8_takes.desc).map (fun d => d.parameters.length) = some 1 := by decide +kernel
set_option maxHeartbeats 4000000 in
set_option maxRecDepth 100000 in
theorem c_X8_takes (cI cB : ClassId) (m : Nat → Nat) (hl it sz sl ut ol tw tm mm rl : Int32) (ts : List Int32) (P : Nat) (c : Int32) (hP : P ≤ ts.length) (hc : 0 ≤ c) : Ct cI cB yX8_takes wsX8_takes { frames := 2, cells := 0, slots := 0, locals := 47 } [.ref (m 0), .int c] [moM m hl it sz sl ut ol (nI ts.length) (nI P) tw tm mm rl, arL cI (m 12) 60 ts] (dv (bI (decide (ts.getD P (-5) = c))) [moM m hl it sz sl ut ol (nI ts.length) (nI (tkP ts P c)) tw tm mm rl, arL cI (m 12) 60 ts]) := by
  refine ct_of (cc := cX8_takes) (maxL := 3) (ret := (some .boolean)) (by decide) rfl (Nat.le_of_ble_eq_true rfl) [(0, .ref (m 0)), (1, .int c)] rfl ?_
  intro X hI hB K E
  subst hI
  subst hB
  have iX8 : ∀ w ∈ u_ws RX8 TX8 28, w ∈ wsX8_takes := by decide +kernel
  refine v_aload_n K dX8_takes_0 rfl ?_
  refine v_iload_n K dX8_takes_1 rfl ?_
  refine v_iload_n K dX8_takes_2 rfl ?_
  refine v_callVi K [0, 1] (c_X8_isHere (XI X) (XB X) _ _ _ _ _ _ _ _ _ _ _ _ _ _ _ ?hc3_0_1 ?hc3_1_1) rfl gX8_takes_X8_isHere rfl rfl hd_X8_isHere ⟨rfl, rfl⟩ ⟨by decide, by decide⟩ 0 rfl hasF_c rfl (by decide) (Nat.le_of_ble_eq_true rfl) ⟨Nat.zero_le _, Nat.zero_le _⟩ rfl dX8_takes_3 ?_
  case hc3_0_1 => exact hP
  case hc3_1_1 => exact hc
  rw [isH_eq]
  refine v_istore_n K dX8_takes_6 (by decide) ?_
  refine v_aload_n K dX8_takes_7 rfl ?_
  refine v_dup K dX8_takes_8 rfl ?_
  refine v_get K 0 rfl hasF_c rfl iX8 19 (by decide) rfl (by decide +kernel) rfl dX8_takes_9 ?_
  refine v_iload_n K dX8_takes_12 rfl ?_
  refine v_if_eq K 20 dX8_takes_13 (by decide) (fun c13 => ?_) (fun c13 => ?_)
  · refine v_iconst K (0) dX8_takes_20 (by decide) ?_
    refine v_iadd K dX8_takes_21 ?_
    refine v_put K 0 rfl rfl iX8 tyX8 tyX8_ok nmX8 19 (by decide) rfl (by decide +kernel) rfl rfl (Nat.le_of_ble_eq_true rfl) dX8_takes_22 ?_
    refine v_iload_n K dX8_takes_25 rfl ?_
    refine v_zret K E dX8_takes_26 (by first | exact Or.inl rfl | exact Or.inr rfl | exact bI_01 _) ?_ rfl
    have hne := of_decide_eq_false (bI_0 c13)
    exact ⟨rfl, by rw [tkP_f hne, Int32.add_zero] <;> rfl⟩
  · refine v_iconst K (1) dX8_takes_16 (by decide) ?_
    refine v_goto K 21 dX8_takes_17 (by decide) ?_
    refine v_iadd K dX8_takes_21 ?_
    refine v_put K 0 rfl rfl iX8 tyX8 tyX8_ok nmX8 19 (by decide) rfl (by decide +kernel) rfl rfl (Nat.le_of_ble_eq_true rfl) dX8_takes_22 ?_
    refine v_iload_n K dX8_takes_25 rfl ?_
    refine v_zret K E dX8_takes_26 (by first | exact Or.inl rfl | exact Or.inr rfl | exact bI_01 _) ?_ rfl
    have he := of_decide_eq_true (bI_1 c13)
    exact ⟨rfl, by rw [tkP_t he, nI_1] <;> rfl⟩

theorem hd_X8_passes : yX8_passes.cls = RX8 ∧ yX8_passes.cls ≠ "java/lang/invoke/MethodHandle" ∧ yX8_passes.cls ≠ "java/lang/invoke/VarHandle" ∧ (parseMethodDescriptor yX8_passes.desc).map (fun d => d.parameters.length) = some 1 := by decide +kernel
set_option maxHeartbeats 4000000 in
set_option maxRecDepth 100000 in
theorem c_X8_passes (cI cB : ClassId) (m : Nat → Nat) (hl it sz sl ut ol tw tm mm rl : Int32) (ts : List Int32) (P M : Nat) (hP : P ≤ ts.length) (hM : M < 1000) : Ct cI cB yX8_passes wsX8_passes { frames := 2, cells := 0, slots := 0, locals := 47 } [.ref (m 0), .int (nI M)] [moM m hl it sz sl ut ol (nI ts.length) (nI P) tw tm mm rl, arL cI (m 12) 60 ts] (dv (nI (tlF M (ts.drop P)).length) [moM m hl it sz sl ut ol (nI ts.length) (nI (P + (tlF M (ts.drop P)).length)) tw tm mm rl, arL cI (m 12) 60 ts]) := by
  refine ct_of (cc := cX8_passes) (maxL := 3) (ret := (some .int)) (by decide) rfl (Nat.le_of_ble_eq_true rfl) [(0, .ref (m 0)), (1, .int (nI M))] rfl ?_
  intro X hI hB K E
  subst hI
  subst hB
  have iX8 : ∀ w ∈ u_ws RX8 TX8 28, w ∈ wsX8_passes := by decide +kernel
  refine v_arlen 1 rfl (fun hX => ?_)
  have lp : ∀ k, k ≤ M → ∀ (x : Int32), x = nI k → k + (tlF (M - k) (ts.drop (P + k))).length = (tlF M (ts.drop P)).length → P + k ≤ ts.length → V X 0 0 2 [(0, .ref (m 0)), (1, .int (nI M)), (2, .int x)] [] [moM m hl it sz sl ut ol (nI ts.length) (nI (P + k)) tw tm mm rl, arL (XI X) (m 12) 60 ts] := by
    refine loop_up M ?_
    intro k hk ih x hx hq hPk
    subst hx
    refine v_iload_n K dX8_passes_2 rfl ?_
    refine v_iload_n K dX8_passes_3 rfl ?_
    refine v_ic_ge K 34 dX8_passes_4 (by decide) (fun c4 => ?_) (fun c4 => ?_)
    · refine v_iload_n K dX8_passes_34 rfl ?_
      refine v_iret K E dX8_passes_35 ?_ rfl
      have hn := pa_end (up_end rfl (by omega) hk c4 ▸ Nat.le_refl _) hq
      exact ⟨by rw [hn] <;> rfl, by rw [hn] <;> rfl⟩
    · have hlt := up_lt rfl (by omega) hk c4
      refine v_aload_n K dX8_passes_7 rfl ?_
      refine v_bipush K (97) dX8_passes_8 (by decide) ?_
      refine v_bipush K (122) dX8_passes_10 (by decide) ?_
      refine v_callVi K [0, 1] (c_X8_isHere (XI X) (XB X) _ _ _ _ _ _ _ _ _ _ _ _ _ _ _ ?hc12_0_1 ?hc12_1_1) rfl gX8_passes_X8_isHere rfl rfl hd_X8_isHere ⟨rfl, rfl⟩ ⟨by decide, by decide⟩ 0 rfl hasF_c rfl (by decide) (Nat.le_of_ble_eq_true rfl) ⟨Nat.zero_le _, Nat.zero_le _⟩ rfl dX8_passes_12 ?_
      case hc12_0_1 => exact hPk
      case hc12_1_1 => decide
      refine v_if_eq K 34 dX8_passes_15 (by decide) (fun c15 => ?_) (fun c15 => ?_)
      · refine v_iload_n K dX8_passes_34 rfl ?_
        refine v_iret K E dX8_passes_35 ?_ rfl
        have hn := pa_f (show sm (ts.getD (P + k) (-5)) = false from bI_0 c15) hq
        exact ⟨by rw [hn] <;> rfl, by rw [hn] <;> rfl⟩
      · have hs : sm (ts.getD (P + k) (-5)) = true := bI_1 c15
        have hin := sm_at hs
        refine v_aload_n K dX8_passes_18 rfl ?_
        refine v_dup K dX8_passes_19 rfl ?_
        refine v_get K 0 rfl hasF_c rfl iX8 19 (by decide) rfl (by decide +kernel) rfl dX8_passes_20 ?_
        refine v_iconst K (1) dX8_passes_23 (by decide) ?_
        refine v_iadd K dX8_passes_24 ?_
        refine v_put K 0 rfl rfl iX8 tyX8 tyX8_ok nmX8 19 (by decide) rfl (by decide +kernel) rfl rfl (Nat.le_of_ble_eq_true rfl) dX8_passes_25 ?_
        refine v_iinc K dX8_passes_28 rfl (by decide) iinc_1 ?_
        refine v_goto K 2 dX8_passes_31 (by decide) ?_
        exact v_j (ih hlt _ (nI_1 k) (pa_step hlt hs hq) (by omega)) rfl rfl (by rw [nI_1] <;> rfl)
  refine v_iconst K (0) dX8_passes_0 (by decide) ?_
  refine v_istore_n K dX8_passes_1 (by decide) ?_
  exact v_j (lp 0 (Nat.zero_le _) 0 rfl (by rw [Nat.zero_add] <;> rfl) hP) rfl rfl rfl

theorem hd_X8_tells : yX8_tells.cls = RX8 ∧ yX8_tells.cls ≠ "java/lang/invoke/MethodHandle" ∧ yX8_tells.cls ≠ "java/lang/invoke/VarHandle" ∧ (parseMethodDescriptor yX8_tells.desc).map (fun d => d.parameters.length) = some 1 := by decide +kernel
set_option maxHeartbeats 4000000 in
set_option maxRecDepth 100000 in
theorem c_X8_tells (cI cB : ClassId) (m : Nat → Nat) (hl it sz sl ut ol tl sp tw tm mm : Int32) (rs : List Int32) (c : Int32) (hrs : rs.length < 420) : Ct cI cB yX8_tells wsX8_tells { frames := 0, cells := 0, slots := 0, locals := 0 } [.ref (m 0), .int c] [moM m hl it sz sl ut ol tl sp tw tm mm (nI rs.length), arL cI (m 16) 420 rs] (dn [moM m hl it sz sl ut ol tl sp tw tm mm (nI (rs ++ [c]).length), arL cI (m 16) 420 (rs ++ [c])]) := by
  refine ct_of (cc := cX8_tells) (maxL := 2) (ret := none) (by decide) rfl (Nat.le_of_ble_eq_true rfl) [(0, .ref (m 0)), (1, .int c)] rfl ?_
  intro X hI hB K E
  subst hI
  subst hB
  have iX8 : ∀ w ∈ u_ws RX8 TX8 28, w ∈ wsX8_tells := by decide +kernel
  refine v_aload_n K dX8_tells_0 rfl ?_
  refine v_get K 0 rfl hasF_c rfl iX8 26 (by decide) rfl (by decide +kernel) rfl dX8_tells_1 ?_
  refine v_aload_n K dX8_tells_4 rfl ?_
  refine v_get K 0 rfl hasF_c rfl iX8 27 (by decide) rfl (by decide +kernel) rfl dX8_tells_5 ?_
  refine v_iload_n K dX8_tells_8 rfl ?_
  refine v_last K 1 rfl ?hx9_1 ?ix9_1 dX8_tells_9 ?_
  case hx9_1 => exact rfl
  case ix9_1 => exact hrs
  refine v_aload_n K dX8_tells_10 rfl ?_
  refine v_dup K dX8_tells_11 rfl ?_
  refine v_get K 0 rfl hasF_c rfl iX8 27 (by decide) rfl (by decide +kernel) rfl dX8_tells_12 ?_
  refine v_iconst K (1) dX8_tells_15 (by decide) ?_
  refine v_iadd K dX8_tells_16 ?_
  refine v_put K 0 rfl rfl iX8 tyX8 tyX8_ok nmX8 27 (by decide) rfl (by decide +kernel) rfl rfl (Nat.le_of_ble_eq_true rfl) dX8_tells_17 ?_
  refine v_ret K E dX8_tells_20 ?_ rfl
  exact ⟨rfl, by rw [len1] <;> rfl⟩

theorem hd_X8_takeResult : yX8_takeResult.cls = RX8 ∧ yX8_takeResult.cls ≠ "java/lang/invoke/MethodHandle" ∧ yX8_takeResult.cls ≠ "java/lang/invoke/VarHandle" ∧ (parseMethodDescriptor yX8_takeResult.desc).map (fun d => d.parameters.length) = some 0 := by decide +kernel
set_option maxHeartbeats 4000000 in
set_option maxRecDepth 100000 in
theorem c_X8_takeResult (cI cB : ClassId) (m : Nat → Nat) (hl it sz sl ut ol sp tw tm mm : Int32) (ts rs : List Int32)  : Ct cI cB yX8_takeResult wsX8_takeResult { frames := 0, cells := 0, slots := 0, locals := 0 } [.ref (m 0)] [moM m hl it sz sl ut ol (nI ts.length) sp tw tm mm (nI rs.length), arL cI (m 12) 60 ts, arL cI (m 16) 420 rs] (dv (tkT ts rs).1 [moM m hl it sz sl ut ol (nI (tkT ts rs).2.length) sp tw tm mm (nI rs.length), arL cI (m 12) 60 (tkT ts rs).2, arL cI (m 16) 420 rs]) := by
  refine ct_of (cc := cX8_takeResult) (maxL := 2) (ret := (some .int)) (by decide) rfl (Nat.le_of_ble_eq_true rfl) [(0, .ref (m 0))] rfl ?_
  intro X hI hB K E
  subst hI
  subst hB
  have iX8 : ∀ w ∈ u_ws RX8 TX8 28, w ∈ wsX8_takeResult := by decide +kernel
  refine v_arlen 2 rfl (fun hX => ?_)
  refine v_aload_n K dX8_takeResult_0 rfl ?_
  refine v_get K 0 rfl hasF_c rfl iX8 27 (by decide) rfl (by decide +kernel) rfl dX8_takeResult_1 ?_
  refine v_bipush K (60) dX8_takeResult_4 (by decide) ?_
  refine v_ic_le K 12 dX8_takeResult_6 (by decide) (fun c6 => ?_) (fun c6 => ?_)
  · refine v_aload_n K dX8_takeResult_12 rfl ?_
    refine v_aload_n K dX8_takeResult_13 rfl ?_
    refine v_get K 0 rfl hasF_c rfl iX8 27 (by decide) rfl (by decide +kernel) rfl dX8_takeResult_14 ?_
    refine v_put K 0 rfl rfl iX8 tyX8 tyX8_ok nmX8 18 (by decide) rfl (by decide +kernel) rfl rfl (Nat.le_of_ble_eq_true rfl) dX8_takeResult_17 ?_
    refine v_iconst K (0) dX8_takeResult_20 (by decide) ?_
    refine v_istore_n K dX8_takeResult_21 (by decide) ?_
    have h60 : rs.length ≤ 60 := by rw [show (60 : Int32) = nI 60 from rfl, nI_leI (by omega) (by omega)] at c6; exact c6
    refine v_ltk 1 0 rfl ?_
    rw [List.take_zero]
    have lp : ∀ k, k ≤ rs.length → ∀ (x : Int32), x = nI k → V X 0 0 22 [(0, .ref (m 0)), (1, .int x)] [] [moM m hl it sz sl ut ol (nI rs.length) sp tw tm mm (nI rs.length), arL (XI X) (m 12) 60 (rs.take k), arL (XI X) (m 16) 420 rs] := by
      refine loop_up rs.length ?_
      intro k hk ih x hx
      subst hx
      refine v_iload_n K dX8_takeResult_22 rfl ?_
      refine v_aload_n K dX8_takeResult_23 rfl ?_
      refine v_get K 0 rfl hasF_c rfl iX8 18 (by decide) rfl (by decide +kernel) rfl dX8_takeResult_24 ?_
      refine v_ic_ge K 48 dX8_takeResult_27 (by decide) (fun c27 => ?_) (fun c27 => ?_)
      · refine v_aload_n K dX8_takeResult_48 rfl ?_
        refine v_get K 0 rfl hasF_c rfl iX8 18 (by decide) rfl (by decide +kernel) rfl dX8_takeResult_49 ?_
        refine v_iret K E dX8_takeResult_52 ?_ rfl
        have he := up_end rfl (by omega) hk c27
        have e := tkT_y (ts := ts) (rs := rs) (by omega) c6
        exact ⟨by rw [e] <;> rfl, by rw [e, he, List.take_length] <;> rfl⟩
      · have hlt := up_lt rfl (by omega) hk c27
        refine v_aload_n K dX8_takeResult_30 rfl ?_
        refine v_get K 0 rfl hasF_c rfl iX8 17 (by decide) rfl (by decide +kernel) rfl dX8_takeResult_31 ?_
        refine v_iload_n K dX8_takeResult_34 rfl ?_
        refine v_aload_n K dX8_takeResult_35 rfl ?_
        refine v_get K 0 rfl hasF_c rfl iX8 26 (by decide) rfl (by decide +kernel) rfl dX8_takeResult_36 ?_
        refine v_iload_n K dX8_takeResult_39 rfl ?_
        refine v_lald K 2 rfl (k) ?hx40_1 ?ix40_1 dX8_takeResult_40 ?_
        case hx40_1 => exact rfl
        case ix40_1 => exact hlt
        refine v_last K 1 rfl ?hx41_2 ?ix41_2 dX8_takeResult_41 ?_
        case hx41_2 => rw [tkl hk]
        case ix41_2 => rw [tkl hk]; omega
        refine v_iinc K dX8_takeResult_42 rfl (by decide) iinc_1 ?_
        refine v_goto K 22 dX8_takeResult_45 (by decide) ?_
        exact v_j (ih hlt _ (nI_1 k)) rfl rfl (by rw [tk1 hlt] <;> rfl)
    exact v_j (lp 0 (Nat.zero_le _) 0 rfl) rfl rfl rfl
  · refine v_bipush K (-3) dX8_takeResult_9 (by decide) ?_
    refine v_iret K E dX8_takeResult_11 ?_ rfl
    have e := tkT_n (ts := ts) (rs := rs) c6
    exact ⟨by rw [e] <;> rfl, by rw [e] <;> rfl⟩

theorem hd_X8_result : yX8_result.cls = RX8 ∧ yX8_result.cls ≠ "java/lang/invoke/MethodHandle" ∧ yX8_result.cls ≠ "java/lang/invoke/VarHandle" ∧ (parseMethodDescriptor yX8_result.desc).map (fun d => d.parameters.length) = some 1 := by decide +kernel
set_option maxHeartbeats 4000000 in
set_option maxRecDepth 100000 in
theorem c_X8_result (cI cB : ClassId) (m : Nat → Nat) (hl it sz sl ut ol tl sp tw tm mm : Int32) (rs : List Int32) (j : Int32)  : Ct cI cB yX8_result wsX8_result { frames := 0, cells := 0, slots := 0, locals := 0 } [.ref (m 0), .int j] [moM m hl it sz sl ut ol tl sp tw tm mm (nI rs.length), arL cI (m 16) 420 rs] (dv (vRes rs j) [moM m hl it sz sl ut ol tl sp tw tm mm (nI rs.length), arL cI (m 16) 420 rs]) := by
  refine ct_of (cc := cX8_result) (maxL := 2) (ret := (some .int)) (by decide) rfl (Nat.le_of_ble_eq_true rfl) [(0, .ref (m 0)), (1, .int j)] rfl ?_
  intro X hI hB K E
  subst hI
  subst hB
  have iX8 : ∀ w ∈ u_ws RX8 TX8 28, w ∈ wsX8_result := by decide +kernel
  refine v_arlen 1 rfl (fun hX => ?_)
  refine v_iload_n K dX8_result_0 rfl ?_
  refine v_if_ge K 7 dX8_result_1 (by decide) (fun c1 => ?_) (fun c1 => ?_)
  · refine v_iload_n K dX8_result_7 rfl ?_
    refine v_aload_n K dX8_result_8 rfl ?_
    refine v_get K 0 rfl hasF_c rfl iX8 27 (by decide) rfl (by decide +kernel) rfl dX8_result_9 ?_
    refine v_ic_ge K 24 dX8_result_12 (by decide) (fun c12 => ?_) (fun c12 => ?_)
    · refine v_bipush K (-5) dX8_result_24 (by decide) ?_
      refine v_iret K E dX8_result_26 ?_ rfl
      exact ⟨by unfold vRes; rw [if_pos c1, gt_outN (by omega) c12], rfl⟩
    · obtain ⟨k, hk, rfl⟩ := vRes_in c1 (by omega) c12
      refine v_aload_n K dX8_result_15 rfl ?_
      refine v_get K 0 rfl hasF_c rfl iX8 26 (by decide) rfl (by decide +kernel) rfl dX8_result_16 ?_
      refine v_iload_n K dX8_result_19 rfl ?_
      refine v_lald K 1 rfl (k) ?hx20_1 ?ix20_1 dX8_result_20 ?_
      case hx20_1 => exact rfl
      case ix20_1 => exact hk
      refine v_goto K 26 dX8_result_21 (by decide) ?_
      refine v_iret K E dX8_result_26 ?_ rfl
      exact ⟨by unfold vRes; rw [if_pos c1, gt_n (by omega)], rfl⟩
  · refine v_bipush K (-2) dX8_result_4 (by decide) ?_
    refine v_iret K E dX8_result_6 ?_ rfl
    exact ⟨by unfold vRes; rw [if_neg c1], rfl⟩

theorem hd_X8_undo : yX8_undo.cls = RX8 ∧ yX8_undo.cls ≠ "java/lang/invoke/MethodHandle" ∧ yX8_undo.cls ≠ "java/lang/invoke/VarHandle" ∧ (parseMethodDescriptor yX8_undo.desc).map (fun d => d.parameters.length) = some 0 := by decide +kernel
set_option maxHeartbeats 4000000 in
set_option maxRecDepth 100000 in
theorem c_X8_undo (cI cB : ClassId) (m : Nat → Nat) (it sz sl ut ol tl sp tw tm mm rl : Int32) (hs : List Bk) (f h : Nat → Int32) (hH : histR hs h) : Ct cI cB yX8_undo wsX8_undo { frames := 0, cells := 0, slots := 0, locals := 0 } [.ref (m 0)] [moM m (nI hs.length) it sz sl ut ol tl sp tw tm mm rl, arF cI (m 1) 570 f, arF cI (m 3) 2280 h] (dv (if hs.length = 0 then -5 else nI (hs.length - 1)) [moM m (nI (hs.length - 1)) it sz sl ut ol tl sp tw tm mm rl, arF cI (m 1) 570 (if hs.length = 0 then f else cpK (fun j => h (570 * (hs.length - 1) + j)) f 570), arF cI (m 3) 2280 h]) := by
  refine ct_of (cc := cX8_undo) (maxL := 2) (ret := (some .int)) (by decide) rfl (Nat.le_of_ble_eq_true rfl) [(0, .ref (m 0))] rfl ?_
  intro X hI hB K E
  subst hI
  subst hB
  have iX8 : ∀ w ∈ u_ws RX8 TX8 28, w ∈ wsX8_undo := by decide +kernel
  refine v_aload_n K dX8_undo_0 rfl ?_
  refine v_get K 0 rfl hasF_c rfl iX8 3 (by decide) rfl (by decide +kernel) rfl dX8_undo_1 ?_
  refine v_if_ne K 10 dX8_undo_4 (by decide) (fun c4 => ?_) (fun c4 => ?_)
  · refine v_aload_n K dX8_undo_10 rfl ?_
    refine v_dup K dX8_undo_11 rfl ?_
    refine v_get K 0 rfl hasF_c rfl iX8 3 (by decide) rfl (by decide +kernel) rfl dX8_undo_12 ?_
    refine v_iconst K (1) dX8_undo_15 (by decide) ?_
    refine v_isub K dX8_undo_16 ?_
    refine v_put K 0 rfl rfl iX8 tyX8 tyX8_ok nmX8 3 (by decide) rfl (by decide +kernel) rfl rfl (Nat.le_of_ble_eq_true rfl) dX8_undo_17 ?_
    have hn1 : 1 ≤ hs.length := Nat.pos_of_ne_zero (fun z => c4 (by rw [z] <;> rfl))
    have h4 := hH.1
    rw [sub1 hn1]
    refine v_iconst K (0) dX8_undo_20 (by decide) ?_
    refine v_istore_n K dX8_undo_21 (by decide) ?_
    have lp : ∀ k, k ≤ 570 → ∀ (x : Int32), x = nI k → V X 0 0 22 [(0, .ref (m 0)), (1, .int x)] [] [moM m (nI (hs.length - 1)) it sz sl ut ol tl sp tw tm mm rl, arF (XI X) (m 1) 570 (cpK (fun j => h (570 * (hs.length - 1) + j)) f k), arF (XI X) (m 3) 2280 h] := by
      refine loop_up 570 ?_
      intro k hk ih x hx
      subst hx
      refine v_iload_n K dX8_undo_22 rfl ?_
      refine v_sipush K (570) dX8_undo_23 (by decide) ?_
      refine v_ic_ge K 56 dX8_undo_26 (by decide) (fun c26 => ?_) (fun c26 => ?_)
      · refine v_aload_n K dX8_undo_56 rfl ?_
        refine v_get K 0 rfl hasF_c rfl iX8 3 (by decide) rfl (by decide +kernel) rfl dX8_undo_57 ?_
        refine v_iret K E dX8_undo_60 ?_ rfl
        have he := up_end (N := 570) rfl (by omega) hk c26
        exact ⟨by rw [if_neg (by omega)] <;> rfl, by rw [if_neg (by omega), he] <;> rfl⟩
      · have hlt := up_lt (N := 570) rfl (by omega) hk c26
        refine v_aload_n K dX8_undo_29 rfl ?_
        refine v_get K 0 rfl hasF_c rfl iX8 0 (by decide) rfl (by decide +kernel) rfl dX8_undo_30 ?_
        refine v_iload_n K dX8_undo_33 rfl ?_
        refine v_aload_n K dX8_undo_34 rfl ?_
        refine v_get K 0 rfl hasF_c rfl iX8 2 (by decide) rfl (by decide +kernel) rfl dX8_undo_35 ?_
        refine v_sipush K (570) dX8_undo_38 (by decide) ?_
        refine v_aload_n K dX8_undo_41 rfl ?_
        refine v_get K 0 rfl hasF_c rfl iX8 3 (by decide) rfl (by decide +kernel) rfl dX8_undo_42 ?_
        refine v_imul K dX8_undo_45 ?_
        refine v_iload_n K dX8_undo_46 rfl ?_
        refine v_iadd K dX8_undo_47 ?_
        refine v_fald K 2 rfl (570 * (hs.length - 1) + k) ?hx48_1 ?ix48_1 dX8_undo_48 ?_
        case hx48_1 => rw [show (570 : Int32) * nI (hs.length - 1) = nI (570 * (hs.length - 1)) from pk_mul 570 _, nI_add]
        case ix48_1 => exact ⟨by omega, by decide⟩
        refine v_fast K 1 rfl (k) ?hx49_2 ?ix49_2 dX8_undo_49 ?_
        case hx49_2 => exact rfl
        case ix49_2 => exact ⟨by omega, by decide⟩
        refine v_iinc K dX8_undo_50 rfl (by decide) iinc_1 ?_
        refine v_goto K 22 dX8_undo_53 (by decide) ?_
        exact v_j (ih hlt _ (nI_1 k)) rfl rfl (by rw [← cpK_s] <;> rfl)
    exact v_j (lp 0 (Nat.zero_le _) 0 rfl) rfl rfl (by rw [cpK_0] <;> rfl)
  · refine v_bipush K (-5) dX8_undo_7 (by decide) ?_
    refine v_iret K E dX8_undo_9 ?_ rfl
    have h0 : hs.length = 0 := nI_z (by have := hH.1; omega) c4
    exact ⟨by rw [if_pos h0] <;> rfl, by rw [if_pos h0, h0] <;> rfl⟩

theorem hd_X8_keep : yX8_keep.cls = RX8 ∧ yX8_keep.cls ≠ "java/lang/invoke/MethodHandle" ∧ yX8_keep.cls ≠ "java/lang/invoke/VarHandle" ∧ (parseMethodDescriptor yX8_keep.desc).map (fun d => d.parameters.length) = some 0 := by decide +kernel
set_option maxHeartbeats 4000000 in
set_option maxRecDepth 100000 in
theorem c_X8_keep (cI cB : ClassId) (m : Nat → Nat) (hl it sz sl ut ol tl sp tw tm mm rl : Int32) (S : Bk) (f g : Nat → Int32) (hA : allR S f) : Ct cI cB yX8_keep wsX8_keep { frames := 1, cells := 0, slots := 0, locals := 22 } [.ref (m 0)] [moM m hl it sz sl ut ol tl sp tw tm mm rl, arF cI (m 1) 570 f, arF cI (m 4) 570 g] (dv (nI S.2.2.2.2.1.length) [moM m hl (bI true) sz sl ut ol tl sp tw tm mm rl, arF cI (m 1) 570 f, arF cI (m 4) 570 (cpK f g 570)]) := by
  refine ct_of (cc := cX8_keep) (maxL := 1) (ret := (some .int)) (by decide) rfl (Nat.le_of_ble_eq_true rfl) [(0, .ref (m 0))] rfl ?_
  intro X hI hB K E
  subst hI
  subst hB
  have iX8 : ∀ w ∈ u_ws RX8 TX8 28, w ∈ wsX8_keep := by decide +kernel
  refine v_aload_n K dX8_keep_0 rfl ?_
  refine v_get K 0 rfl hasF_c rfl iX8 0 (by decide) rfl (by decide +kernel) rfl dX8_keep_1 ?_
  refine v_aload_n K dX8_keep_4 rfl ?_
  refine v_get K 0 rfl hasF_c rfl iX8 4 (by decide) rfl (by decide +kernel) rfl dX8_keep_5 ?_
  refine v_callSv K [1, 2] (c_X8_copy (XI X) (XB X) _ _ _ _ ) rfl gX8_keep_X8_copy rfl rfl hd_X8_copy ⟨rfl, rfl⟩ ⟨by decide, by decide⟩ (by decide) (Nat.le_of_ble_eq_true rfl) ⟨Nat.zero_le _, Nat.zero_le _⟩ rfl dX8_keep_8 ?_
  refine v_aload_n K dX8_keep_11 rfl ?_
  refine v_iconst K (1) dX8_keep_12 (by decide) ?_
  refine v_put K 0 rfl rfl iX8 tyX8 tyX8_ok nmX8 5 (by decide) rfl (by decide +kernel) rfl rfl (Nat.le_of_ble_eq_true rfl) dX8_keep_13 ?_
  refine v_aload_n K dX8_keep_16 rfl ?_
  refine v_get K 0 rfl hasF_c rfl iX8 0 (by decide) rfl (by decide +kernel) rfl dX8_keep_17 ?_
  refine v_iconst K (1) dX8_keep_20 (by decide) ?_
  refine v_fald K 1 rfl (1) ?hx21_2 ?ix21_2 dX8_keep_21 ?_
  case hx21_2 => exact rfl
  case ix21_2 => exact ⟨by decide, by decide⟩
  rw [hA.2.2.1]
  refine v_iret K E dX8_keep_22 ?_ rfl
  exact ⟨rfl, rfl⟩
