theorem hd_X5_sideHolds : yX5_sideHolds.cls ≠ "java/lang/invoke/MethodHandle" ∧ yX5_sideHolds.cls ≠ "java/lang/invoke/VarHandle" ∧ (parseMethodDescriptor yX5_sideHolds.desc).map (fun d => d.parameters.length) = some 4 := by decide +kernel
set_option maxHeartbeats 4000000 in
set_option maxRecDepth 100000 in
theorem c_X5_sideHolds (cI cB : ClassId) (side : Int32) (r a cap : Nat) (xs : List Int32) (s e : Int32)  : Ct cI cB yX5_sideHolds wsX5_sideHolds { frames := 1, cells := 0, slots := 0, locals := 21 } [.int side, .ref r, .int s, .int e] [rowM cI r a cap xs] (dv (bI (sdH side xs s e)) [rowM cI r a cap xs]) := by
  refine ct_of (cc := cX5_sideHolds) (maxL := 4) (ret := (some .boolean)) (by decide) rfl (Nat.le_of_ble_eq_true rfl) [(0, .int side), (1, .ref r), (2, .int s), (3, .int e)] rfl ?_
  intro X hI hB K E
  subst hI
  subst hB
  refine v_iload_n K dX5_sideHolds_0 rfl ?_
  refine v_case (1) (fun s1_0 => ?_) (fun s1_0 => ?_)
  · refine v_tabHit K 36 dX5_sideHolds_1 s1_0 (by decide) (by decide) rfl (by decide) ?_
    refine v_iload_n K dX5_sideHolds_36 rfl ?_
    refine v_if_ne K 44 dX5_sideHolds_37 (by decide) (fun c37 => ?_) (fun c37 => ?_)
    · refine v_iconst K (0) dX5_sideHolds_44 (by decide) ?_
      refine v_zret K E dX5_sideHolds_45 (by first | exact Or.inl rfl | exact Or.inr rfl | exact bI_01 _) ?_ rfl
      exact ⟨by unfold sdH; rw [if_pos s1_0, decide_eq_false c37] <;> rfl, rfl⟩
    · refine v_iconst K (1) dX5_sideHolds_40 (by decide) ?_
      refine v_goto K 45 dX5_sideHolds_41 (by decide) ?_
      refine v_zret K E dX5_sideHolds_45 (by first | exact Or.inl rfl | exact Or.inr rfl | exact bI_01 _) ?_ rfl
      exact ⟨by unfold sdH; rw [if_pos s1_0, decide_eq_true c37] <;> rfl, rfl⟩
  · refine v_case (2) (fun s1_1 => ?_) (fun s1_1 => ?_)
    · refine v_tabHit K 46 dX5_sideHolds_1 s1_1 (by decide) (by decide) rfl (by decide) ?_
      refine v_iload_n K dX5_sideHolds_46 rfl ?_
      refine v_aload_n K dX5_sideHolds_47 rfl ?_
      refine v_callVi K [0] (c_X3_size (XI X) (XB X) _ _ _ _ ) rfl gX5_sideHolds_X3_size rfl rfl hd_X3_size ⟨rfl, rfl⟩ ⟨by decide, by decide⟩ 0 rfl rowF rfl (by decide) (Nat.le_of_ble_eq_true rfl) ⟨Nat.zero_le _, Nat.zero_le _⟩ rfl dX5_sideHolds_48 ?_
      refine v_ic_ne K 58 dX5_sideHolds_51 (by decide) (fun c51 => ?_) (fun c51 => ?_)
      · refine v_iconst K (0) dX5_sideHolds_58 (by decide) ?_
        refine v_zret K E dX5_sideHolds_59 (by first | exact Or.inl rfl | exact Or.inr rfl | exact bI_01 _) ?_ rfl
        exact ⟨by unfold sdH; rw [if_neg s1_0, if_pos s1_1, decide_eq_false c51] <;> rfl, rfl⟩
      · refine v_iconst K (1) dX5_sideHolds_54 (by decide) ?_
        refine v_goto K 59 dX5_sideHolds_55 (by decide) ?_
        refine v_zret K E dX5_sideHolds_59 (by first | exact Or.inl rfl | exact Or.inr rfl | exact bI_01 _) ?_ rfl
        exact ⟨by unfold sdH; rw [if_neg s1_0, if_pos s1_1, decide_eq_true c51] <;> rfl, rfl⟩
    · refine v_case (3) (fun s1_2 => ?_) (fun s1_2 => ?_)
      · refine v_tabHit K 60 dX5_sideHolds_1 s1_2 (by decide) (by decide) rfl (by decide) ?_
        refine v_aload_n K dX5_sideHolds_60 rfl ?_
        refine v_iload_n K dX5_sideHolds_61 rfl ?_
        refine v_callVi K [0] (c_X3_get (XI X) (XB X) _ _ _ _ _ ) rfl gX5_sideHolds_X3_get rfl rfl hd_X3_get ⟨rfl, rfl⟩ ⟨by decide, by decide⟩ 0 rfl rowF rfl (by decide) (Nat.le_of_ble_eq_true rfl) ⟨Nat.zero_le _, Nat.zero_le _⟩ rfl dX5_sideHolds_62 ?_
        refine v_callNi (host := RX7) K [] (c_X7_isVowel (XI X) (XB X) _ ) rfl gX5_sideHolds_X7_isVowel_n86 rfl rfl (by decide +kernel) (by decide +kernel) (by decide +kernel) hd_X7_isVowel ⟨rfl, rfl⟩ ⟨by decide, by decide⟩ (by decide) (Nat.le_of_ble_eq_true rfl) ⟨Nat.zero_le _, Nat.zero_le _⟩ rfl dX5_sideHolds_65 ?_
        refine v_zret K E dX5_sideHolds_68 (by first | exact Or.inl rfl | exact Or.inr rfl | exact bI_01 _) ?_ rfl
        exact ⟨by unfold sdH; rw [if_neg s1_0, if_neg s1_1, if_pos s1_2] <;> rfl, rfl⟩
      · refine v_case (4) (fun s1_3 => ?_) (fun s1_3 => ?_)
        · refine v_tabHit K 69 dX5_sideHolds_1 s1_3 (by decide) (by decide) rfl (by decide) ?_
          refine v_aload_n K dX5_sideHolds_69 rfl ?_
          refine v_iload_n K dX5_sideHolds_70 rfl ?_
          refine v_callVi K [0] (c_X3_get (XI X) (XB X) _ _ _ _ _ ) rfl gX5_sideHolds_X3_get rfl rfl hd_X3_get ⟨rfl, rfl⟩ ⟨by decide, by decide⟩ 0 rfl rowF rfl (by decide) (Nat.le_of_ble_eq_true rfl) ⟨Nat.zero_le _, Nat.zero_le _⟩ rfl dX5_sideHolds_71 ?_
          refine v_callNi (host := RX7) K [] (c_X7_isVowel (XI X) (XB X) _ ) rfl gX5_sideHolds_X7_isVowel_n86 rfl rfl (by decide +kernel) (by decide +kernel) (by decide +kernel) hd_X7_isVowel ⟨rfl, rfl⟩ ⟨by decide, by decide⟩ (by decide) (Nat.le_of_ble_eq_true rfl) ⟨Nat.zero_le _, Nat.zero_le _⟩ rfl dX5_sideHolds_74 ?_
          refine v_if_ne K 84 dX5_sideHolds_77 (by decide) (fun c77 => ?_) (fun c77 => ?_)
          · refine v_iconst K (0) dX5_sideHolds_84 (by decide) ?_
            refine v_zret K E dX5_sideHolds_85 (by first | exact Or.inl rfl | exact Or.inr rfl | exact bI_01 _) ?_ rfl
            exact ⟨by unfold sdH; rw [if_neg s1_0, if_neg s1_1, if_neg s1_2, if_pos s1_3, bI_1 c77] <;> rfl, rfl⟩
          · refine v_iconst K (1) dX5_sideHolds_80 (by decide) ?_
            refine v_goto K 85 dX5_sideHolds_81 (by decide) ?_
            refine v_zret K E dX5_sideHolds_85 (by first | exact Or.inl rfl | exact Or.inr rfl | exact bI_01 _) ?_ rfl
            exact ⟨by unfold sdH; rw [if_neg s1_0, if_neg s1_1, if_neg s1_2, if_pos s1_3, bI_0 c77] <;> rfl, rfl⟩
        · refine v_case (5) (fun s1_4 => ?_) (fun s1_4 => ?_)
          · refine v_tabHit K 86 dX5_sideHolds_1 s1_4 (by decide) (by decide) rfl (by decide) ?_
            refine v_aload_n K dX5_sideHolds_86 rfl ?_
            refine v_iload_n K dX5_sideHolds_87 rfl ?_
            refine v_iconst K (1) dX5_sideHolds_88 (by decide) ?_
            refine v_isub K dX5_sideHolds_89 ?_
            refine v_callVi K [0] (c_X3_get (XI X) (XB X) _ _ _ _ _ ) rfl gX5_sideHolds_X3_get rfl rfl hd_X3_get ⟨rfl, rfl⟩ ⟨by decide, by decide⟩ 0 rfl rowF rfl (by decide) (Nat.le_of_ble_eq_true rfl) ⟨Nat.zero_le _, Nat.zero_le _⟩ rfl dX5_sideHolds_90 ?_
            refine v_callNi (host := RX7) K [] (c_X7_isVowel (XI X) (XB X) _ ) rfl gX5_sideHolds_X7_isVowel_n86 rfl rfl (by decide +kernel) (by decide +kernel) (by decide +kernel) hd_X7_isVowel ⟨rfl, rfl⟩ ⟨by decide, by decide⟩ (by decide) (Nat.le_of_ble_eq_true rfl) ⟨Nat.zero_le _, Nat.zero_le _⟩ rfl dX5_sideHolds_93 ?_
            refine v_zret K E dX5_sideHolds_96 (by first | exact Or.inl rfl | exact Or.inr rfl | exact bI_01 _) ?_ rfl
            exact ⟨by unfold sdH; rw [if_neg s1_0, if_neg s1_1, if_neg s1_2, if_neg s1_3, if_pos s1_4] <;> rfl, rfl⟩
          · refine v_tabOut K 97 dX5_sideHolds_1 (by have h0 := lv_neT (k := 1) (a := 1) s1_0 rfl; have h1 := lv_neT (k := 2) (a := 2) s1_1 rfl; have h2 := lv_neT (k := 3) (a := 3) s1_2 rfl; have h3 := lv_neT (k := 4) (a := 4) s1_3 rfl; have h4 := lv_neT (k := 5) (a := 5) s1_4 rfl; omega) (by decide) ?_
            refine v_iconst K (1) dX5_sideHolds_97 (by decide) ?_
            refine v_zret K E dX5_sideHolds_98 (by first | exact Or.inl rfl | exact Or.inr rfl | exact bI_01 _) ?_ rfl
            exact ⟨by unfold sdH; rw [if_neg s1_0, if_neg s1_1, if_neg s1_2, if_neg s1_3, if_neg s1_4] <;> rfl, rfl⟩

theorem hd_X5_holds : yX5_holds.cls ≠ "java/lang/invoke/MethodHandle" ∧ yX5_holds.cls ≠ "java/lang/invoke/VarHandle" ∧ (parseMethodDescriptor yX5_holds.desc).map (fun d => d.parameters.length) = some 4 := by decide +kernel
set_option maxHeartbeats 4000000 in
set_option maxRecDepth 100000 in
theorem c_X5_holds (cI cB : ClassId) (A : Nat → Nat) (nr nw : Nat) (S : Bk) (I : Nat) (r a cap : Nat) (xs : List Int32) (P : Nat) (hI : I < S.1.length) (hP : P < 1000000) : Ct cI cB yX5_holds wsX5_holds { frames := 2, cells := 0, slots := 0, locals := 44 } [.ref (A 0), .int (nI I), .ref r, .int (nI P)] [bookM cI A nr nw S, rowM cI r a cap xs] (dv (bI (hld S xs I P)) [bookM cI A nr nw S, rowM cI r a cap xs]) := by
  refine ct_of (cc := cX5_holds) (maxL := 6) (ret := (some .boolean)) (by decide) rfl (Nat.le_of_ble_eq_true rfl) [(0, .ref (A 0)), (1, .int (nI I)), (2, .ref r), (3, .int (nI P))] rfl ?_
  intro X hI hB K E
  subst hI
  subst hB
  have iX0 : ∀ w ∈ u_ws RX0 TX0 6, w ∈ wsX5_holds := by decide +kernel
  refine v_obook 0 rfl ?_
  refine v_rowsrl 1 rfl (fun hE => ?_)
  obtain ⟨C0, hC0⟩ := hE
  have hN := rl_N hC0
  have hl : (S.1.getD I []).length ≤ 4 := rl_len hC0
  refine v_aload_n K dX5_holds_0 rfl ?_
  refine v_get K 0 rfl hasF_c rfl iX0 0 (by decide) rfl (by decide +kernel) rfl dX5_holds_1 ?_
  refine v_iload_n K dX5_holds_4 rfl ?_
  refine v_callVi K [1] (c_X4_length (XI X) (XB X) _ _ _ _ _ _ _ _ _ ) rfl gX5_holds_X4_length rfl rfl hd_X4_length ⟨rfl, rfl⟩ ⟨by decide, by decide⟩ 1 rfl rowsF rfl (by decide) (Nat.le_of_ble_eq_true rfl) ⟨Nat.zero_le _, Nat.zero_le _⟩ rfl dX5_holds_5 ?_
  rw [gl_n hI hN]
  refine v_istore K dX5_holds_8 (by decide) ?_
  refine v_iconst K (0) dX5_holds_10 (by decide) ?_
  refine v_istore K dX5_holds_11 (by decide) ?_
  have lp : ∀ k, k ≤ (S.1.getD I []).length → ∀ (x : Int32), x = nI k → (∀ j, j < k → (S.1.getD I []).getD j (-5) = xs.getD (P + j) (-5)) → V X 0 0 13 [(0, .ref (A 0)), (1, .int (nI I)), (2, .ref r), (3, .int (nI P)), (4, .int (nI (S.1.getD I []).length)), (5, .int x)] [] [cM (A 0) (.inr (0, [.ref (A 1), .ref (A 6), .ref (A 8), .ref (A 10), .ref (A 15), .ref (A 20)])), rowsM (XI X) (A 1) (A 2) (A 3) (A 4) (A 5) nr 4 S.1, rowM (XI X) (A 6) (A 7) nr S.2.1, rowM (XI X) (A 8) (A 9) nr S.2.2.1, rowsM (XI X) (A 10) (A 11) (A 12) (A 13) (A 14) 26 2 S.2.2.2.1, rowsM (XI X) (A 15) (A 16) (A 17) (A 18) (A 19) nw 12 S.2.2.2.2.1, rowM (XI X) (A 20) (A 21) nw S.2.2.2.2.2, rowM (XI X) r a cap xs] := by
    refine loop_up (S.1.getD I []).length ?_
    intro k hk ih x hx hp
    subst hx
    refine v_iload K dX5_holds_13 rfl ?_
    refine v_iload K dX5_holds_15 rfl ?_
    refine v_ic_ge K 49 dX5_holds_17 (by decide) (fun c17 => ?_) (fun c17 => ?_)
    · refine v_aload_n K dX5_holds_49 rfl ?_
      refine v_get K 0 rfl hasF_c rfl iX0 2 (by decide) rfl (by decide +kernel) rfl dX5_holds_50 ?_
      refine v_iload_n K dX5_holds_53 rfl ?_
      refine v_callVi K [3] (c_X3_get (XI X) (XB X) _ _ _ _ _ ) rfl gX5_holds_X3_get rfl rfl hd_X3_get ⟨rfl, rfl⟩ ⟨by decide, by decide⟩ 3 rfl rowF rfl (by decide) (Nat.le_of_ble_eq_true rfl) ⟨Nat.zero_le _, Nat.zero_le _⟩ rfl dX5_holds_54 ?_
      rw [gt_n (by omega)]
      refine v_aload_n K dX5_holds_57 rfl ?_
      refine v_iload_n K dX5_holds_58 rfl ?_
      refine v_iload_n K dX5_holds_59 rfl ?_
      refine v_iload K dX5_holds_60 rfl ?_
      refine v_iadd K dX5_holds_62 ?_
      rw [nI_add]
      refine v_callSi K [7] (c_X5_sideHolds (XI X) (XB X) _ _ _ _ _ _ _ ) rfl gX5_holds_X5_sideHolds rfl rfl hd_X5_sideHolds ⟨rfl, rfl⟩ ⟨by decide, by decide⟩ (by decide) (Nat.le_of_ble_eq_true rfl) ⟨Nat.zero_le _, Nat.zero_le _⟩ rfl dX5_holds_63 ?_
      refine v_cbook 0 rfl ?_
      refine v_zret K E dX5_holds_66 (by first | exact Or.inl rfl | exact Or.inr rfl | exact bI_01 _) ?_ rfl
      exact ⟨by unfold hld; rw [show hldL S xs I P = true from decide_eq_true (fun j hj => hp j (by rw [up_end rfl (by omega) hk c17]; exact hj)), Bool.true_and] <;> rfl, rfl⟩
    · have hlt := up_lt rfl (by omega) hk c17
      refine v_aload_n K dX5_holds_20 rfl ?_
      refine v_get K 0 rfl hasF_c rfl iX0 0 (by decide) rfl (by decide +kernel) rfl dX5_holds_21 ?_
      refine v_iload_n K dX5_holds_24 rfl ?_
      refine v_iload K dX5_holds_25 rfl ?_
      refine v_callVi K [1] (c_X4_get (XI X) (XB X) _ _ _ _ _ _ _ _ _ _ ) rfl gX5_holds_X4_get rfl rfl hd_X4_get ⟨rfl, rfl⟩ ⟨by decide, by decide⟩ 1 rfl rowsF rfl (by decide) (Nat.le_of_ble_eq_true rfl) ⟨Nat.zero_le _, Nat.zero_le _⟩ rfl dX5_holds_27 ?_
      refine v_aload_n K dX5_holds_30 rfl ?_
      refine v_iload_n K dX5_holds_31 rfl ?_
      refine v_iload K dX5_holds_32 rfl ?_
      refine v_iadd K dX5_holds_34 ?_
      rw [nI_add]
      refine v_callVi K [7] (c_X3_get (XI X) (XB X) _ _ _ _ _ ) rfl gX5_holds_X3_get rfl rfl hd_X3_get ⟨rfl, rfl⟩ ⟨by decide, by decide⟩ 7 rfl rowF rfl (by decide) (Nat.le_of_ble_eq_true rfl) ⟨Nat.zero_le _, Nat.zero_le _⟩ rfl dX5_holds_35 ?_
      rw [gg_n hI hN (by omega), gt_n (by omega)]
      refine v_ic_eq K 43 dX5_holds_38 (by decide) (fun c38 => ?_) (fun c38 => ?_)
      · refine v_iinc K dX5_holds_43 rfl (by decide) iinc_1 ?_
        refine v_goto K 13 dX5_holds_46 (by decide) ?_
        exact v_j (ih hlt _ (nI_1 k) (fun j hj => (Nat.lt_or_ge j k).elim (hp j) (fun h => by rw [show j = k by omega]; exact c38))) rfl rfl rfl
      · refine v_iconst K (0) dX5_holds_41 (by decide) ?_
        refine v_cbook 0 rfl ?_
        refine v_zret K E dX5_holds_42 (by first | exact Or.inl rfl | exact Or.inr rfl | exact bI_01 _) ?_ rfl
        exact ⟨by unfold hld; rw [show hldL S xs I P = false from decide_eq_false (fun z => c38 (z k hlt))] <;> rfl, rfl⟩
  exact v_j (lp 0 (Nat.zero_le _) 0 rfl (fun j hj => absurd hj (Nat.not_lt_zero j))) rfl rfl rfl

theorem hd_X5_bestRule : yX5_bestRule.cls ≠ "java/lang/invoke/MethodHandle" ∧ yX5_bestRule.cls ≠ "java/lang/invoke/VarHandle" ∧ (parseMethodDescriptor yX5_bestRule.desc).map (fun d => d.parameters.length) = some 3 := by decide +kernel
set_option maxHeartbeats 4000000 in
set_option maxRecDepth 100000 in
theorem c_X5_bestRule (cI cB : ClassId) (A : Nat → Nat) (nr nw : Nat) (S : Bk) (r a cap : Nat) (xs : List Int32) (P : Nat) (hP : P < 1000000) : Ct cI cB yX5_bestRule wsX5_bestRule { frames := 3, cells := 0, slots := 0, locals := 69 } [.ref (A 0), .ref r, .int (nI P)] [bookM cI A nr nw S, rowM cI r a cap xs] (dv (bst S xs P S.1.length).1 [bookM cI A nr nw S, rowM cI r a cap xs]) := by
  refine ct_of (cc := cX5_bestRule) (maxL := 7) (ret := (some .int)) (by decide) rfl (Nat.le_of_ble_eq_true rfl) [(0, .ref (A 0)), (1, .ref r), (2, .int (nI P))] rfl ?_
  intro X hI hB K E
  subst hI
  subst hB
  have iX0 : ∀ w ∈ u_ws RX0 TX0 6, w ∈ wsX5_bestRule := by decide +kernel
  refine v_obook 0 rfl ?_
  refine v_rowsrl 1 rfl (fun hE => ?_)
  obtain ⟨C0, hC0⟩ := hE
  have hN := rl_N hC0
  refine v_cbook 0 rfl ?_
  have lp : ∀ k, k ≤ S.1.length → ∀ (x : Int32), x = nI k → V X 0 0 9 [(0, .ref (A 0)), (1, .ref r), (2, .int (nI P)), (3, .int (bst S xs P k).1), (4, .int (bst S xs P k).2), (5, .int x)] [] [bookM (XI X) A nr nw S, rowM (XI X) r a cap xs] := by
    refine loop_up S.1.length ?_
    intro k hk ih x hx
    subst hx
    refine v_iload K dX5_bestRule_9 rfl ?_
    refine v_aload_n K dX5_bestRule_11 rfl ?_
    refine v_callVi K [0] (c_X0_rules (XI X) (XB X) _ _ _ _ ) rfl gX5_bestRule_X0_rules rfl rfl hd_X0_rules ⟨rfl, rfl⟩ ⟨by decide, by decide⟩ 0 rfl bookF rfl (by decide) (Nat.le_of_ble_eq_true rfl) ⟨Nat.zero_le _, Nat.zero_le _⟩ rfl dX5_bestRule_12 ?_
    refine v_ic_ge K 80 dX5_bestRule_15 (by decide) (fun c15 => ?_) (fun c15 => ?_)
    · refine v_iload_n K dX5_bestRule_80 rfl ?_
      refine v_iret K E dX5_bestRule_81 ?_ rfl
      exact ⟨by rw [up_end rfl hN hk c15] <;> rfl, rfl⟩
    · have hlt := up_lt rfl hN hk c15
      refine v_obook 0 rfl ?_
      refine v_iconst K (2) dX5_bestRule_18 (by decide) ?_
      refine v_aload_n K dX5_bestRule_19 rfl ?_
      refine v_get K 0 rfl hasF_c rfl iX0 0 (by decide) rfl (by decide +kernel) rfl dX5_bestRule_20 ?_
      refine v_iload K dX5_bestRule_23 rfl ?_
      refine v_callVi K [1] (c_X4_length (XI X) (XB X) _ _ _ _ _ _ _ _ _ ) rfl gX5_bestRule_X4_length rfl rfl hd_X4_length ⟨rfl, rfl⟩ ⟨by decide, by decide⟩ 1 rfl rowsF rfl (by decide) (Nat.le_of_ble_eq_true rfl) ⟨Nat.zero_le _, Nat.zero_le _⟩ rfl dX5_bestRule_25 ?_
      rw [gl_n hlt hN]
      refine v_imul K dX5_bestRule_28 ?_
      refine v_aload_n K dX5_bestRule_29 rfl ?_
      refine v_get K 0 rfl hasF_c rfl iX0 2 (by decide) rfl (by decide +kernel) rfl dX5_bestRule_30 ?_
      refine v_iload K dX5_bestRule_33 rfl ?_
      refine v_callVi K [3] (c_X3_get (XI X) (XB X) _ _ _ _ _ ) rfl gX5_bestRule_X3_get rfl rfl hd_X3_get ⟨rfl, rfl⟩ ⟨by decide, by decide⟩ 3 rfl rowF rfl (by decide) (Nat.le_of_ble_eq_true rfl) ⟨Nat.zero_le _, Nat.zero_le _⟩ rfl dX5_bestRule_35 ?_
      rw [gt_n (by omega)]
      refine v_if_ne K 45 dX5_bestRule_38 (by decide) (fun c38 => ?_) (fun c38 => ?_)
      · refine v_iconst K (1) dX5_bestRule_45 (by decide) ?_
        refine v_iadd K dX5_bestRule_46 ?_
        rw [show 2 * nI (S.1.getD k []).length + 1 = rk S k by unfold rk; rw [if_neg c38]]
        refine v_istore K dX5_bestRule_47 (by decide) ?_
        refine v_iload K dX5_bestRule_49 rfl ?_
        refine v_iload K dX5_bestRule_51 rfl ?_
        refine v_ic_le K 74 dX5_bestRule_53 (by decide) (fun c53 => ?_) (fun c53 => ?_)
        · refine v_cbook 0 rfl ?_
          refine v_iinc K dX5_bestRule_74 rfl (by decide) iinc_1 ?_
          refine v_goto K 9 dX5_bestRule_77 (by decide) ?_
          have hb := bst_no (S := S) (xs := xs) (P := P) (k := k) (fun z => Int32.not_lt.mpr c53 z.1)
          exact v_j (ih hlt _ (nI_1 k)) (by rw [hb]; rfl) rfl rfl
        · refine v_cbook 0 rfl ?_
          refine v_aload_n K dX5_bestRule_56 rfl ?_
          refine v_iload K dX5_bestRule_57 rfl ?_
          refine v_aload_n K dX5_bestRule_59 rfl ?_
          refine v_iload_n K dX5_bestRule_60 rfl ?_
          refine v_callSi K [0, 1] (c_X5_holds (XI X) (XB X) _ _ _ _ _ _ _ _ _ _ ?hc61_0 ?hc61_1) rfl gX5_bestRule_X5_holds rfl rfl hd_X5_holds ⟨rfl, rfl⟩ ⟨by decide, by decide⟩ (by decide) (Nat.le_of_ble_eq_true rfl) ⟨Nat.zero_le _, Nat.zero_le _⟩ rfl dX5_bestRule_61 ?_
          case hc61_0 => exact hlt
          case hc61_1 => exact hP
          refine v_if_eq K 74 dX5_bestRule_64 (by decide) (fun c64 => ?_) (fun c64 => ?_)
          · refine v_iinc K dX5_bestRule_74 rfl (by decide) iinc_1 ?_
            refine v_goto K 9 dX5_bestRule_77 (by decide) ?_
            have hb := bst_no (S := S) (xs := xs) (P := P) (k := k) (fun z => by rw [bI_0 c64] at z; exact Bool.false_ne_true z.2)
            exact v_j (ih hlt _ (nI_1 k)) (by rw [hb]; rfl) rfl rfl
          · refine v_iload K dX5_bestRule_67 rfl ?_
            refine v_istore_n K dX5_bestRule_69 (by decide) ?_
            refine v_iload K dX5_bestRule_70 rfl ?_
            refine v_istore K dX5_bestRule_72 (by decide) ?_
            refine v_iinc K dX5_bestRule_74 rfl (by decide) iinc_1 ?_
            refine v_goto K 9 dX5_bestRule_77 (by decide) ?_
            have hb := bst_yes (S := S) (xs := xs) (P := P) (k := k) (Int32.not_le.mp c53) (bI_1 c64)
            exact v_j (ih hlt _ (nI_1 k)) (by rw [hb]; rfl) rfl rfl
      · refine v_iconst K (0) dX5_bestRule_41 (by decide) ?_
        refine v_goto K 46 dX5_bestRule_42 (by decide) ?_
        refine v_iadd K dX5_bestRule_46 ?_
        rw [show 2 * nI (S.1.getD k []).length + 0 = rk S k by unfold rk; rw [if_pos c38]]
        refine v_istore K dX5_bestRule_47 (by decide) ?_
        refine v_iload K dX5_bestRule_49 rfl ?_
        refine v_iload K dX5_bestRule_51 rfl ?_
        refine v_ic_le K 74 dX5_bestRule_53 (by decide) (fun c53 => ?_) (fun c53 => ?_)
        · refine v_cbook 0 rfl ?_
          refine v_iinc K dX5_bestRule_74 rfl (by decide) iinc_1 ?_
          refine v_goto K 9 dX5_bestRule_77 (by decide) ?_
          have hb := bst_no (S := S) (xs := xs) (P := P) (k := k) (fun z => Int32.not_lt.mpr c53 z.1)
          exact v_j (ih hlt _ (nI_1 k)) (by rw [hb]; rfl) rfl rfl
        · refine v_cbook 0 rfl ?_
          refine v_aload_n K dX5_bestRule_56 rfl ?_
          refine v_iload K dX5_bestRule_57 rfl ?_
          refine v_aload_n K dX5_bestRule_59 rfl ?_
          refine v_iload_n K dX5_bestRule_60 rfl ?_
          refine v_callSi K [0, 1] (c_X5_holds (XI X) (XB X) _ _ _ _ _ _ _ _ _ _ ?hc61_0 ?hc61_1) rfl gX5_bestRule_X5_holds rfl rfl hd_X5_holds ⟨rfl, rfl⟩ ⟨by decide, by decide⟩ (by decide) (Nat.le_of_ble_eq_true rfl) ⟨Nat.zero_le _, Nat.zero_le _⟩ rfl dX5_bestRule_61 ?_
          case hc61_0 => exact hlt
          case hc61_1 => exact hP
          refine v_if_eq K 74 dX5_bestRule_64 (by decide) (fun c64 => ?_) (fun c64 => ?_)
          · refine v_iinc K dX5_bestRule_74 rfl (by decide) iinc_1 ?_
            refine v_goto K 9 dX5_bestRule_77 (by decide) ?_
            have hb := bst_no (S := S) (xs := xs) (P := P) (k := k) (fun z => by rw [bI_0 c64] at z; exact Bool.false_ne_true z.2)
            exact v_j (ih hlt _ (nI_1 k)) (by rw [hb]; rfl) rfl rfl
          · refine v_iload K dX5_bestRule_67 rfl ?_
            refine v_istore_n K dX5_bestRule_69 (by decide) ?_
            refine v_iload K dX5_bestRule_70 rfl ?_
            refine v_istore K dX5_bestRule_72 (by decide) ?_
            refine v_iinc K dX5_bestRule_74 rfl (by decide) iinc_1 ?_
            refine v_goto K 9 dX5_bestRule_77 (by decide) ?_
            have hb := bst_yes (S := S) (xs := xs) (P := P) (k := k) (Int32.not_le.mp c53) (bI_1 c64)
            exact v_j (ih hlt _ (nI_1 k)) (by rw [hb]; rfl) rfl rfl
  refine v_bipush K (-5) dX5_bestRule_0 (by decide) ?_
  refine v_istore_n K dX5_bestRule_2 (by decide) ?_
  refine v_iconst K (0) dX5_bestRule_3 (by decide) ?_
  refine v_istore K dX5_bestRule_4 (by decide) ?_
  refine v_iconst K (0) dX5_bestRule_6 (by decide) ?_
  refine v_istore K dX5_bestRule_7 (by decide) ?_
  exact v_j (lp 0 (Nat.zero_le _) 0 rfl) rfl rfl rfl

theorem hd_X5_useRule : yX5_useRule.cls = RX5 ∧ yX5_useRule.cls ≠ "java/lang/invoke/MethodHandle" ∧ yX5_useRule.cls ≠ "java/lang/invoke/VarHandle" ∧ (parseMethodDescriptor yX5_useRule.desc).map (fun d => d.parameters.length) = some 2 := by decide +kernel
set_option maxHeartbeats 4000000 in
set_option maxRecDepth 100000 in
theorem c_X5_useRule (cI cB : ClassId) (Q : Nat → Nat) (T : T4) (A : Nat → Nat) (nr nw : Nat) (S : Bk) (I : Nat) (hI : I < S.1.length) : Ct cI cB yX5_useRule wsX5_useRule { frames := 2, cells := 0, slots := 0, locals := 44 } [.ref (Q 0), .ref (A 0), .int (nI I)] [spM cI Q T, bookM cI A nr nw S] (dn [spM cI Q ((useT S I (T.1, T.2.1, T.2.2.1)).1, (useT S I (T.1, T.2.1, T.2.2.1)).2.1, (useT S I (T.1, T.2.1, T.2.2.1)).2.2, T.2.2.2), bookM cI A nr nw S]) := by
  refine ct_of (cc := cX5_useRule) (maxL := 4) (ret := none) (by decide) rfl (Nat.le_of_ble_eq_true rfl) [(0, .ref (Q 0)), (1, .ref (A 0)), (2, .int (nI I))] rfl ?_
  intro X hI hB K E
  subst hI
  subst hB
  have iX0 : ∀ w ∈ u_ws RX0 TX0 6, w ∈ wsX5_useRule := by decide +kernel
  have iX5 : ∀ w ∈ u_ws RX5 TX5 4, w ∈ wsX5_useRule := by decide +kernel
  refine v_osp 0 rfl ?_
  refine v_obook 5 rfl ?_
  refine v_rowsrl 6 rfl (fun hE => ?_)
  obtain ⟨C0, hC0⟩ := hE
  have hN := rl_N hC0
  have hl : (S.1.getD I []).length ≤ 4 := rl_len hC0
  refine v_aload_n K dX5_useRule_0 rfl ?_
  refine v_get K 5 rfl hasF_c rfl iX0 1 (by decide) rfl (by decide +kernel) rfl dX5_useRule_1 ?_
  refine v_iload_n K dX5_useRule_4 rfl ?_
  refine v_callVi K [7] (c_X3_get (XI X) (XB X) _ _ _ _ _ ) rfl gX5_useRule_X3_get rfl rfl hd_X3_get ⟨rfl, rfl⟩ ⟨by decide, by decide⟩ 7 rfl rowF rfl (by decide) (Nat.le_of_ble_eq_true rfl) ⟨Nat.zero_le _, Nat.zero_le _⟩ rfl dX5_useRule_5 ?_
  rw [gt_n (by omega)]
  refine v_istore_n K dX5_useRule_8 (by decide) ?_
  refine v_iload_n K dX5_useRule_9 rfl ?_
  refine v_if_eq K 21 dX5_useRule_10 (by decide) (fun c10 => ?_) (fun c10 => ?_)
  · refine v_aload_n K dX5_useRule_21 rfl ?_
    refine v_get K 0 rfl hasF_c rfl iX5 2 (by decide) rfl (by decide +kernel) rfl dX5_useRule_22 ?_
    refine v_iload_n K dX5_useRule_25 rfl ?_
    refine v_callVv K [3] (c_X3_add (XI X) (XB X) _ _ _ _ _ ) rfl gX5_useRule_X3_add rfl rfl hd_X3_add ⟨rfl, rfl⟩ ⟨by decide, by decide⟩ 3 rfl rowF rfl (by decide) (Nat.le_of_ble_eq_true rfl) ⟨Nat.zero_le _, Nat.zero_le _⟩ rfl dX5_useRule_26 ?_
    refine v_aload_n K dX5_useRule_29 rfl ?_
    refine v_get K 0 rfl hasF_c rfl iX5 1 (by decide) rfl (by decide +kernel) rfl dX5_useRule_30 ?_
    refine v_iload_n K dX5_useRule_33 rfl ?_
    refine v_aload_n K dX5_useRule_34 rfl ?_
    refine v_get K 5 rfl hasF_c rfl iX0 0 (by decide) rfl (by decide +kernel) rfl dX5_useRule_35 ?_
    refine v_iload_n K dX5_useRule_38 rfl ?_
    refine v_callVi K [6] (c_X4_length (XI X) (XB X) _ _ _ _ _ _ _ _ _ ) rfl gX5_useRule_X4_length rfl rfl hd_X4_length ⟨rfl, rfl⟩ ⟨by decide, by decide⟩ 6 rfl rowsF rfl (by decide) (Nat.le_of_ble_eq_true rfl) ⟨Nat.zero_le _, Nat.zero_le _⟩ rfl dX5_useRule_39 ?_
    rw [gl_n hI hN]
    refine v_callVv K [2] (c_X3_addMany (XI X) (XB X) _ _ _ _ _ _ ?hc42_0) rfl gX5_useRule_X3_addMany rfl rfl hd_X3_addMany ⟨rfl, rfl⟩ ⟨by decide, by decide⟩ 2 rfl rowF rfl (by decide) (Nat.le_of_ble_eq_true rfl) ⟨Nat.zero_le _, Nat.zero_le _⟩ rfl dX5_useRule_42 ?_
    case hc42_0 => omega
    refine v_cbook 5 rfl ?_
    refine v_csp 0 rfl ?_
    refine v_ret K E dX5_useRule_45 ?_ rfl
    exact ⟨rfl, by unfold useT; rw [if_pos c10] <;> rfl⟩
  · refine v_aload_n K dX5_useRule_13 rfl ?_
    refine v_get K 0 rfl hasF_c rfl iX5 0 (by decide) rfl (by decide +kernel) rfl dX5_useRule_14 ?_
    refine v_iload_n K dX5_useRule_17 rfl ?_
    refine v_callVv K [1] (c_X3_add (XI X) (XB X) _ _ _ _ _ ) rfl gX5_useRule_X3_add rfl rfl hd_X3_add ⟨rfl, rfl⟩ ⟨by decide, by decide⟩ 1 rfl rowF rfl (by decide) (Nat.le_of_ble_eq_true rfl) ⟨Nat.zero_le _, Nat.zero_le _⟩ rfl dX5_useRule_18 ?_
    refine v_aload_n K dX5_useRule_21 rfl ?_
    refine v_get K 0 rfl hasF_c rfl iX5 2 (by decide) rfl (by decide +kernel) rfl dX5_useRule_22 ?_
    refine v_iload_n K dX5_useRule_25 rfl ?_
    refine v_callVv K [3] (c_X3_add (XI X) (XB X) _ _ _ _ _ ) rfl gX5_useRule_X3_add rfl rfl hd_X3_add ⟨rfl, rfl⟩ ⟨by decide, by decide⟩ 3 rfl rowF rfl (by decide) (Nat.le_of_ble_eq_true rfl) ⟨Nat.zero_le _, Nat.zero_le _⟩ rfl dX5_useRule_26 ?_
    refine v_aload_n K dX5_useRule_29 rfl ?_
    refine v_get K 0 rfl hasF_c rfl iX5 1 (by decide) rfl (by decide +kernel) rfl dX5_useRule_30 ?_
    refine v_iload_n K dX5_useRule_33 rfl ?_
    refine v_aload_n K dX5_useRule_34 rfl ?_
    refine v_get K 5 rfl hasF_c rfl iX0 0 (by decide) rfl (by decide +kernel) rfl dX5_useRule_35 ?_
    refine v_iload_n K dX5_useRule_38 rfl ?_
    refine v_callVi K [6] (c_X4_length (XI X) (XB X) _ _ _ _ _ _ _ _ _ ) rfl gX5_useRule_X4_length rfl rfl hd_X4_length ⟨rfl, rfl⟩ ⟨by decide, by decide⟩ 6 rfl rowsF rfl (by decide) (Nat.le_of_ble_eq_true rfl) ⟨Nat.zero_le _, Nat.zero_le _⟩ rfl dX5_useRule_39 ?_
    rw [gl_n hI hN]
    refine v_callVv K [2] (c_X3_addMany (XI X) (XB X) _ _ _ _ _ _ ?hc42_0) rfl gX5_useRule_X3_addMany rfl rfl hd_X3_addMany ⟨rfl, rfl⟩ ⟨by decide, by decide⟩ 2 rfl rowF rfl (by decide) (Nat.le_of_ble_eq_true rfl) ⟨Nat.zero_le _, Nat.zero_le _⟩ rfl dX5_useRule_42 ?_
    case hc42_0 => omega
    refine v_cbook 5 rfl ?_
    refine v_csp 0 rfl ?_
    refine v_ret K E dX5_useRule_45 ?_ rfl
    exact ⟨rfl, by unfold useT; rw [if_neg c10] <;> rfl⟩

theorem hd_X5_hear : yX5_hear.cls = RX5 ∧ yX5_hear.cls ≠ "java/lang/invoke/MethodHandle" ∧ yX5_hear.cls ≠ "java/lang/invoke/VarHandle" ∧ (parseMethodDescriptor yX5_hear.desc).map (fun d => d.parameters.length) = some 2 := by decide +kernel
set_option maxHeartbeats 4000000 in
set_option maxRecDepth 100000 in
theorem c_X5_hear (cI cB : ClassId) (Q : Nat → Nat) (T : T4) (A : Nat → Nat) (nr nw : Nat) (S : Bk) (r a cap : Nat) (xs : List Int32)  : Ct cI cB yX5_hear wsX5_hear { frames := 4, cells := 0, slots := 0, locals := 95 } [.ref (Q 0), .ref (A 0), .ref r] [spM cI Q T, bookM cI A nr nw S, rowM cI r a cap xs] (dn [spM cI Q ((hrF S xs 12 0 ([], [], [])).1, (hrF S xs 12 0 ([], [], [])).2.1, (hrF S xs 12 0 ([], [], [])).2.2, T.2.2.2), bookM cI A nr nw S, rowM cI r a cap xs]) := by
  refine ct_of (cc := cX5_hear) (maxL := 6) (ret := none) (by decide) rfl (Nat.le_of_ble_eq_true rfl) [(0, .ref (Q 0)), (1, .ref (A 0)), (2, .ref r)] rfl ?_
  intro X hI hB K E
  subst hI
  subst hB
  have iX0 : ∀ w ∈ u_ws RX0 TX0 6, w ∈ wsX5_hear := by decide +kernel
  have iX5 : ∀ w ∈ u_ws RX5 TX5 4, w ∈ wsX5_hear := by decide +kernel
  refine v_obook 1 rfl ?_
  refine v_rowsrl 2 rfl (fun hE => ?_)
  obtain ⟨C0, hC0⟩ := hE
  have hN := rl_N hC0
  refine v_cbook 1 rfl ?_
  refine v_rowlen 2 rfl (fun hX => ?_)
  have lp : ∀ k, k ≤ 12 → ∀ (x y : Int32) (p : Nat) (Z : T3), x = nI k → y = nI p → p ≤ 4 * k → hrF S xs (12 - k) p Z = hrF S xs 12 0 ([], [], []) → V X 0 0 26 [(0, .ref (Q 0)), (1, .ref (A 0)), (2, .ref r), (3, .int y), (4, .int x)] [] [spM (XI X) Q (Z.1, Z.2.1, Z.2.2, T.2.2.2), bookM (XI X) A nr nw S, rowM (XI X) r a cap xs] := by
    refine loop_up 12 ?_
    intro k hk ih x y p Z hx hy hp hz
    subst hx
    subst hy
    refine v_iload K dX5_hear_26 rfl ?_
    refine v_bipush K (12) dX5_hear_28 (by decide) ?_
    refine v_ic_ge K 108 dX5_hear_30 (by decide) (fun c30 => ?_) (fun c30 => ?_)
    · refine v_ret K E dX5_hear_108 ?_ rfl
      exact ⟨rfl, by rw [← hz, up_end rfl (by decide) hk c30] <;> rfl⟩
    · have hlt := up_lt rfl (by decide) hk c30
      refine v_iload_n K dX5_hear_33 rfl ?_
      refine v_aload_n K dX5_hear_34 rfl ?_
      refine v_callVi K [2] (c_X3_size (XI X) (XB X) _ _ _ _ ) rfl gX5_hear_X3_size rfl rfl hd_X3_size ⟨rfl, rfl⟩ ⟨by decide, by decide⟩ 2 rfl rowF rfl (by decide) (Nat.le_of_ble_eq_true rfl) ⟨Nat.zero_le _, Nat.zero_le _⟩ rfl dX5_hear_35 ?_
      refine v_ic_ge K 108 dX5_hear_38 (by decide) (fun c38 => ?_) (fun c38 => ?_)
      · refine v_ret K E dX5_hear_108 ?_ rfl
        exact ⟨rfl, by rw [← hz, hrF_end ((nI_leI (by omega) (by omega)).mp c38)] <;> rfl⟩
      · have hnp : ¬ xs.length ≤ p := fun z => c38 (nI_le z (by omega))
        refine v_aload_n K dX5_hear_41 rfl ?_
        refine v_aload_n K dX5_hear_42 rfl ?_
        refine v_iload_n K dX5_hear_43 rfl ?_
        refine v_callSi K [1, 2] (c_X5_bestRule (XI X) (XB X) _ _ _ _ _ _ _ _ _ ?hc44_0) rfl gX5_hear_X5_bestRule rfl rfl hd_X5_bestRule ⟨rfl, rfl⟩ ⟨by decide, by decide⟩ (by decide) (Nat.le_of_ble_eq_true rfl) ⟨Nat.zero_le _, Nat.zero_le _⟩ rfl dX5_hear_44 ?_
        case hc44_0 => omega
        refine v_istore K dX5_hear_47 (by decide) ?_
        refine v_iload K dX5_hear_49 rfl ?_
        refine v_bipush K (-5) dX5_hear_51 (by decide) ?_
        refine v_ic_ne K 83 dX5_hear_53 (by decide) (fun c53 => ?_) (fun c53 => ?_)
        · obtain ⟨I, hI, hbI⟩ := (bst_of S xs p S.1.length).resolve_left c53
          have hl : (S.1.getD I []).length ≤ 4 := rl_len hC0
          rw [hbI]
          refine v_aload_n K dX5_hear_83 rfl ?_
          refine v_aload_n K dX5_hear_84 rfl ?_
          refine v_iload K dX5_hear_85 rfl ?_
          refine v_callVv K [0, 1] (c_X5_useRule (XI X) (XB X) _ _ _ _ _ _ _ ?hc87_0) rfl gX5_hear_X5_useRule rfl rfl hd_X5_useRule ⟨rfl, rfl⟩ ⟨by decide, by decide⟩ 0 rfl spF rfl (by decide) (Nat.le_of_ble_eq_true rfl) ⟨Nat.zero_le _, Nat.zero_le _⟩ rfl dX5_hear_87 ?_
          case hc87_0 => exact hI
          refine v_iload_n K dX5_hear_90 rfl ?_
          refine v_obook 1 rfl ?_
          refine v_aload_n K dX5_hear_91 rfl ?_
          refine v_get K 1 rfl hasF_c rfl iX0 0 (by decide) rfl (by decide +kernel) rfl dX5_hear_92 ?_
          refine v_iload K dX5_hear_95 rfl ?_
          refine v_callVi K [2] (c_X4_length (XI X) (XB X) _ _ _ _ _ _ _ _ _ ) rfl gX5_hear_X4_length rfl rfl hd_X4_length ⟨rfl, rfl⟩ ⟨by decide, by decide⟩ 2 rfl rowsF rfl (by decide) (Nat.le_of_ble_eq_true rfl) ⟨Nat.zero_le _, Nat.zero_le _⟩ rfl dX5_hear_97 ?_
          rw [gl_n hI hN]
          refine v_iadd K dX5_hear_100 ?_
          refine v_cbook 1 rfl ?_
          refine v_istore_n K dX5_hear_101 (by decide) ?_
          refine v_iinc K dX5_hear_102 rfl (by decide) iinc_1 ?_
          refine v_goto K 26 dX5_hear_105 (by decide) ?_
          exact v_j (ih hlt _ _ (p + (S.1.getD I []).length) (useT S I Z) (nI_1 k) (nI_add _ _) (by omega) (by rw [← hz, hrF_use hlt hnp c53 hbI (by omega)])) rfl rfl rfl
        · refine v_osp 0 rfl ?_
          refine v_aload_n K dX5_hear_56 rfl ?_
          refine v_get K 0 rfl hasF_c rfl iX5 0 (by decide) rfl (by decide +kernel) rfl dX5_hear_57 ?_
          refine v_aload_n K dX5_hear_60 rfl ?_
          refine v_iload_n K dX5_hear_61 rfl ?_
          refine v_callVi K [6] (c_X3_get (XI X) (XB X) _ _ _ _ _ ) rfl gX5_hear_X3_get rfl rfl hd_X3_get ⟨rfl, rfl⟩ ⟨by decide, by decide⟩ 6 rfl rowF rfl (by decide) (Nat.le_of_ble_eq_true rfl) ⟨Nat.zero_le _, Nat.zero_le _⟩ rfl dX5_hear_62 ?_
          rw [gt_n (by omega)]
          refine v_callVv K [1] (c_X3_add (XI X) (XB X) _ _ _ _ _ ) rfl gX5_hear_X3_add rfl rfl hd_X3_add ⟨rfl, rfl⟩ ⟨by decide, by decide⟩ 1 rfl rowF rfl (by decide) (Nat.le_of_ble_eq_true rfl) ⟨Nat.zero_le _, Nat.zero_le _⟩ rfl dX5_hear_65 ?_
          refine v_aload_n K dX5_hear_68 rfl ?_
          refine v_get K 0 rfl hasF_c rfl iX5 1 (by decide) rfl (by decide +kernel) rfl dX5_hear_69 ?_
          refine v_bipush K (-5) dX5_hear_72 (by decide) ?_
          refine v_callVv K [2] (c_X3_add (XI X) (XB X) _ _ _ _ _ ) rfl gX5_hear_X3_add rfl rfl hd_X3_add ⟨rfl, rfl⟩ ⟨by decide, by decide⟩ 2 rfl rowF rfl (by decide) (Nat.le_of_ble_eq_true rfl) ⟨Nat.zero_le _, Nat.zero_le _⟩ rfl dX5_hear_74 ?_
          refine v_csp 0 rfl ?_
          refine v_iinc K dX5_hear_77 rfl (by decide) iinc_1 ?_
          refine v_goto K 102 dX5_hear_80 (by decide) ?_
          refine v_iinc K dX5_hear_102 rfl (by decide) iinc_1 ?_
          refine v_goto K 26 dX5_hear_105 (by decide) ?_
          exact v_j (ih hlt _ _ (p + 1) (adL 12 Z.1 (xs.getD p (-5)), adL 12 Z.2.1 (-5), Z.2.2) (nI_1 k) (nI_1 p) (by omega) (by rw [← hz, hrF_none hlt hnp c53])) rfl rfl rfl
  refine v_osp 0 rfl ?_
  refine v_aload_n K dX5_hear_0 rfl ?_
  refine v_get K 0 rfl hasF_c rfl iX5 0 (by decide) rfl (by decide +kernel) rfl dX5_hear_1 ?_
  refine v_callVv K [1] (c_X3_clear (XI X) (XB X) _ _ _ _ ) rfl gX5_hear_X3_clear rfl rfl hd_X3_clear ⟨rfl, rfl⟩ ⟨by decide, by decide⟩ 1 rfl rowF rfl (by decide) (Nat.le_of_ble_eq_true rfl) ⟨Nat.zero_le _, Nat.zero_le _⟩ rfl dX5_hear_4 ?_
  refine v_aload_n K dX5_hear_7 rfl ?_
  refine v_get K 0 rfl hasF_c rfl iX5 1 (by decide) rfl (by decide +kernel) rfl dX5_hear_8 ?_
  refine v_callVv K [2] (c_X3_clear (XI X) (XB X) _ _ _ _ ) rfl gX5_hear_X3_clear rfl rfl hd_X3_clear ⟨rfl, rfl⟩ ⟨by decide, by decide⟩ 2 rfl rowF rfl (by decide) (Nat.le_of_ble_eq_true rfl) ⟨Nat.zero_le _, Nat.zero_le _⟩ rfl dX5_hear_11 ?_
  refine v_aload_n K dX5_hear_14 rfl ?_
  refine v_get K 0 rfl hasF_c rfl iX5 2 (by decide) rfl (by decide +kernel) rfl dX5_hear_15 ?_
  refine v_callVv K [3] (c_X3_clear (XI X) (XB X) _ _ _ _ ) rfl gX5_hear_X3_clear rfl rfl hd_X3_clear ⟨rfl, rfl⟩ ⟨by decide, by decide⟩ 3 rfl rowF rfl (by decide) (Nat.le_of_ble_eq_true rfl) ⟨Nat.zero_le _, Nat.zero_le _⟩ rfl dX5_hear_18 ?_
  refine v_csp 0 rfl ?_
  refine v_iconst K (0) dX5_hear_21 (by decide) ?_
  refine v_istore_n K dX5_hear_22 (by decide) ?_
  refine v_iconst K (0) dX5_hear_23 (by decide) ?_
  refine v_istore K dX5_hear_24 (by decide) ?_
  exact v_j (lp 0 (Nat.zero_le _) 0 0 0 ([], [], []) rfl rfl (Nat.le_refl _) rfl) rfl rfl rfl

theorem hd_X5_addSign : yX5_addSign.cls = RX5 ∧ yX5_addSign.cls ≠ "java/lang/invoke/MethodHandle" ∧ yX5_addSign.cls ≠ "java/lang/invoke/VarHandle" ∧ (parseMethodDescriptor yX5_addSign.desc).map (fun d => d.parameters.length) = some 2 := by decide +kernel
set_option maxHeartbeats 4000000 in
set_option maxRecDepth 100000 in
theorem c_X5_addSign (cI cB : ClassId) (Q : Nat → Nat) (T : T4) (A : Nat → Nat) (nr nw : Nat) (S : Bk) (c : Int32)  : Ct cI cB yX5_addSign wsX5_addSign { frames := 2, cells := 0, slots := 0, locals := 44 } [.ref (Q 0), .ref (A 0), .int c] [spM cI Q T, bookM cI A nr nw S] (dn [spM cI Q (T.1, T.2.1, T.2.2.1, aaL 25 T.2.2.2 (sgn S.2.2.2.1 c)), bookM cI A nr nw S]) := by
  refine ct_of (cc := cX5_addSign) (maxL := 4) (ret := none) (by decide) rfl (Nat.le_of_ble_eq_true rfl) [(0, .ref (Q 0)), (1, .ref (A 0)), (2, .int c)] rfl ?_
  intro X hI hB K E
  subst hI
  subst hB
  have iX0 : ∀ w ∈ u_ws RX0 TX0 6, w ∈ wsX5_addSign := by decide +kernel
  have iX5 : ∀ w ∈ u_ws RX5 TX5 4, w ∈ wsX5_addSign := by decide +kernel
  refine v_osp 0 rfl ?_
  refine v_obook 5 rfl ?_
  refine v_rowsrl 9 rfl (fun hE => ?_)
  obtain ⟨C0, hC0⟩ := hE
  have hN := rl_N hC0
  have hY : (ln S.2.2.2.1 (c - 65)).length < 1000000000 := ln_len hC0
  refine v_iload_n K dX5_addSign_0 rfl ?_
  refine v_callNi (host := RX7) K [] (c_X7_isCapital (XI X) (XB X) _ ) rfl gX5_addSign_X7_isCapital_n97 rfl rfl (by decide +kernel) (by decide +kernel) (by decide +kernel) hd_X7_isCapital ⟨rfl, rfl⟩ ⟨by decide, by decide⟩ (by decide) (Nat.le_of_ble_eq_true rfl) ⟨Nat.zero_le _, Nat.zero_le _⟩ rfl dX5_addSign_1 ?_
  refine v_if_eq K 52 dX5_addSign_4 (by decide) (fun c4 => ?_) (fun c4 => ?_)
  · refine v_aload_n K dX5_addSign_52 rfl ?_
    refine v_get K 0 rfl hasF_c rfl iX5 3 (by decide) rfl (by decide +kernel) rfl dX5_addSign_53 ?_
    refine v_iload_n K dX5_addSign_56 rfl ?_
    refine v_callVv K [4] (c_X3_add (XI X) (XB X) _ _ _ _ _ ) rfl gX5_addSign_X3_add rfl rfl hd_X3_add ⟨rfl, rfl⟩ ⟨by decide, by decide⟩ 4 rfl rowF rfl (by decide) (Nat.le_of_ble_eq_true rfl) ⟨Nat.zero_le _, Nat.zero_le _⟩ rfl dX5_addSign_57 ?_
    refine v_cbook 5 rfl ?_
    refine v_csp 0 rfl ?_
    refine v_ret K E dX5_addSign_60 ?_ rfl
    exact ⟨rfl, by rw [show sgn S.2.2.2.1 c = [c] from if_neg (by rw [bI_0 c4]; exact Bool.false_ne_true)] <;> rfl⟩
  · refine v_iconst K (0) dX5_addSign_7 (by decide) ?_
    refine v_istore_n K dX5_addSign_8 (by decide) ?_
    have hcp := bI_1 c4
    have lp : ∀ k, k ≤ (ln S.2.2.2.1 (c - 65)).length → ∀ (x : Int32) (zs : List Int32), x = nI k → aaL 25 zs ((ln S.2.2.2.1 (c - 65)).drop k) = aaL 25 T.2.2.2 (ln S.2.2.2.1 (c - 65)) → V X 0 0 9 [(0, .ref (Q 0)), (1, .ref (A 0)), (2, .int c), (3, .int x)] [] ([cM (Q 0) (.inr (5, [.ref (Q 1), .ref (Q 3), .ref (Q 5), .ref (Q 7)])), rowM (XI X) (Q 1) (Q 2) 12 T.1, rowM (XI X) (Q 3) (Q 4) 12 T.2.1, rowM (XI X) (Q 5) (Q 6) 12 T.2.2.1, rowM (XI X) (Q 7) (Q 8) 25 zs] ++ [cM (A 0) (.inr (0, [.ref (A 1), .ref (A 6), .ref (A 8), .ref (A 10), .ref (A 15), .ref (A 20)])), rowsM (XI X) (A 1) (A 2) (A 3) (A 4) (A 5) nr 4 S.1, rowM (XI X) (A 6) (A 7) nr S.2.1, rowM (XI X) (A 8) (A 9) nr S.2.2.1, rowsM (XI X) (A 10) (A 11) (A 12) (A 13) (A 14) 26 2 S.2.2.2.1, rowsM (XI X) (A 15) (A 16) (A 17) (A 18) (A 19) nw 12 S.2.2.2.2.1, rowM (XI X) (A 20) (A 21) nw S.2.2.2.2.2]) := by
      refine loop_up (ln S.2.2.2.1 (c - 65)).length ?_
      intro k hk ih x zs hx hy
      subst hx
      refine v_iload_n K dX5_addSign_9 rfl ?_
      refine v_aload_n K dX5_addSign_10 rfl ?_
      refine v_get K 5 rfl hasF_c rfl iX0 3 (by decide) rfl (by decide +kernel) rfl dX5_addSign_11 ?_
      refine v_iload_n K dX5_addSign_14 rfl ?_
      refine v_bipush K (65) dX5_addSign_15 (by decide) ?_
      refine v_isub K dX5_addSign_17 ?_
      refine v_callVi K [9] (c_X4_length (XI X) (XB X) _ _ _ _ _ _ _ _ _ ) rfl gX5_addSign_X4_length rfl rfl hd_X4_length ⟨rfl, rfl⟩ ⟨by decide, by decide⟩ 9 rfl rowsF rfl (by decide) (Nat.le_of_ble_eq_true rfl) ⟨Nat.zero_le _, Nat.zero_le _⟩ rfl dX5_addSign_18 ?_
      refine v_ic_ge K 49 dX5_addSign_21 (by decide) (fun c21 => ?_) (fun c21 => ?_)
      · refine v_goto K 60 dX5_addSign_49 (by decide) ?_
        refine v_cbook 5 rfl ?_
        refine v_csp 0 rfl ?_
        refine v_ret K E dX5_addSign_60 ?_ rfl
        exact ⟨rfl, by rw [sgn_lt hcp, ← hy, cp_end hN hY hk c21, List.drop_length] <;> rfl⟩
      · have hlt := cp_lt hN hY hk c21
        refine v_aload_n K dX5_addSign_24 rfl ?_
        refine v_get K 0 rfl hasF_c rfl iX5 3 (by decide) rfl (by decide +kernel) rfl dX5_addSign_25 ?_
        refine v_aload_n K dX5_addSign_28 rfl ?_
        refine v_get K 5 rfl hasF_c rfl iX0 3 (by decide) rfl (by decide +kernel) rfl dX5_addSign_29 ?_
        refine v_iload_n K dX5_addSign_32 rfl ?_
        refine v_bipush K (65) dX5_addSign_33 (by decide) ?_
        refine v_isub K dX5_addSign_35 ?_
        refine v_iload_n K dX5_addSign_36 rfl ?_
        refine v_callVi K [9] (c_X4_get (XI X) (XB X) _ _ _ _ _ _ _ _ _ _ ) rfl gX5_addSign_X4_get rfl rfl hd_X4_get ⟨rfl, rfl⟩ ⟨by decide, by decide⟩ 9 rfl rowsF rfl (by decide) (Nat.le_of_ble_eq_true rfl) ⟨Nat.zero_le _, Nat.zero_le _⟩ rfl dX5_addSign_37 ?_
        rw [show gg S.2.2.2.1 (c - 65) (nI k) = gt (ln S.2.2.2.1 (c - 65)) (nI k) from rfl]
        refine v_callVv K [4] (c_X3_add (XI X) (XB X) _ _ _ _ _ ) rfl gX5_addSign_X3_add rfl rfl hd_X3_add ⟨rfl, rfl⟩ ⟨by decide, by decide⟩ 4 rfl rowF rfl (by decide) (Nat.le_of_ble_eq_true rfl) ⟨Nat.zero_le _, Nat.zero_le _⟩ rfl dX5_addSign_40 ?_
        refine v_iinc K dX5_addSign_43 rfl (by decide) iinc_1 ?_
        refine v_goto K 9 dX5_addSign_46 (by decide) ?_
        exact v_j (ih hlt _ _ (nI_1 k) (by rw [← hy]; exact (aaL_step hlt hY).symm)) rfl rfl rfl
    exact v_j (lp 0 (Nat.zero_le _) 0 T.2.2.2 rfl rfl) rfl rfl rfl

theorem hd_X5_write : yX5_write.cls = RX5 ∧ yX5_write.cls ≠ "java/lang/invoke/MethodHandle" ∧ yX5_write.cls ≠ "java/lang/invoke/VarHandle" ∧ (parseMethodDescriptor yX5_write.desc).map (fun d => d.parameters.length) = some 3 := by decide +kernel
set_option maxHeartbeats 4000000 in
set_option maxRecDepth 100000 in
theorem c_X5_write (cI cB : ClassId) (Q : Nat → Nat) (T : T4) (A : Nat → Nat) (nr nw : Nat) (S : Bk) (r a cap : Nat) (xs : List Int32) (kind : Int32)  : Ct cI cB yX5_write wsX5_write { frames := 3, cells := 0, slots := 0, locals := 67 } [.ref (Q 0), .ref (A 0), .ref r, .int kind] [spM cI Q T, bookM cI A nr nw S, rowM cI r a cap xs] (dn [spM cI Q (T.1, T.2.1, T.2.2.1, wrS S.2.2.2.1 T.1 xs kind), bookM cI A nr nw S, rowM cI r a cap xs]) := by
  refine ct_of (cc := cX5_write) (maxL := 5) (ret := none) (by decide) rfl (Nat.le_of_ble_eq_true rfl) [(0, .ref (Q 0)), (1, .ref (A 0)), (2, .ref r), (3, .int kind)] rfl ?_
  intro X hI hB K E
  subst hI
  subst hB
  have iX5 : ∀ w ∈ u_ws RX5 TX5 4, w ∈ wsX5_write := by decide +kernel
  refine v_osp 0 rfl ?_
  refine v_rowlen 1 rfl (fun hX => ?_)
  refine v_aload_n K dX5_write_0 rfl ?_
  refine v_get K 0 rfl hasF_c rfl iX5 3 (by decide) rfl (by decide +kernel) rfl dX5_write_1 ?_
  refine v_callVv K [4] (c_X3_clear (XI X) (XB X) _ _ _ _ ) rfl gX5_write_X3_clear rfl rfl hd_X3_clear ⟨rfl, rfl⟩ ⟨by decide, by decide⟩ 4 rfl rowF rfl (by decide) (Nat.le_of_ble_eq_true rfl) ⟨Nat.zero_le _, Nat.zero_le _⟩ rfl dX5_write_4 ?_
  refine v_iload_n K dX5_write_7 rfl ?_
  refine v_iconst K (1) dX5_write_8 (by decide) ?_
  refine v_ic_eq K 47 dX5_write_9 (by decide) (fun c9 => ?_) (fun c9 => ?_)
  · have hw1 : wr1 S.2.2.2.1 T.1 kind = [] := if_pos c9
    have ze : nI ([] : List Int32).length = 0 → ([] : List Int32).length = 0 := fun _ => rfl
    refine v_aload_n K dX5_write_47 rfl ?_
    refine v_get K 0 rfl hasF_c rfl iX5 3 (by decide) rfl (by decide +kernel) rfl dX5_write_48 ?_
    refine v_callVi K [4] (c_X3_size (XI X) (XB X) _ _ _ _ ) rfl gX5_write_X3_size rfl rfl hd_X3_size ⟨rfl, rfl⟩ ⟨by decide, by decide⟩ 4 rfl rowF rfl (by decide) (Nat.le_of_ble_eq_true rfl) ⟨Nat.zero_le _, Nat.zero_le _⟩ rfl dX5_write_51 ?_
    refine v_if_ne K 65 dX5_write_54 (by decide) (fun c54 => ?_) (fun c54 => ?_)
    · refine v_iload_n K dX5_write_65 rfl ?_
      refine v_iconst K (2) dX5_write_66 (by decide) ?_
      refine v_ic_ne K 79 dX5_write_67 (by decide) (fun c67 => ?_) (fun c67 => ?_)
      · refine v_csp 0 rfl ?_
        refine v_ret K E dX5_write_79 ?_ rfl
        have hw2 : wr2 ([] : List Int32) xs = ([] : List Int32) := if_neg (fun z => c54 (congrArg nI z))
        have hw3 : wr3 ([] : List Int32) kind = ([] : List Int32) := if_neg c67
        exact ⟨rfl, by unfold wrS; rw [hw1, hw2, hw3] <;> rfl⟩
      · refine v_aload_n K dX5_write_70 rfl ?_
        refine v_get K 0 rfl hasF_c rfl iX5 3 (by decide) rfl (by decide +kernel) rfl dX5_write_71 ?_
        refine v_bipush K (39) dX5_write_74 (by decide) ?_
        refine v_callVv K [4] (c_X3_add (XI X) (XB X) _ _ _ _ _ ) rfl gX5_write_X3_add rfl rfl hd_X3_add ⟨rfl, rfl⟩ ⟨by decide, by decide⟩ 4 rfl rowF rfl (by decide) (Nat.le_of_ble_eq_true rfl) ⟨Nat.zero_le _, Nat.zero_le _⟩ rfl dX5_write_76 ?_
        refine v_csp 0 rfl ?_
        refine v_ret K E dX5_write_79 ?_ rfl
        have hw2 : wr2 ([] : List Int32) xs = ([] : List Int32) := if_neg (fun z => c54 (congrArg nI z))
        have hw3 : wr3 ([] : List Int32) kind = adL 25 ([] : List Int32) 39 := if_pos c67
        exact ⟨rfl, by unfold wrS; rw [hw1, hw2, hw3] <;> rfl⟩
    · refine v_aload_n K dX5_write_57 rfl ?_
      refine v_get K 0 rfl hasF_c rfl iX5 3 (by decide) rfl (by decide +kernel) rfl dX5_write_58 ?_
      refine v_aload_n K dX5_write_61 rfl ?_
      refine v_callVv K [4, 6] (c_X3_addAll (XI X) (XB X) _ _ _ _ _ _ _ _ ) rfl gX5_write_X3_addAll rfl rfl hd_X3_addAll ⟨rfl, rfl⟩ ⟨by decide, by decide⟩ 4 rfl rowF rfl (by decide) (Nat.le_of_ble_eq_true rfl) ⟨Nat.zero_le _, Nat.zero_le _⟩ rfl dX5_write_62 ?_
      refine v_iload_n K dX5_write_65 rfl ?_
      refine v_iconst K (2) dX5_write_66 (by decide) ?_
      refine v_ic_ne K 79 dX5_write_67 (by decide) (fun c67 => ?_) (fun c67 => ?_)
      · refine v_csp 0 rfl ?_
        refine v_ret K E dX5_write_79 ?_ rfl
        have hw2 : wr2 ([] : List Int32) xs = aaL 25 ([] : List Int32) xs := if_pos (ze c54)
        have hw3 : wr3 (aaL 25 ([] : List Int32) xs) kind = (aaL 25 ([] : List Int32) xs) := if_neg c67
        exact ⟨rfl, by unfold wrS; rw [hw1, hw2, hw3] <;> rfl⟩
      · refine v_aload_n K dX5_write_70 rfl ?_
        refine v_get K 0 rfl hasF_c rfl iX5 3 (by decide) rfl (by decide +kernel) rfl dX5_write_71 ?_
        refine v_bipush K (39) dX5_write_74 (by decide) ?_
        refine v_callVv K [4] (c_X3_add (XI X) (XB X) _ _ _ _ _ ) rfl gX5_write_X3_add rfl rfl hd_X3_add ⟨rfl, rfl⟩ ⟨by decide, by decide⟩ 4 rfl rowF rfl (by decide) (Nat.le_of_ble_eq_true rfl) ⟨Nat.zero_le _, Nat.zero_le _⟩ rfl dX5_write_76 ?_
        refine v_csp 0 rfl ?_
        refine v_ret K E dX5_write_79 ?_ rfl
        have hw2 : wr2 ([] : List Int32) xs = aaL 25 ([] : List Int32) xs := if_pos (ze c54)
        have hw3 : wr3 (aaL 25 ([] : List Int32) xs) kind = adL 25 (aaL 25 ([] : List Int32) xs) 39 := if_pos c67
        exact ⟨rfl, by unfold wrS; rw [hw1, hw2, hw3] <;> rfl⟩
  · refine v_csp 0 rfl ?_
    refine v_iconst K (0) dX5_write_12 (by decide) ?_
    refine v_istore K dX5_write_13 (by decide) ?_
    have lp : ∀ k, k ≤ T.1.length → ∀ (x : Int32) (zs : List Int32), x = nI k → adS S.2.2.2.1 zs (T.1.drop k) = adS S.2.2.2.1 [] T.1 → V X 0 0 15 [(0, .ref (Q 0)), (1, .ref (A 0)), (2, .ref r), (3, .int kind), (4, .int x)] [] [spM (XI X) Q (T.1, T.2.1, T.2.2.1, zs), bookM (XI X) A nr nw S, rowM (XI X) r a cap xs] := by
      refine loop_up T.1.length ?_
      intro k hk ih x zs hx hy
      subst hx
      refine v_iload K dX5_write_15 rfl ?_
      refine v_osp 0 rfl ?_
      refine v_aload_n K dX5_write_17 rfl ?_
      refine v_get K 0 rfl hasF_c rfl iX5 0 (by decide) rfl (by decide +kernel) rfl dX5_write_18 ?_
      refine v_callVi K [1] (c_X3_size (XI X) (XB X) _ _ _ _ ) rfl gX5_write_X3_size rfl rfl hd_X3_size ⟨rfl, rfl⟩ ⟨by decide, by decide⟩ 1 rfl rowF rfl (by decide) (Nat.le_of_ble_eq_true rfl) ⟨Nat.zero_le _, Nat.zero_le _⟩ rfl dX5_write_21 ?_
      refine v_ic_ge K 47 dX5_write_24 (by decide) (fun c24 => ?_) (fun c24 => ?_)
      · have hz : zs = adS S.2.2.2.1 [] T.1 := by rw [← hy, up_end rfl hX hk c24, List.drop_length] <;> rfl
        subst hz
        refine v_rowlen 4 rfl (fun hS4 => ?_)
        replace hS4 : (adS S.2.2.2.1 [] T.1).length < 1000000000 := hS4
        have ze : nI (adS S.2.2.2.1 [] T.1).length = 0 → (adS S.2.2.2.1 [] T.1).length = 0 := fun z => (nI_eq (b := 0) (by omega) (by decide)).mp z
        refine v_aload_n K dX5_write_47 rfl ?_
        refine v_get K 0 rfl hasF_c rfl iX5 3 (by decide) rfl (by decide +kernel) rfl dX5_write_48 ?_
        refine v_callVi K [4] (c_X3_size (XI X) (XB X) _ _ _ _ ) rfl gX5_write_X3_size rfl rfl hd_X3_size ⟨rfl, rfl⟩ ⟨by decide, by decide⟩ 4 rfl rowF rfl (by decide) (Nat.le_of_ble_eq_true rfl) ⟨Nat.zero_le _, Nat.zero_le _⟩ rfl dX5_write_51 ?_
        refine v_if_ne K 65 dX5_write_54 (by decide) (fun c54 => ?_) (fun c54 => ?_)
        · refine v_iload_n K dX5_write_65 rfl ?_
          refine v_iconst K (2) dX5_write_66 (by decide) ?_
          refine v_ic_ne K 79 dX5_write_67 (by decide) (fun c67 => ?_) (fun c67 => ?_)
          · refine v_csp 0 rfl ?_
            refine v_ret K E dX5_write_79 ?_ rfl
            have hw1 : wr1 S.2.2.2.1 T.1 kind = adS S.2.2.2.1 [] T.1 := if_neg c9
            have hw2 : wr2 (adS S.2.2.2.1 [] T.1) xs = (adS S.2.2.2.1 [] T.1) := if_neg (fun z => c54 (congrArg nI z))
            have hw3 : wr3 (adS S.2.2.2.1 [] T.1) kind = (adS S.2.2.2.1 [] T.1) := if_neg c67
            exact ⟨rfl, by unfold wrS; rw [hw1, hw2, hw3] <;> rfl⟩
          · refine v_aload_n K dX5_write_70 rfl ?_
            refine v_get K 0 rfl hasF_c rfl iX5 3 (by decide) rfl (by decide +kernel) rfl dX5_write_71 ?_
            refine v_bipush K (39) dX5_write_74 (by decide) ?_
            refine v_callVv K [4] (c_X3_add (XI X) (XB X) _ _ _ _ _ ) rfl gX5_write_X3_add rfl rfl hd_X3_add ⟨rfl, rfl⟩ ⟨by decide, by decide⟩ 4 rfl rowF rfl (by decide) (Nat.le_of_ble_eq_true rfl) ⟨Nat.zero_le _, Nat.zero_le _⟩ rfl dX5_write_76 ?_
            refine v_csp 0 rfl ?_
            refine v_ret K E dX5_write_79 ?_ rfl
            have hw1 : wr1 S.2.2.2.1 T.1 kind = adS S.2.2.2.1 [] T.1 := if_neg c9
            have hw2 : wr2 (adS S.2.2.2.1 [] T.1) xs = (adS S.2.2.2.1 [] T.1) := if_neg (fun z => c54 (congrArg nI z))
            have hw3 : wr3 (adS S.2.2.2.1 [] T.1) kind = adL 25 (adS S.2.2.2.1 [] T.1) 39 := if_pos c67
            exact ⟨rfl, by unfold wrS; rw [hw1, hw2, hw3] <;> rfl⟩
        · refine v_aload_n K dX5_write_57 rfl ?_
          refine v_get K 0 rfl hasF_c rfl iX5 3 (by decide) rfl (by decide +kernel) rfl dX5_write_58 ?_
          refine v_aload_n K dX5_write_61 rfl ?_
          refine v_callVv K [4, 6] (c_X3_addAll (XI X) (XB X) _ _ _ _ _ _ _ _ ) rfl gX5_write_X3_addAll rfl rfl hd_X3_addAll ⟨rfl, rfl⟩ ⟨by decide, by decide⟩ 4 rfl rowF rfl (by decide) (Nat.le_of_ble_eq_true rfl) ⟨Nat.zero_le _, Nat.zero_le _⟩ rfl dX5_write_62 ?_
          refine v_iload_n K dX5_write_65 rfl ?_
          refine v_iconst K (2) dX5_write_66 (by decide) ?_
          refine v_ic_ne K 79 dX5_write_67 (by decide) (fun c67 => ?_) (fun c67 => ?_)
          · refine v_csp 0 rfl ?_
            refine v_ret K E dX5_write_79 ?_ rfl
            have hw1 : wr1 S.2.2.2.1 T.1 kind = adS S.2.2.2.1 [] T.1 := if_neg c9
            have hw2 : wr2 (adS S.2.2.2.1 [] T.1) xs = aaL 25 (adS S.2.2.2.1 [] T.1) xs := if_pos (ze c54)
            have hw3 : wr3 (aaL 25 (adS S.2.2.2.1 [] T.1) xs) kind = (aaL 25 (adS S.2.2.2.1 [] T.1) xs) := if_neg c67
            exact ⟨rfl, by unfold wrS; rw [hw1, hw2, hw3] <;> rfl⟩
          · refine v_aload_n K dX5_write_70 rfl ?_
            refine v_get K 0 rfl hasF_c rfl iX5 3 (by decide) rfl (by decide +kernel) rfl dX5_write_71 ?_
            refine v_bipush K (39) dX5_write_74 (by decide) ?_
            refine v_callVv K [4] (c_X3_add (XI X) (XB X) _ _ _ _ _ ) rfl gX5_write_X3_add rfl rfl hd_X3_add ⟨rfl, rfl⟩ ⟨by decide, by decide⟩ 4 rfl rowF rfl (by decide) (Nat.le_of_ble_eq_true rfl) ⟨Nat.zero_le _, Nat.zero_le _⟩ rfl dX5_write_76 ?_
            refine v_csp 0 rfl ?_
            refine v_ret K E dX5_write_79 ?_ rfl
            have hw1 : wr1 S.2.2.2.1 T.1 kind = adS S.2.2.2.1 [] T.1 := if_neg c9
            have hw2 : wr2 (adS S.2.2.2.1 [] T.1) xs = aaL 25 (adS S.2.2.2.1 [] T.1) xs := if_pos (ze c54)
            have hw3 : wr3 (aaL 25 (adS S.2.2.2.1 [] T.1) xs) kind = adL 25 (aaL 25 (adS S.2.2.2.1 [] T.1) xs) 39 := if_pos c67
            exact ⟨rfl, by unfold wrS; rw [hw1, hw2, hw3] <;> rfl⟩
      · have hlt := up_lt rfl hX hk c24
        refine v_aload_n K dX5_write_27 rfl ?_
        refine v_aload_n K dX5_write_28 rfl ?_
        refine v_aload_n K dX5_write_29 rfl ?_
        refine v_get K 0 rfl hasF_c rfl iX5 0 (by decide) rfl (by decide +kernel) rfl dX5_write_30 ?_
        refine v_iload K dX5_write_33 rfl ?_
        refine v_callVi K [1] (c_X3_get (XI X) (XB X) _ _ _ _ _ ) rfl gX5_write_X3_get rfl rfl hd_X3_get ⟨rfl, rfl⟩ ⟨by decide, by decide⟩ 1 rfl rowF rfl (by decide) (Nat.le_of_ble_eq_true rfl) ⟨Nat.zero_le _, Nat.zero_le _⟩ rfl dX5_write_35 ?_
        rw [gt_n (by omega)]
        refine v_csp 0 rfl ?_
        refine v_callVv K [0, 1] (c_X5_addSign (XI X) (XB X) _ _ _ _ _ _ _ ) rfl gX5_write_X5_addSign rfl rfl hd_X5_addSign ⟨rfl, rfl⟩ ⟨by decide, by decide⟩ 0 rfl spF rfl (by decide) (Nat.le_of_ble_eq_true rfl) ⟨Nat.zero_le _, Nat.zero_le _⟩ rfl dX5_write_38 ?_
        refine v_iinc K dX5_write_41 rfl (by decide) iinc_1 ?_
        refine v_goto K 15 dX5_write_44 (by decide) ?_
        exact v_j (ih hlt _ _ (nI_1 k) (by rw [← hy]; exact (adS_step hlt).symm)) rfl rfl rfl
    exact v_j (lp 0 (Nat.zero_le _) 0 [] rfl rfl) rfl rfl rfl
