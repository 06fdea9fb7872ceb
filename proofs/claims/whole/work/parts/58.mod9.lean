theorem hd_X8_isAt : yX8_isAt.cls = RX8 ∧ yX8_isAt.cls ≠ "java/lang/invoke/MethodHandle" ∧ yX8_isAt.cls ≠ "java/lang/invoke/VarHandle" ∧ (parseMethodDescriptor yX8_isAt.desc).map (fun d => d.parameters.length) = some 3 := by decide +kernel
set_option maxHeartbeats 4000000 in
set_option maxRecDepth 100000 in
theorem c_X8_isAt (cI cB : ClassId) (m : Nat → Nat) (hl it sz sl ut ol sp tw tm mm rl : Int32) (f : Nat → Int32) (ts : List Int32) (A F : Nat) (l xs : List Int32) (hp : pcT ts F xs) (h1 : f A = nI l.length) (h2 : ∀ j, j < l.length → f (A + 1 + j) = l.getD j (-5)) (h570 : A + 1 + l.length ≤ 570) : Ct cI cB yX8_isAt wsX8_isAt { frames := 0, cells := 0, slots := 0, locals := 0 } [.ref (m 0), .int (nI A), .int (nI F), .int (nI xs.length)] [moM m hl it sz sl ut ol (nI ts.length) sp tw tm mm rl, arF cI (m 1) 570 f, arL cI (m 12) 60 ts] (dv (bI (decide (l = xs))) [moM m hl it sz sl ut ol (nI ts.length) sp tw tm mm rl, arF cI (m 1) 570 f, arL cI (m 12) 60 ts]) := by
  refine ct_of (cc := cX8_isAt) (maxL := 6) (ret := (some .boolean)) (by decide) rfl (Nat.le_of_ble_eq_true rfl) [(0, .ref (m 0)), (1, .int (nI A)), (2, .int (nI F)), (3, .int (nI xs.length))] rfl ?_
  intro X hI hB K E
  subst hI
  subst hB
  have iX8 : ∀ w ∈ u_ws RX8 TX8 28, w ∈ wsX8_isAt := by decide +kernel
  refine v_arlen 2 rfl (fun hX => ?_)
  have hpl := hp.1
  have lp : ∀ k, k ≤ xs.length → ∀ (x : Int32) (b : Bool), x = nI k → b = decide (l.length = xs.length ∧ ∀ j, j < k → l.getD j (-5) = xs.getD j (-5)) → V X 0 0 20 [(0, .ref (m 0)), (1, .int (nI A)), (2, .int (nI F)), (3, .int (nI xs.length)), (4, .int (bI b)), (5, .int x)] [] [moM m hl it sz sl ut ol (nI ts.length) sp tw tm mm rl, arF (XI X) (m 1) 570 f, arL (XI X) (m 12) 60 ts] := by
    refine loop_up xs.length ?_
    intro k hk ih x b hx hb
    subst hx
    refine v_iload K dX8_isAt_20 rfl ?_
    refine v_iload_n K dX8_isAt_22 rfl ?_
    refine v_ic_ge K 67 dX8_isAt_23 (by decide) (fun c23 => ?_) (fun c23 => ?_)
    · refine v_iload K dX8_isAt_67 rfl ?_
      refine v_zret K E dX8_isAt_69 (by first | exact Or.inl rfl | exact Or.inr rfl | exact bI_01 _) ?_ rfl
      have he := up_end rfl (by omega) hk c23
      have e : b = decide (l = xs) := by
        rw [hb, decide_eq_decide]
        subst he
        exact ⟨fun z => isAt_t z.1 z.2, fun z => by rw [z]; exact ⟨rfl, fun _ _ => rfl⟩⟩
      exact ⟨by rw [e] <;> rfl, rfl⟩
    · have hlt := up_lt rfl (by omega) hk c23
      refine v_iload K dX8_isAt_26 rfl ?_
      refine v_if_eq K 67 dX8_isAt_28 (by decide) (fun c28 => ?_) (fun c28 => ?_)
      · refine v_iload K dX8_isAt_67 rfl ?_
        refine v_zret K E dX8_isAt_69 (by first | exact Or.inl rfl | exact Or.inr rfl | exact bI_01 _) ?_ rfl
        have h0 := bI_0 c28
        have e : decide (l = xs) = false := decide_eq_false (fun z => by rw [h0] at hb; exact of_decide_eq_false hb.symm (by rw [z]; exact ⟨rfl, fun _ _ => rfl⟩))
        exact ⟨by rw [e, h0] <;> rfl, rfl⟩
      · have hbt := bI_1 c28
        rw [hbt] at hb
        have hall := of_decide_eq_true hb.symm
        refine v_aload_n K dX8_isAt_31 rfl ?_
        refine v_get K 0 rfl hasF_c rfl iX8 0 (by decide) rfl (by decide +kernel) rfl dX8_isAt_32 ?_
        refine v_iload_n K dX8_isAt_35 rfl ?_
        refine v_iconst K (1) dX8_isAt_36 (by decide) ?_
        refine v_iadd K dX8_isAt_37 ?_
        refine v_iload K dX8_isAt_38 rfl ?_
        refine v_iadd K dX8_isAt_40 ?_
        refine v_fald K 1 rfl (A + 1 + k) ?hx41_1 ?ix41_1 dX8_isAt_41 ?_
        case hx41_1 => rw [nI_1, nI_add]
        case ix41_1 => exact ⟨by omega, by decide⟩
        rw [h2 k (by omega)]
        refine v_aload_n K dX8_isAt_42 rfl ?_
        refine v_get K 0 rfl hasF_c rfl iX8 17 (by decide) rfl (by decide +kernel) rfl dX8_isAt_43 ?_
        refine v_iload_n K dX8_isAt_46 rfl ?_
        refine v_iload K dX8_isAt_47 rfl ?_
        refine v_iadd K dX8_isAt_49 ?_
        refine v_lald K 2 rfl (F + k) ?hx50_2 ?ix50_2 dX8_isAt_50 ?_
        case hx50_2 => exact nI_add _ _
        case ix50_2 => omega
        rw [hp.2 k hlt]
        refine v_ic_ne K 58 dX8_isAt_51 (by decide) (fun c51 => ?_) (fun c51 => ?_)
        · refine v_iconst K (0) dX8_isAt_58 (by decide) ?_
          refine v_istore K dX8_isAt_59 (by decide) ?_
          refine v_iinc K dX8_isAt_61 rfl (by decide) iinc_1 ?_
          refine v_goto K 20 dX8_isAt_64 (by decide) ?_
          exact v_j (ih hlt _ false (nI_1 k) (by rw [decide_eq_false (fun z => c51 (z.2 k (by omega)))] <;> rfl)) rfl rfl rfl
        · refine v_iconst K (1) dX8_isAt_54 (by decide) ?_
          refine v_goto K 59 dX8_isAt_55 (by decide) ?_
          refine v_istore K dX8_isAt_59 (by decide) ?_
          refine v_iinc K dX8_isAt_61 rfl (by decide) iinc_1 ?_
          refine v_goto K 20 dX8_isAt_64 (by decide) ?_
          exact v_j (ih hlt _ true (nI_1 k) (by rw [decide_eq_true ⟨hall.1, fun j hj => (Nat.lt_or_ge j k).elim (hall.2 j) (fun h => by rw [show j = k by omega]; exact c51)⟩] <;> rfl)) rfl rfl rfl
  refine v_aload_n K dX8_isAt_0 rfl ?_
  refine v_get K 0 rfl hasF_c rfl iX8 0 (by decide) rfl (by decide +kernel) rfl dX8_isAt_1 ?_
  refine v_iload_n K dX8_isAt_4 rfl ?_
  refine v_fald K 1 rfl (A) ?hx5_3 ?ix5_3 dX8_isAt_5 ?_
  case hx5_3 => exact rfl
  case ix5_3 => exact ⟨by omega, by decide⟩
  rw [h1]
  refine v_iload_n K dX8_isAt_6 rfl ?_
  refine v_ic_ne K 14 dX8_isAt_7 (by decide) (fun c7 => ?_) (fun c7 => ?_)
  · refine v_iconst K (0) dX8_isAt_14 (by decide) ?_
    refine v_istore K dX8_isAt_15 (by decide) ?_
    refine v_iconst K (0) dX8_isAt_17 (by decide) ?_
    refine v_istore K dX8_isAt_18 (by decide) ?_
    exact v_j (lp 0 (Nat.zero_le _) 0 false rfl (by rw [decide_eq_false (fun z => c7 (by rw [z.1] <;> rfl))] <;> rfl)) rfl rfl rfl
  · refine v_iconst K (1) dX8_isAt_10 (by decide) ?_
    refine v_goto K 15 dX8_isAt_11 (by decide) ?_
    refine v_istore K dX8_isAt_15 (by decide) ?_
    refine v_iconst K (0) dX8_isAt_17 (by decide) ?_
    refine v_istore K dX8_isAt_18 (by decide) ?_
    exact v_j (lp 0 (Nat.zero_le _) 0 true rfl (by rw [decide_eq_true ⟨(nI_eq (by omega) (by omega)).mp c7, fun j hj => absurd hj (Nat.not_lt_zero j)⟩] <;> rfl)) rfl rfl rfl

theorem hd_X8_inBook : yX8_inBook.cls = RX8 ∧ yX8_inBook.cls ≠ "java/lang/invoke/MethodHandle" ∧ yX8_inBook.cls ≠ "java/lang/invoke/VarHandle" ∧ (parseMethodDescriptor yX8_inBook.desc).map (fun d => d.parameters.length) = some 2 := by decide +kernel
set_option maxHeartbeats 4000000 in
set_option maxRecDepth 100000 in
theorem c_X8_inBook (cI cB : ClassId) (m : Nat → Nat) (hl it sz sl ut ol sp tw tm mm rl : Int32) (S : Bk) (f : Nat → Int32) (ts : List Int32) (F : Nat) (xs : List Int32) (hA : allR S f) (hp : pcT ts F xs) : Ct cI cB yX8_inBook wsX8_inBook { frames := 1, cells := 0, slots := 0, locals := 25 } [.ref (m 0), .int (nI F), .int (nI xs.length)] [moM m hl it sz sl ut ol (nI ts.length) sp tw tm mm rl, arF cI (m 1) 570 f, arL cI (m 12) 60 ts] (dv (opI (fdo xs S.2.2.2.2.1 0)) [moM m hl it sz sl ut ol (nI ts.length) sp tw tm mm rl, arF cI (m 1) 570 f, arL cI (m 12) 60 ts]) := by
  refine ct_of (cc := cX8_inBook) (maxL := 4) (ret := (some .int)) (by decide) rfl (Nat.le_of_ble_eq_true rfl) [(0, .ref (m 0)), (1, .int (nI F)), (2, .int (nI xs.length))] rfl ?_
  intro X hI hB K E
  subst hI
  subst hB
  have iX8 : ∀ w ∈ u_ws RX8 TX8 28, w ∈ wsX8_inBook := by decide +kernel
  have h20 := hA.1.2.2.2.2.1
  have lp : ∀ k, k ≤ S.2.2.2.2.1.length → ∀ (x : Int32), x = nI k → fdo xs (S.2.2.2.2.1.drop k) k = fdo xs S.2.2.2.2.1 0 → V X 0 0 2 [(0, .ref (m 0)), (1, .int (nI F)), (2, .int (nI xs.length)), (3, .int x)] [] [moM m hl it sz sl ut ol (nI ts.length) sp tw tm mm rl, arF (XI X) (m 1) 570 f, arL (XI X) (m 12) 60 ts] := by
    refine loop_up S.2.2.2.2.1.length ?_
    intro k hk ih x hx hq
    subst hx
    refine v_iload_n K dX8_inBook_2 rfl ?_
    refine v_aload_n K dX8_inBook_3 rfl ?_
    refine v_get K 0 rfl hasF_c rfl iX8 0 (by decide) rfl (by decide +kernel) rfl dX8_inBook_4 ?_
    refine v_iconst K (1) dX8_inBook_7 (by decide) ?_
    refine v_fald K 1 rfl (1) ?hx8_1 ?ix8_1 dX8_inBook_8 ?_
    case hx8_1 => exact rfl
    case ix8_1 => exact ⟨by decide, by decide⟩
    rw [hA.2.2.1]
    refine v_ic_ge K 35 dX8_inBook_9 (by decide) (fun c9 => ?_) (fun c9 => ?_)
    · refine v_bipush K (-5) dX8_inBook_35 (by decide) ?_
      refine v_iret K E dX8_inBook_37 ?_ rfl
      have he := up_end rfl (by omega) hk c9
      exact ⟨by rw [← hq, he, List.drop_length] <;> rfl, rfl⟩
    · have hlt := up_lt rfl (by omega) hk c9
      have hAw := hA.2.2.2.2.2 k hlt
      have hww := hA.1.2.2.2.2.2.2.2.2 k hlt
      refine v_aload_n K dX8_inBook_12 rfl ?_
      refine v_iload_n K dX8_inBook_13 rfl ?_
      refine v_callSi K [] (c_X8_wordAt (XI X) (XB X) _ ) rfl gX8_inBook_X8_wordAt rfl rfl hd_X8_wordAt ⟨rfl, rfl⟩ ⟨by decide, by decide⟩ (by decide) (Nat.le_of_ble_eq_true rfl) ⟨Nat.zero_le _, Nat.zero_le _⟩ rfl dX8_inBook_14 ?_
      refine v_iconst K (1) dX8_inBook_17 (by decide) ?_
      refine v_iadd K dX8_inBook_18 ?_
      rw [nI_1]
      refine v_iload_n K dX8_inBook_19 rfl ?_
      refine v_iload_n K dX8_inBook_20 rfl ?_
      refine v_callVi K [0, 1, 2] (c_X8_isAt (XI X) (XB X) _ _ _ _ _ _ _ _ _ _ _ _ _ _ (290 + 14 * k + 1) _ (nthW S k) xs ?hc21_0_3 ?hc21_1_3 ?hc21_2_3 ?hc21_3_3) rfl gX8_inBook_X8_isAt rfl rfl hd_X8_isAt ⟨rfl, rfl⟩ ⟨by decide, by decide⟩ 0 rfl hasF_c rfl (by decide) (Nat.le_of_ble_eq_true rfl) ⟨Nat.zero_le _, Nat.zero_le _⟩ rfl dX8_inBook_21 ?_
      case hc21_0_3 => exact hp
      case hc21_1_3 => exact hAw.2.1
      case hc21_2_3 => exact fun j hj => by rw [show 290 + 14 * k + 1 + 1 + j = 290 + 14 * k + 2 + j by omega]; exact hAw.2.2 j hj
      case hc21_3_3 => omega
      refine v_if_eq K 29 dX8_inBook_24 (by decide) (fun c24 => ?_) (fun c24 => ?_)
      · refine v_iinc K dX8_inBook_29 rfl (by decide) iinc_1 ?_
        refine v_goto K 2 dX8_inBook_32 (by decide) ?_
        exact v_j (ih hlt _ (nI_1 k) (by rw [← hq, fdo_step hlt (of_decide_eq_false (bI_0 c24))] <;> rfl)) rfl rfl rfl
      · refine v_iload_n K dX8_inBook_27 rfl ?_
        refine v_iret K E dX8_inBook_28 ?_ rfl
        exact ⟨by rw [← hq, fdo_hit hlt (of_decide_eq_true (bI_1 c24))] <;> rfl, rfl⟩
  refine v_iconst K (0) dX8_inBook_0 (by decide) ?_
  refine v_istore_n K dX8_inBook_1 (by decide) ?_
  exact v_j (lp 0 (Nat.zero_le _) 0 rfl rfl) rfl rfl rfl

theorem hd_X8_spelledSo : yX8_spelledSo.cls = RX8 ∧ yX8_spelledSo.cls ≠ "java/lang/invoke/MethodHandle" ∧ yX8_spelledSo.cls ≠ "java/lang/invoke/VarHandle" ∧ (parseMethodDescriptor yX8_spelledSo.desc).map (fun d => d.parameters.length) = some 2 := by decide +kernel
set_option maxHeartbeats 4000000 in
set_option maxRecDepth 100000 in
theorem c_X8_spelledSo (cI cB : ClassId) (m : Nat → Nat) (hl it sz sl ut ol sp tw tm mm rl : Int32) (S : Bk) (f : Nat → Int32) (ts : List Int32) (F : Nat) (xs : List Int32) (C : List Int32) (L : List (List Int32)) (hA : allR S f) (hp : pcT ts F xs) (hC : rlS L C) (hLn : L.length = S.2.2.2.2.1.length) : Ct cI cB yX8_spelledSo wsX8_spelledSo { frames := 0, cells := 0, slots := 0, locals := 0 } [.ref (m 0), .int (nI F), .int (nI xs.length)] [moM m hl it sz sl ut ol (nI ts.length) sp tw tm mm rl, arF cI (m 1) 570 f, arL cI (m 10) 520 C, arL cI (m 11) 20 (lens L), arL cI (m 12) 60 ts] (dv (opI (fdo xs L 0)) [moM m hl it sz sl ut ol (nI ts.length) sp tw tm mm rl, arF cI (m 1) 570 f, arL cI (m 10) 520 C, arL cI (m 11) 20 (lens L), arL cI (m 12) 60 ts]) := by
  refine ct_of (cc := cX8_spelledSo) (maxL := 6) (ret := (some .int)) (by decide) rfl (Nat.le_of_ble_eq_true rfl) [(0, .ref (m 0)), (1, .int (nI F)), (2, .int (nI xs.length))] rfl ?_
  intro X hI hB K E
  subst hI
  subst hB
  have iX8 : ∀ w ∈ u_ws RX8 TX8 28, w ∈ wsX8_spelledSo := by decide +kernel
  have h20 := hA.1.2.2.2.2.1
  have hL20 := hC.2.2.1
  have hpl := hp.1
  refine v_arlen 4 rfl (fun hX => ?_)
  have lpi : ∀ I, I < L.length → (∀ y, V X 0 0 80 [(0, .ref (m 0)), (1, .int (nI F)), (2, .int (nI xs.length)), (3, .int (nI I)), (4, .int (bI (decide (L.getD I [] = xs)))), (5, .int y)] [] [moM m hl it sz sl ut ol (nI ts.length) sp tw tm mm rl, arF (XI X) (m 1) 570 f, arL (XI X) (m 10) 520 C, arL (XI X) (m 11) 20 (lens L), arL (XI X) (m 12) 60 ts]) → ∀ k, k ≤ xs.length → ∀ (x : Int32) (b : Bool), x = nI k → b = decide ((L.getD I []).length = xs.length ∧ ∀ j, j < k → (L.getD I []).getD j (-5) = xs.getD j (-5)) → V X 0 0 32 [(0, .ref (m 0)), (1, .int (nI F)), (2, .int (nI xs.length)), (3, .int (nI I)), (4, .int (bI b)), (5, .int x)] [] [moM m hl it sz sl ut ol (nI ts.length) sp tw tm mm rl, arF (XI X) (m 1) 570 f, arL (XI X) (m 10) 520 C, arL (XI X) (m 11) 20 (lens L), arL (XI X) (m 12) 60 ts] := by
    intro I hI hk0
    have hlI := rl_len hC (k := I)
    refine loop_up xs.length ?_
    intro k hk ih x b hx hb
    subst hx
    refine v_iload K dX8_spelledSo_32 rfl ?_
    refine v_iload_n K dX8_spelledSo_34 rfl ?_
    refine v_ic_ge K 80 dX8_spelledSo_35 (by decide) (fun c35 => ?_) (fun c35 => ?_)
    · have he := up_end rfl (by omega) hk c35
      have e : b = decide (L.getD I [] = xs) := by
        rw [hb, decide_eq_decide]
        subst he
        exact ⟨fun z => isAt_t z.1 z.2, fun z => by rw [z]; exact ⟨rfl, fun _ _ => rfl⟩⟩
      exact v_j (hk0 _) (by rw [e] <;> rfl) rfl rfl
    · have hlt := up_lt rfl (by omega) hk c35
      refine v_iload K dX8_spelledSo_38 rfl ?_
      refine v_if_eq K 80 dX8_spelledSo_40 (by decide) (fun c40 => ?_) (fun c40 => ?_)
      · have h0 := bI_0 c40
        have e : decide (L.getD I [] = xs) = false := decide_eq_false (fun z => by rw [h0] at hb; exact of_decide_eq_false hb.symm (by rw [z]; exact ⟨rfl, fun _ _ => rfl⟩))
        exact v_j (hk0 _) (by rw [e, h0] <;> rfl) rfl rfl
      · have hbt := bI_1 c40
        rw [hbt] at hb
        have hall := of_decide_eq_true hb.symm
        refine v_aload_n K dX8_spelledSo_43 rfl ?_
        refine v_get K 0 rfl hasF_c rfl iX8 15 (by decide) rfl (by decide +kernel) rfl dX8_spelledSo_44 ?_
        refine v_bipush K (26) dX8_spelledSo_47 (by decide) ?_
        refine v_iload_n K dX8_spelledSo_49 rfl ?_
        refine v_imul K dX8_spelledSo_50 ?_
        refine v_iload K dX8_spelledSo_51 rfl ?_
        refine v_iadd K dX8_spelledSo_53 ?_
        refine v_lald K 2 rfl (I * 26 + k) ?hx54_1 ?ix54_1 dX8_spelledSo_54 ?_
        case hx54_1 => exact ix26
        case ix54_1 => exact (rl_at5 hC hI (by omega)).1
        rw [(rl_at5 hC hI (by omega)).2]
        refine v_aload_n K dX8_spelledSo_55 rfl ?_
        refine v_get K 0 rfl hasF_c rfl iX8 17 (by decide) rfl (by decide +kernel) rfl dX8_spelledSo_56 ?_
        refine v_iload_n K dX8_spelledSo_59 rfl ?_
        refine v_iload K dX8_spelledSo_60 rfl ?_
        refine v_iadd K dX8_spelledSo_62 ?_
        refine v_lald K 4 rfl (F + k) ?hx63_2 ?ix63_2 dX8_spelledSo_63 ?_
        case hx63_2 => exact nI_add _ _
        case ix63_2 => omega
        rw [hp.2 k hlt]
        refine v_ic_ne K 71 dX8_spelledSo_64 (by decide) (fun c64 => ?_) (fun c64 => ?_)
        · refine v_iconst K (0) dX8_spelledSo_71 (by decide) ?_
          refine v_istore K dX8_spelledSo_72 (by decide) ?_
          refine v_iinc K dX8_spelledSo_74 rfl (by decide) iinc_1 ?_
          refine v_goto K 32 dX8_spelledSo_77 (by decide) ?_
          exact v_j (ih hlt _ false (nI_1 k) (by rw [decide_eq_false (fun z => c64 (z.2 k (by omega)))] <;> rfl)) rfl rfl rfl
        · refine v_iconst K (1) dX8_spelledSo_67 (by decide) ?_
          refine v_goto K 72 dX8_spelledSo_68 (by decide) ?_
          refine v_istore K dX8_spelledSo_72 (by decide) ?_
          refine v_iinc K dX8_spelledSo_74 rfl (by decide) iinc_1 ?_
          refine v_goto K 32 dX8_spelledSo_77 (by decide) ?_
          exact v_j (ih hlt _ true (nI_1 k) (by rw [decide_eq_true ⟨hall.1, fun j hj => (Nat.lt_or_ge j k).elim (hall.2 j) (fun h => by rw [show j = k by omega]; exact c64)⟩] <;> rfl)) rfl rfl rfl
  have lp : ∀ k, k ≤ L.length → ∀ (x : Int32), x = nI k → fdo xs (L.drop k) k = fdo xs L 0 → V X 0 0 2 [(0, .ref (m 0)), (1, .int (nI F)), (2, .int (nI xs.length)), (3, .int x)] [] [moM m hl it sz sl ut ol (nI ts.length) sp tw tm mm rl, arF (XI X) (m 1) 570 f, arL (XI X) (m 10) 520 C, arL (XI X) (m 11) 20 (lens L), arL (XI X) (m 12) 60 ts] := by
    refine loop_up L.length ?_
    intro k hk ih x hx hq
    subst hx
    refine v_iload_n K dX8_spelledSo_2 rfl ?_
    refine v_aload_n K dX8_spelledSo_3 rfl ?_
    refine v_get K 0 rfl hasF_c rfl iX8 0 (by decide) rfl (by decide +kernel) rfl dX8_spelledSo_4 ?_
    refine v_iconst K (1) dX8_spelledSo_7 (by decide) ?_
    refine v_fald K 1 rfl (1) ?hx8_3 ?ix8_3 dX8_spelledSo_8 ?_
    case hx8_3 => exact rfl
    case ix8_3 => exact ⟨by decide, by decide⟩
    rw [hA.2.2.1, ← hLn]
    refine v_ic_ge K 93 dX8_spelledSo_9 (by decide) (fun c9 => ?_) (fun c9 => ?_)
    · refine v_bipush K (-5) dX8_spelledSo_93 (by decide) ?_
      refine v_iret K E dX8_spelledSo_95 ?_ rfl
      have he := up_end rfl (by omega) hk c9
      exact ⟨by rw [← hq, he, List.drop_length] <;> rfl, rfl⟩
    · have hlt := up_lt rfl (by omega) hk c9
      have hlI := rl_len hC (k := k)
      refine v_aload_n K dX8_spelledSo_12 rfl ?_
      refine v_get K 0 rfl hasF_c rfl iX8 16 (by decide) rfl (by decide +kernel) rfl dX8_spelledSo_13 ?_
      refine v_iload_n K dX8_spelledSo_16 rfl ?_
      refine v_lald K 3 rfl (k) ?hx17_4 ?ix17_4 dX8_spelledSo_17 ?_
      case hx17_4 => exact rfl
      case ix17_4 => rw [lens_len]; exact hlt
      rw [lens_gd hlt]
      refine v_iload_n K dX8_spelledSo_18 rfl ?_
      refine v_ic_ne K 26 dX8_spelledSo_19 (by decide) (fun c19 => ?_) (fun c19 => ?_)
      · refine v_iconst K (0) dX8_spelledSo_26 (by decide) ?_
        refine v_istore K dX8_spelledSo_27 (by decide) ?_
        refine v_iconst K (0) dX8_spelledSo_29 (by decide) ?_
        refine v_istore K dX8_spelledSo_30 (by decide) ?_
        refine v_j (lpi k hlt (fun y => ?_) 0 (Nat.zero_le _) 0 false rfl (by rw [decide_eq_false (fun z => c19 (by rw [z.1] <;> rfl))] <;> rfl)) rfl rfl rfl
        refine v_iload K dX8_spelledSo_80 rfl ?_
        refine v_if_eq K 87 dX8_spelledSo_82 (by decide) (fun c82 => ?_) (fun c82 => ?_)
        · refine v_iinc K dX8_spelledSo_87 rfl (by decide) iinc_1 ?_
          refine v_goto K 2 dX8_spelledSo_90 (by decide) ?_
          exact v_j (ih hlt _ (nI_1 k) (by rw [← hq, fdo_step hlt (of_decide_eq_false (bI_0 c82))] <;> rfl)) rfl rfl rfl
        · refine v_iload_n K dX8_spelledSo_85 rfl ?_
          refine v_iret K E dX8_spelledSo_86 ?_ rfl
          exact ⟨by rw [← hq, fdo_hit hlt (of_decide_eq_true (bI_1 c82))] <;> rfl, rfl⟩
      · refine v_iconst K (1) dX8_spelledSo_22 (by decide) ?_
        refine v_goto K 27 dX8_spelledSo_23 (by decide) ?_
        refine v_istore K dX8_spelledSo_27 (by decide) ?_
        refine v_iconst K (0) dX8_spelledSo_29 (by decide) ?_
        refine v_istore K dX8_spelledSo_30 (by decide) ?_
        refine v_j (lpi k hlt (fun y => ?_) 0 (Nat.zero_le _) 0 true rfl (by rw [decide_eq_true ⟨(nI_eq (by omega) (by omega)).mp c19, fun j hj => absurd hj (Nat.not_lt_zero j)⟩] <;> rfl)) rfl rfl rfl
        refine v_iload K dX8_spelledSo_80 rfl ?_
        refine v_if_eq K 87 dX8_spelledSo_82 (by decide) (fun c82 => ?_) (fun c82 => ?_)
        · refine v_iinc K dX8_spelledSo_87 rfl (by decide) iinc_1 ?_
          refine v_goto K 2 dX8_spelledSo_90 (by decide) ?_
          exact v_j (ih hlt _ (nI_1 k) (by rw [← hq, fdo_step hlt (of_decide_eq_false (bI_0 c82))] <;> rfl)) rfl rfl rfl
        · refine v_iload_n K dX8_spelledSo_85 rfl ?_
          refine v_iret K E dX8_spelledSo_86 ?_ rfl
          exact ⟨by rw [← hq, fdo_hit hlt (of_decide_eq_true (bI_1 c82))] <;> rfl, rfl⟩
  refine v_iconst K (0) dX8_spelledSo_0 (by decide) ?_
  refine v_istore_n K dX8_spelledSo_1 (by decide) ?_
  exact v_j (lp 0 (Nat.zero_le _) 0 rfl rfl) rfl rfl rfl

theorem hd_X8_faultOfWords : yX8_faultOfWords.cls = RX8 ∧ yX8_faultOfWords.cls ≠ "java/lang/invoke/MethodHandle" ∧ yX8_faultOfWords.cls ≠ "java/lang/invoke/VarHandle" ∧ (parseMethodDescriptor yX8_faultOfWords.desc).map (fun d => d.parameters.length) = some 1 := by decide +kernel
set_option maxHeartbeats 4000000 in
set_option maxRecDepth 100000 in
theorem c_X8_faultOfWords (cI cB : ClassId) (m : Nat → Nat) (hl it sz sl ut ol sp tw tm mm rl : Int32) (S : Bk) (ts : List Int32) (b : Bool)  : Ct cI cB yX8_faultOfWords wsX8_faultOfWords { frames := 3, cells := 0, slots := 0, locals := 69 } [.ref (m 0), .int (bI b)] [moM m hl it sz sl ut ol (nI ts.length) sp tw tm mm rl, arL cI (m 12) 60 ts] (fun ov M => ov = some (.int (fwR ts (cvF ts S b 60 0 []))) ∧ ∃ sp : Int32, M = [moM m hl it sz sl ut ol (nI ts.length) sp tw tm mm rl, arL cI (m 12) 60 ts]) := by
  refine ct_of (cc := cX8_faultOfWords) (maxL := 4) (ret := (some .int)) (by decide) rfl (Nat.le_of_ble_eq_true rfl) [(0, .ref (m 0)), (1, .int (bI b))] rfl ?_
  intro X hI hB K E
  subst hI
  subst hB
  have iX8 : ∀ w ∈ u_ws RX8 TX8 28, w ∈ wsX8_faultOfWords := by decide +kernel
  refine v_arlen 1 rfl (fun hX => ?_)
  obtain ⟨R, hR0⟩ : ∃ R, cvF ts S b 60 0 [] = R := ⟨_, rfl⟩
  cases b with
  | false =>
    have lp : ∀ (d n P : Nat) (ns : List Int32), ts.length - P = d → P ≤ ts.length → ts.length + 1 ≤ P + 2 * n → cvF ts S false n P ns = R → V X 0 0 11 [(0, .ref (m 0)), (1, .int (bI false))] [] [moM m hl it sz sl ut ol (nI ts.length) (nI P) tw tm mm rl, arL (XI X) (m 12) 60 ts] := by
      intro d
      induction d using Nat.strongRecOn with | _ d ih => ?_
      intro n P ns hd hP hn hR
      have htl := tl_le (m := cvm false) hP
      have hq := cvq_le (b := false) htl
      refine v_aload_n K dX8_faultOfWords_11 rfl ?_
      refine v_iload_n K dX8_faultOfWords_12 rfl ?_
      refine v_if_eq K 21 dX8_faultOfWords_13 (by decide) (fun c13 => ?_) (fun c13 => absurd c13 (fun z => z rfl))
      refine v_bipush K (12) dX8_faultOfWords_21 (by decide) ?_
      refine v_callVi K [0, 1] (c_X8_passes (XI X) (XB X) _ _ _ _ _ _ _ _ _ _ _ _ _ (cvm false) ?hc23_0_1 ?hc23_1_1) rfl gX8_faultOfWords_X8_passes rfl rfl hd_X8_passes ⟨rfl, rfl⟩ ⟨by decide, by decide⟩ 0 rfl hasF_c rfl (by decide) (Nat.le_of_ble_eq_true rfl) ⟨Nat.zero_le _, Nat.zero_le _⟩ rfl dX8_faultOfWords_23 ?_
      case hc23_0_1 => exact hP
      case hc23_1_1 => decide
      refine v_if_ne K 34 dX8_faultOfWords_26 (by decide) (fun c26 => ?_) (fun c26 => ?_)
      · have hne : ¬ (tlF (cvm false) (ts.drop P)).length = 0 := fun z => c26 (congrArg nI z)
        have hge : (P + (tlF (cvm false) (ts.drop P)).length) ≤ (P + (tlF (cvm false) (ts.drop P)).length) := Nat.le_refl (P + (tlF (cvm false) (ts.drop P)).length)
        have hq2 : (P + (tlF (cvm false) (ts.drop P)).length) ≤ ts.length := hq
        refine v_iload_n K dX8_faultOfWords_34 rfl ?_
        refine v_if_eq K 51 dX8_faultOfWords_35 (by decide) (fun c35 => ?_) (fun c35 => absurd c35 (fun z => z rfl))
        refine v_iconst K (0) dX8_faultOfWords_51 (by decide) ?_
        refine v_istore_n K dX8_faultOfWords_52 (by decide) ?_
        refine v_aload_n K dX8_faultOfWords_53 rfl ?_
        refine v_bipush K (32) dX8_faultOfWords_54 (by decide) ?_
        refine v_callVi K [0, 1] (c_X8_takes (XI X) (XB X) _ _ _ _ _ _ _ _ _ _ _ _ _ _ ?hc56_0_2 ?hc56_1_2) rfl gX8_faultOfWords_X8_takes rfl rfl hd_X8_takes ⟨rfl, rfl⟩ ⟨by decide, by decide⟩ 0 rfl hasF_c rfl (by decide) (Nat.le_of_ble_eq_true rfl) ⟨Nat.zero_le _, Nat.zero_le _⟩ rfl dX8_faultOfWords_56 ?_
        case hc56_0_2 => exact hq
        case hc56_1_2 => decide
        refine v_istore_n K dX8_faultOfWords_59 (by decide) ?_
        refine v_goto K 7 dX8_faultOfWords_60 (by decide) ?_
        refine v_iload_n K dX8_faultOfWords_7 rfl ?_
        refine v_if_eq K 63 dX8_faultOfWords_8 (by decide) (fun c8 => ?_) (fun c8 => ?_)
        · have h32 : ¬ ts.getD (P + (tlF (cvm false) (ts.drop P)).length) (-5) = 32 := of_decide_eq_false (bI_0 c8)
          have e := cv_2 hP hn hR hne h32
          rw [show tkP ts (P + (tlF (cvm false) (ts.drop P)).length) 32 = (P + (tlF (cvm false) (ts.drop P)).length) from tkP_f h32]
          have hlt : (P + (tlF (cvm false) (ts.drop P)).length) < 1000000000 := by omega
          refine v_aload_n K dX8_faultOfWords_63 rfl ?_
          refine v_get K 0 rfl hasF_c rfl iX8 19 (by decide) rfl (by decide +kernel) rfl dX8_faultOfWords_64 ?_
          refine v_aload_n K dX8_faultOfWords_67 rfl ?_
          refine v_get K 0 rfl hasF_c rfl iX8 18 (by decide) rfl (by decide +kernel) rfl dX8_faultOfWords_68 ?_
          refine v_ic_ne K 79 dX8_faultOfWords_71 (by decide) (fun c71 => ?_) (fun c71 => ?_)
          · refine v_aload_n K dX8_faultOfWords_79 rfl ?_
            refine v_get K 0 rfl hasF_c rfl iX8 19 (by decide) rfl (by decide +kernel) rfl dX8_faultOfWords_80 ?_
            refine v_iret K E dX8_faultOfWords_83 ?_ rfl
            exact ⟨by rw [hR0, e]; unfold fwR; rw [if_neg (fun z => c71 (congrArg nI (Nat.le_antisymm hq2 z.2)))] <;> rfl, _, rfl⟩
          · refine v_bipush K (-5) dX8_faultOfWords_74 (by decide) ?_
            refine v_goto K 83 dX8_faultOfWords_76 (by decide) ?_
            refine v_iret K E dX8_faultOfWords_83 ?_ rfl
            exact ⟨by rw [hR0, e]; unfold fwR; rw [if_pos ⟨rfl, Nat.le_of_eq ((nI_eq (by omega) (by omega)).mp c71).symm⟩] <;> rfl, _, rfl⟩
        · have h32 : ts.getD (P + (tlF (cvm false) (ts.drop P)).length) (-5) = 32 := of_decide_eq_true (bI_1 c8)
          obtain ⟨n2, hn2, hR2⟩ := cv_1 hP hn hR hne h32
          have hlt : (P + (tlF (cvm false) (ts.drop P)).length) < ts.length := at_lt (by rw [h32]; decide)
          have hn3 : ts.length + 1 ≤ (P + (tlF (cvm false) (ts.drop P)).length) + 1 + 2 * n2 := hn2
          exact v_j (ih (ts.length - ((P + (tlF (cvm false) (ts.drop P)).length) + 1)) (by omega) n2 ((P + (tlF (cvm false) (ts.drop P)).length) + 1) _ rfl (by omega) (by omega) hR2) rfl rfl (by rw [tkP_t h32] <;> rfl)
      · refine v_aload_n K dX8_faultOfWords_29 rfl ?_
        refine v_get K 0 rfl hasF_c rfl iX8 19 (by decide) rfl (by decide +kernel) rfl dX8_faultOfWords_30 ?_
        refine v_iret K E dX8_faultOfWords_33 ?_ rfl
        have hz := nI_z (by omega) c26
        have e := cv_0 hP hn hR hz
        exact ⟨by rw [hR0, e]; unfold fwR; rw [if_neg (fun z => Bool.false_ne_true z.1), show (P + (tlF (cvm false) (ts.drop P)).length) = P by rw [hz]; rfl] <;> rfl, _, rfl⟩
    refine v_aload_n K dX8_faultOfWords_0 rfl ?_
    refine v_iconst K (0) dX8_faultOfWords_1 (by decide) ?_
    refine v_put K 0 rfl rfl iX8 tyX8 tyX8_ok nmX8 19 (by decide) rfl (by decide +kernel) rfl rfl (Nat.le_of_ble_eq_true rfl) dX8_faultOfWords_2 ?_
    refine v_iconst K (1) dX8_faultOfWords_5 (by decide) ?_
    refine v_istore_n K dX8_faultOfWords_6 (by decide) ?_
    refine v_iload_n K dX8_faultOfWords_7 rfl ?_
    refine v_if_eq K 63 dX8_faultOfWords_8 (by decide) (fun c => absurd c (by decide)) (fun _ => ?_)
    exact v_j (lp _ 60 0 [] rfl (Nat.zero_le _) (by omega) hR0) rfl rfl rfl
  | true =>
    have lp : ∀ (d n P : Nat) (ns : List Int32), ts.length - P = d → P ≤ ts.length → ts.length + 1 ≤ P + 2 * n → cvF ts S true n P ns = R → V X 0 0 11 [(0, .ref (m 0)), (1, .int (bI true))] [] [moM m hl it sz sl ut ol (nI ts.length) (nI P) tw tm mm rl, arL (XI X) (m 12) 60 ts] := by
      intro d
      induction d using Nat.strongRecOn with | _ d ih => ?_
      intro n P ns hd hP hn hR
      have htl := tl_le (m := cvm true) hP
      have hq := cvq_le (b := true) htl
      refine v_aload_n K dX8_faultOfWords_11 rfl ?_
      refine v_iload_n K dX8_faultOfWords_12 rfl ?_
      refine v_if_eq K 21 dX8_faultOfWords_13 (by decide) (fun c13 => False.elim (absurd c13 (by decide))) (fun c13 => ?_)
      refine v_bipush K (24) dX8_faultOfWords_16 (by decide) ?_
      refine v_goto K 23 dX8_faultOfWords_18 (by decide) ?_
      refine v_callVi K [0, 1] (c_X8_passes (XI X) (XB X) _ _ _ _ _ _ _ _ _ _ _ _ _ (cvm true) ?hc23_0_3 ?hc23_1_3) rfl gX8_faultOfWords_X8_passes rfl rfl hd_X8_passes ⟨rfl, rfl⟩ ⟨by decide, by decide⟩ 0 rfl hasF_c rfl (by decide) (Nat.le_of_ble_eq_true rfl) ⟨Nat.zero_le _, Nat.zero_le _⟩ rfl dX8_faultOfWords_23 ?_
      case hc23_0_3 => exact hP
      case hc23_1_3 => decide
      refine v_if_ne K 34 dX8_faultOfWords_26 (by decide) (fun c26 => ?_) (fun c26 => ?_)
      · have hne : ¬ (tlF (cvm true) (ts.drop P)).length = 0 := fun z => c26 (congrArg nI z)
        have hge : (P + (tlF (cvm true) (ts.drop P)).length) ≤ (tkP ts (P + (tlF (cvm true) (ts.drop P)).length) 39) := tkP_ge
        have hq2 : (tkP ts (P + (tlF (cvm true) (ts.drop P)).length) 39) ≤ ts.length := hq
        refine v_iload_n K dX8_faultOfWords_34 rfl ?_
        refine v_if_eq K 51 dX8_faultOfWords_35 (by decide) (fun c35 => False.elim (absurd c35 (by decide))) (fun c35 => ?_)
        refine v_aload_n K dX8_faultOfWords_38 rfl ?_
        refine v_bipush K (39) dX8_faultOfWords_39 (by decide) ?_
        refine v_callVi K [0, 1] (c_X8_takes (XI X) (XB X) _ _ _ _ _ _ _ _ _ _ _ _ _ _ ?hc41_0_4 ?hc41_1_4) rfl gX8_faultOfWords_X8_takes rfl rfl hd_X8_takes ⟨rfl, rfl⟩ ⟨by decide, by decide⟩ 0 rfl hasF_c rfl (by decide) (Nat.le_of_ble_eq_true rfl) ⟨Nat.zero_le _, Nat.zero_le _⟩ rfl dX8_faultOfWords_41 ?_
        case hc41_0_4 => exact htl
        case hc41_1_4 => decide
        refine v_if_eq K 51 dX8_faultOfWords_44 (by decide) (fun c44 => ?_) (fun c44 => ?_)
        · refine v_iconst K (0) dX8_faultOfWords_51 (by decide) ?_
          refine v_istore_n K dX8_faultOfWords_52 (by decide) ?_
          refine v_aload_n K dX8_faultOfWords_53 rfl ?_
          refine v_bipush K (32) dX8_faultOfWords_54 (by decide) ?_
          refine v_callVi K [0, 1] (c_X8_takes (XI X) (XB X) _ _ _ _ _ _ _ _ _ _ _ _ _ _ ?hc56_0_5 ?hc56_1_5) rfl gX8_faultOfWords_X8_takes rfl rfl hd_X8_takes ⟨rfl, rfl⟩ ⟨by decide, by decide⟩ 0 rfl hasF_c rfl (by decide) (Nat.le_of_ble_eq_true rfl) ⟨Nat.zero_le _, Nat.zero_le _⟩ rfl dX8_faultOfWords_56 ?_
          case hc56_0_5 => exact hq
          case hc56_1_5 => decide
          refine v_istore_n K dX8_faultOfWords_59 (by decide) ?_
          refine v_goto K 7 dX8_faultOfWords_60 (by decide) ?_
          refine v_iload_n K dX8_faultOfWords_7 rfl ?_
          refine v_if_eq K 63 dX8_faultOfWords_8 (by decide) (fun c8 => ?_) (fun c8 => ?_)
          · have h32 : ¬ ts.getD (tkP ts (P + (tlF (cvm true) (ts.drop P)).length) 39) (-5) = 32 := of_decide_eq_false (bI_0 c8)
            have e := cv_2 hP hn hR hne h32
            rw [show tkP ts (tkP ts (P + (tlF (cvm true) (ts.drop P)).length) 39) 32 = (tkP ts (P + (tlF (cvm true) (ts.drop P)).length) 39) from tkP_f h32]
            have hlt : (tkP ts (P + (tlF (cvm true) (ts.drop P)).length) 39) < 1000000000 := by omega
            refine v_aload_n K dX8_faultOfWords_63 rfl ?_
            refine v_get K 0 rfl hasF_c rfl iX8 19 (by decide) rfl (by decide +kernel) rfl dX8_faultOfWords_64 ?_
            refine v_aload_n K dX8_faultOfWords_67 rfl ?_
            refine v_get K 0 rfl hasF_c rfl iX8 18 (by decide) rfl (by decide +kernel) rfl dX8_faultOfWords_68 ?_
            refine v_ic_ne K 79 dX8_faultOfWords_71 (by decide) (fun c71 => ?_) (fun c71 => ?_)
            · refine v_aload_n K dX8_faultOfWords_79 rfl ?_
              refine v_get K 0 rfl hasF_c rfl iX8 19 (by decide) rfl (by decide +kernel) rfl dX8_faultOfWords_80 ?_
              refine v_iret K E dX8_faultOfWords_83 ?_ rfl
              exact ⟨by rw [hR0, e]; unfold fwR; rw [if_neg (fun z => c71 (congrArg nI (Nat.le_antisymm hq2 z.2)))] <;> rfl, _, rfl⟩
            · refine v_bipush K (-5) dX8_faultOfWords_74 (by decide) ?_
              refine v_goto K 83 dX8_faultOfWords_76 (by decide) ?_
              refine v_iret K E dX8_faultOfWords_83 ?_ rfl
              exact ⟨by rw [hR0, e]; unfold fwR; rw [if_pos ⟨rfl, Nat.le_of_eq ((nI_eq (by omega) (by omega)).mp c71).symm⟩] <;> rfl, _, rfl⟩
          · have h32 : ts.getD (tkP ts (P + (tlF (cvm true) (ts.drop P)).length) 39) (-5) = 32 := of_decide_eq_true (bI_1 c8)
            obtain ⟨n2, hn2, hR2⟩ := cv_1 hP hn hR hne h32
            have hlt : (tkP ts (P + (tlF (cvm true) (ts.drop P)).length) 39) < ts.length := at_lt (by rw [h32]; decide)
            have hn3 : ts.length + 1 ≤ (tkP ts (P + (tlF (cvm true) (ts.drop P)).length) 39) + 1 + 2 * n2 := hn2
            exact v_j (ih (ts.length - ((tkP ts (P + (tlF (cvm true) (ts.drop P)).length) 39) + 1)) (by omega) n2 ((tkP ts (P + (tlF (cvm true) (ts.drop P)).length) 39) + 1) _ rfl (by omega) (by omega) hR2) rfl rfl (by rw [tkP_t h32] <;> rfl)
        · refine v_iconst K (1) dX8_faultOfWords_47 (by decide) ?_
          refine v_goto K 52 dX8_faultOfWords_48 (by decide) ?_
          refine v_istore_n K dX8_faultOfWords_52 (by decide) ?_
          refine v_aload_n K dX8_faultOfWords_53 rfl ?_
          refine v_bipush K (32) dX8_faultOfWords_54 (by decide) ?_
          refine v_callVi K [0, 1] (c_X8_takes (XI X) (XB X) _ _ _ _ _ _ _ _ _ _ _ _ _ _ ?hc56_0_6 ?hc56_1_6) rfl gX8_faultOfWords_X8_takes rfl rfl hd_X8_takes ⟨rfl, rfl⟩ ⟨by decide, by decide⟩ 0 rfl hasF_c rfl (by decide) (Nat.le_of_ble_eq_true rfl) ⟨Nat.zero_le _, Nat.zero_le _⟩ rfl dX8_faultOfWords_56 ?_
          case hc56_0_6 => exact hq
          case hc56_1_6 => decide
          refine v_istore_n K dX8_faultOfWords_59 (by decide) ?_
          refine v_goto K 7 dX8_faultOfWords_60 (by decide) ?_
          refine v_iload_n K dX8_faultOfWords_7 rfl ?_
          refine v_if_eq K 63 dX8_faultOfWords_8 (by decide) (fun c8 => ?_) (fun c8 => ?_)
          · have h32 : ¬ ts.getD (tkP ts (P + (tlF (cvm true) (ts.drop P)).length) 39) (-5) = 32 := of_decide_eq_false (bI_0 c8)
            have e := cv_2 hP hn hR hne h32
            rw [show tkP ts (tkP ts (P + (tlF (cvm true) (ts.drop P)).length) 39) 32 = (tkP ts (P + (tlF (cvm true) (ts.drop P)).length) 39) from tkP_f h32]
            have hlt : (tkP ts (P + (tlF (cvm true) (ts.drop P)).length) 39) < 1000000000 := by omega
            refine v_aload_n K dX8_faultOfWords_63 rfl ?_
            refine v_get K 0 rfl hasF_c rfl iX8 19 (by decide) rfl (by decide +kernel) rfl dX8_faultOfWords_64 ?_
            refine v_aload_n K dX8_faultOfWords_67 rfl ?_
            refine v_get K 0 rfl hasF_c rfl iX8 18 (by decide) rfl (by decide +kernel) rfl dX8_faultOfWords_68 ?_
            refine v_ic_ne K 79 dX8_faultOfWords_71 (by decide) (fun c71 => ?_) (fun c71 => ?_)
            · refine v_aload_n K dX8_faultOfWords_79 rfl ?_
              refine v_get K 0 rfl hasF_c rfl iX8 19 (by decide) rfl (by decide +kernel) rfl dX8_faultOfWords_80 ?_
              refine v_iret K E dX8_faultOfWords_83 ?_ rfl
              exact ⟨by rw [hR0, e]; unfold fwR; rw [if_neg (fun z => c71 (congrArg nI (Nat.le_antisymm hq2 z.2)))] <;> rfl, _, rfl⟩
            · refine v_bipush K (-5) dX8_faultOfWords_74 (by decide) ?_
              refine v_goto K 83 dX8_faultOfWords_76 (by decide) ?_
              refine v_iret K E dX8_faultOfWords_83 ?_ rfl
              exact ⟨by rw [hR0, e]; unfold fwR; rw [if_pos ⟨rfl, Nat.le_of_eq ((nI_eq (by omega) (by omega)).mp c71).symm⟩] <;> rfl, _, rfl⟩
          · have h32 : ts.getD (tkP ts (P + (tlF (cvm true) (ts.drop P)).length) 39) (-5) = 32 := of_decide_eq_true (bI_1 c8)
            obtain ⟨n2, hn2, hR2⟩ := cv_1 hP hn hR hne h32
            have hlt : (tkP ts (P + (tlF (cvm true) (ts.drop P)).length) 39) < ts.length := at_lt (by rw [h32]; decide)
            have hn3 : ts.length + 1 ≤ (tkP ts (P + (tlF (cvm true) (ts.drop P)).length) 39) + 1 + 2 * n2 := hn2
            exact v_j (ih (ts.length - ((tkP ts (P + (tlF (cvm true) (ts.drop P)).length) 39) + 1)) (by omega) n2 ((tkP ts (P + (tlF (cvm true) (ts.drop P)).length) 39) + 1) _ rfl (by omega) (by omega) hR2) rfl rfl (by rw [tkP_t h32] <;> rfl)
      · refine v_aload_n K dX8_faultOfWords_29 rfl ?_
        refine v_get K 0 rfl hasF_c rfl iX8 19 (by decide) rfl (by decide +kernel) rfl dX8_faultOfWords_30 ?_
        refine v_iret K E dX8_faultOfWords_33 ?_ rfl
        have hz := nI_z (by omega) c26
        have e := cv_0 hP hn hR hz
        exact ⟨by rw [hR0, e]; unfold fwR; rw [if_neg (fun z => Bool.false_ne_true z.1), show (P + (tlF (cvm true) (ts.drop P)).length) = P by rw [hz]; rfl] <;> rfl, _, rfl⟩
    refine v_aload_n K dX8_faultOfWords_0 rfl ?_
    refine v_iconst K (0) dX8_faultOfWords_1 (by decide) ?_
    refine v_put K 0 rfl rfl iX8 tyX8 tyX8_ok nmX8 19 (by decide) rfl (by decide +kernel) rfl rfl (Nat.le_of_ble_eq_true rfl) dX8_faultOfWords_2 ?_
    refine v_iconst K (1) dX8_faultOfWords_5 (by decide) ?_
    refine v_istore_n K dX8_faultOfWords_6 (by decide) ?_
    refine v_iload_n K dX8_faultOfWords_7 rfl ?_
    refine v_if_eq K 63 dX8_faultOfWords_8 (by decide) (fun c => absurd c (by decide)) (fun _ => ?_)
    exact v_j (lp _ 60 0 [] rfl (Nat.zero_le _) (by omega) hR0) rfl rfl rfl

theorem hd_X8_converts : yX8_converts.cls = RX8 ∧ yX8_converts.cls ≠ "java/lang/invoke/MethodHandle" ∧ yX8_converts.cls ≠ "java/lang/invoke/VarHandle" ∧ (parseMethodDescriptor yX8_converts.desc).map (fun d => d.parameters.length) = some 2 := by decide +kernel
set_option maxHeartbeats 4000000 in
set_option maxRecDepth 100000 in
theorem c_X8_converts (cI cB : ClassId) (m : Nat → Nat) (hl it sz sl ut ol sp tw tm mm : Int32) (S : Bk) (f : Nat → Int32) (ts rs ls rf sd us os : List Int32) (F : Nat) (xs : List Int32) (hA : allR S f) (hp : pcT ts F xs) (hL : ∀ x ∈ xs, low x) (h12 : xs.length ≤ 12) (hu : us.length = 30) (hr : rs.length + (spW S xs (kndW S xs)).length ≤ 420) : Ct cI cB yX8_converts wsX8_converts { frames := 5, cells := 0, slots := 0, locals := 117 } [.ref (m 0), .int (nI F), .int (nI xs.length)] [moM m hl it sz sl ut ol (nI ts.length) sp tw tm mm (nI rs.length), arF cI (m 1) 570 f, arL cI (m 5) 12 ls, arL cI (m 6) 12 rf, arL cI (m 7) 12 sd, arL cI (m 8) 30 us, arL cI (m 9) 26 os, arL cI (m 12) 60 ts, arL cI (m 16) 420 rs] (fun ov M => ov = none ∧ ∃ (sz sl ut ol : Int32) (ls rf sd us os : List Int32), us.length = 30 ∧ M = [moM m hl it sz sl ut ol (nI ts.length) sp tw tm mm (nI (rs ++ spW S xs (kndW S xs)).length), arF cI (m 1) 570 f, arL cI (m 5) 12 ls, arL cI (m 6) 12 rf, arL cI (m 7) 12 sd, arL cI (m 8) 30 us, arL cI (m 9) 26 os, arL cI (m 12) 60 ts, arL cI (m 16) 420 (rs ++ spW S xs (kndW S xs))]) := by
  refine ct_of (cc := cX8_converts) (maxL := 5) (ret := none) (by decide) rfl (Nat.le_of_ble_eq_true rfl) [(0, .ref (m 0)), (1, .int (nI F)), (2, .int (nI xs.length))] rfl ?_
  intro X hI hB K E
  subst hI
  subst hB
  have iX8 : ∀ w ∈ u_ws RX8 TX8 28, w ∈ wsX8_converts := by decide +kernel
  have h20 := hA.1.2.2.2.2.1
  have hpl := hp.1
  have hw := hA.1
  refine v_arlen 7 rfl (fun hX => ?_)
  refine v_aload_n K dX8_converts_0 rfl ?_
  refine v_iload_n K dX8_converts_1 rfl ?_
  refine v_iload_n K dX8_converts_2 rfl ?_
  refine v_callVi K [0, 1, 7] (c_X8_inBook (XI X) (XB X) _ _ _ _ _ _ _ _ _ _ _ _ S _ _ _ xs ?hc3_0_1 ?hc3_1_1) rfl gX8_converts_X8_inBook rfl rfl hd_X8_inBook ⟨rfl, rfl⟩ ⟨by decide, by decide⟩ 0 rfl hasF_c rfl (by decide) (Nat.le_of_ble_eq_true rfl) ⟨Nat.zero_le _, Nat.zero_le _⟩ rfl dX8_converts_3 ?_
  case hc3_0_1 => exact hA
  case hc3_1_1 => exact hp
  try dsimp only [Nat.reduceAdd, nf_rep1, nf_rep0, nf_d0, nf_t0, nf_s0, nf_ac, nf_an, nf_d1, nf_t1, nf_s1, nf_d2, nf_t2, nf_s2, nf_d3, nf_t3, nf_s3, nf_d4, nf_t4, nf_s4, nf_d5, nf_t5, nf_s5, nf_d6, nf_t6, nf_s6, nf_d7, nf_t7, nf_s7, nf_d8, nf_t8, nf_s8, nf_d9, nf_t9, nf_s9, nf_d10, nf_t10, nf_s10, nf_d11, nf_t11, nf_s11, nf_d12, nf_t12, nf_s12, nf_d13, nf_t13, nf_s13, nf_d14, nf_t14, nf_s14, nf_d15, nf_t15, nf_s15, nf_d16, nf_t16, nf_s16, nf_d17, nf_t17, nf_s17, nf_d18, nf_t18, nf_s18, nf_d19, nf_t19, nf_s19, nf_d20, nf_t20, nf_s20]
  refine v_istore_n K dX8_converts_6 (by decide) ?_
  refine v_aload_n K dX8_converts_7 rfl ?_
  refine v_iload_n K dX8_converts_8 rfl ?_
  refine v_put K 0 rfl rfl iX8 tyX8 tyX8_ok nmX8 7 (by decide) rfl (by decide +kernel) rfl rfl (Nat.le_of_ble_eq_true rfl) dX8_converts_9 ?_
  try dsimp only [Nat.reduceAdd, nf_rep1, nf_rep0, nf_d0, nf_t0, nf_s0, nf_ac, nf_an, nf_d1, nf_t1, nf_s1, nf_d2, nf_t2, nf_s2, nf_d3, nf_t3, nf_s3, nf_d4, nf_t4, nf_s4, nf_d5, nf_t5, nf_s5, nf_d6, nf_t6, nf_s6, nf_d7, nf_t7, nf_s7, nf_d8, nf_t8, nf_s8, nf_d9, nf_t9, nf_s9, nf_d10, nf_t10, nf_s10, nf_d11, nf_t11, nf_s11, nf_d12, nf_t12, nf_s12, nf_d13, nf_t13, nf_s13, nf_d14, nf_t14, nf_s14, nf_d15, nf_t15, nf_s15, nf_d16, nf_t16, nf_s16, nf_d17, nf_t17, nf_s17, nf_d18, nf_t18, nf_s18, nf_d19, nf_t19, nf_s19, nf_d20, nf_t20, nf_s20]
  refine v_iconst K (0) dX8_converts_12 (by decide) ?_
  refine v_istore K dX8_converts_13 (by decide) ?_
  refine v_ltk 2 0 rfl ?_
  rw [List.take_zero]
  try dsimp only [Nat.reduceAdd, nf_rep1, nf_rep0, nf_d0, nf_t0, nf_s0, nf_ac, nf_an, nf_d1, nf_t1, nf_s1, nf_d2, nf_t2, nf_s2, nf_d3, nf_t3, nf_s3, nf_d4, nf_t4, nf_s4, nf_d5, nf_t5, nf_s5, nf_d6, nf_t6, nf_s6, nf_d7, nf_t7, nf_s7, nf_d8, nf_t8, nf_s8, nf_d9, nf_t9, nf_s9, nf_d10, nf_t10, nf_s10, nf_d11, nf_t11, nf_s11, nf_d12, nf_t12, nf_s12, nf_d13, nf_t13, nf_s13, nf_d14, nf_t14, nf_s14, nf_d15, nf_t15, nf_s15, nf_d16, nf_t16, nf_s16, nf_d17, nf_t17, nf_s17, nf_d18, nf_t18, nf_s18, nf_d19, nf_t19, nf_s19, nf_d20, nf_t20, nf_s20]
  have lp : ∀ k, k ≤ xs.length → ∀ (x : Int32), x = nI k → V X 0 0 15 [(0, .ref (m 0)), (1, .int (nI F)), (2, .int (nI xs.length)), (3, .int (opI (fdo xs S.2.2.2.2.1 0))), (4, .int x)] [] [moM m hl it (nI xs.length) sl ut ol (nI ts.length) sp tw tm mm (nI rs.length), arF (XI X) (m 1) 570 f, arL (XI X) (m 5) 12 (xs.take k), arL (XI X) (m 6) 12 rf, arL (XI X) (m 7) 12 sd, arL (XI X) (m 8) 30 us, arL (XI X) (m 9) 26 os, arL (XI X) (m 12) 60 ts, arL (XI X) (m 16) 420 rs] := by
    refine loop_up xs.length ?_
    intro k hk ih x hx
    subst hx
    refine v_iload K dX8_converts_15 rfl ?_
    refine v_iload_n K dX8_converts_17 rfl ?_
    refine v_ic_ge K 43 dX8_converts_18 (by decide) (fun c18 => ?_) (fun c18 => ?_)
    · have he := up_end rfl (by omega) hk c18
      rw [he, List.take_length]
      have lq : ∀ (sl2 ut2 : Int32) (rf2 sd2 us2 : List Int32), us2.length = 30 → ∀ k, k ≤ (spW S xs (kndW S xs)).length → ∀ (x : Int32), x = nI k → V X 0 0 69 [(0, .ref (m 0)), (4, .int x)] [] [moM m hl it (nI xs.length) sl2 ut2 (nI (spW S xs (kndW S xs)).length) (nI ts.length) sp tw tm mm (nI (rs ++ (spW S xs (kndW S xs)).take k).length), arF (XI X) (m 1) 570 f, arL (XI X) (m 5) 12 xs, arL (XI X) (m 6) 12 rf2, arL (XI X) (m 7) 12 sd2, arL (XI X) (m 8) 30 us2, arL (XI X) (m 9) 26 (spW S xs (kndW S xs)), arL (XI X) (m 12) 60 ts, arL (XI X) (m 16) 420 (rs ++ (spW S xs (kndW S xs)).take k)] := by
        intro sl2 ut2 rf2 sd2 us2 hu2
        refine loop_up (spW S xs (kndW S xs)).length ?_
        intro k hk ih x hx
        subst hx
        refine v_iload K dX8_converts_69 rfl ?_
        refine v_aload_n K dX8_converts_71 rfl ?_
        refine v_get K 0 rfl hasF_c rfl iX8 14 (by decide) rfl (by decide +kernel) rfl dX8_converts_72 ?_
        refine v_ic_ge K 95 dX8_converts_75 (by decide) (fun c75 => ?_) (fun c75 => ?_)
        · refine v_ret K E dX8_converts_95 ?_ rfl
          have he := up_end rfl (by omega) hk c75
          exact ⟨rfl, _, _, _, _, _, _, _, _, _, hu2, by rw [he, List.take_length] <;> rfl⟩
        · have hlt := up_lt rfl (by omega) hk c75
          refine v_aload_n K dX8_converts_78 rfl ?_
          refine v_aload_n K dX8_converts_79 rfl ?_
          refine v_get K 0 rfl hasF_c rfl iX8 13 (by decide) rfl (by decide +kernel) rfl dX8_converts_80 ?_
          refine v_iload K dX8_converts_83 rfl ?_
          refine v_lald K 6 rfl (k) ?hx85_2 ?ix85_2 dX8_converts_85 ?_
          case hx85_2 => exact rfl
          case ix85_2 => exact hlt
          refine v_callVv K [0, 8] (c_X8_tells (XI X) (XB X) _ _ _ _ _ _ _ _ _ _ _ _ _ _ ?hc86_0_3) rfl gX8_converts_X8_tells rfl rfl hd_X8_tells ⟨rfl, rfl⟩ ⟨by decide, by decide⟩ 0 rfl hasF_c rfl (by decide) (Nat.le_of_ble_eq_true rfl) ⟨Nat.zero_le _, Nat.zero_le _⟩ rfl dX8_converts_86 ?_
          case hc86_0_3 => rw [List.length_append, tkl hk]; omega
          try dsimp only [Nat.reduceAdd, nf_rep1, nf_rep0, nf_d0, nf_t0, nf_s0, nf_ac, nf_an, nf_d1, nf_t1, nf_s1, nf_d2, nf_t2, nf_s2, nf_d3, nf_t3, nf_s3, nf_d4, nf_t4, nf_s4, nf_d5, nf_t5, nf_s5, nf_d6, nf_t6, nf_s6, nf_d7, nf_t7, nf_s7, nf_d8, nf_t8, nf_s8, nf_d9, nf_t9, nf_s9, nf_d10, nf_t10, nf_s10, nf_d11, nf_t11, nf_s11, nf_d12, nf_t12, nf_s12, nf_d13, nf_t13, nf_s13, nf_d14, nf_t14, nf_s14, nf_d15, nf_t15, nf_s15, nf_d16, nf_t16, nf_s16, nf_d17, nf_t17, nf_s17, nf_d18, nf_t18, nf_s18, nf_d19, nf_t19, nf_s19, nf_d20, nf_t20, nf_s20]
          refine v_iinc K dX8_converts_89 rfl (by decide) iinc_1 ?_
          refine v_goto K 69 dX8_converts_92 (by decide) ?_
          exact v_j (ih hlt _ (nI_1 k)) rfl rfl (by rw [List.append_assoc, tk1 hlt] <;> rfl)
      by_cases hno : opI (fdo xs S.2.2.2.2.1 0) = -5
      · have hkn : kndW S xs = 0 := by unfold kndW; rw [if_pos hno]
        rw [hkn] at lq
        refine v_aload_n K dX8_converts_43 rfl ?_
        refine v_iload_n K dX8_converts_44 rfl ?_
        refine v_bipush K (-5) dX8_converts_45 (by decide) ?_
        refine v_ic_ne K 54 dX8_converts_47 (by decide) (fun c47 => False.elim (c47 hno)) (fun c47 => ?_)
        refine v_iconst K (0) dX8_converts_50 (by decide) ?_
        refine v_goto K 63 dX8_converts_51 (by decide) ?_
        refine v_callVv K [0, 1, 2, 3, 4, 5, 6] (c_X8_writesAs (XI X) (XB X) _ _ _ _ _ _ _ _ _ _ _ _ S _ _ _ _ _ _ 0 ?hc63_0_4 ?hc63_1_4 ?hc63_2_4) rfl gX8_converts_X8_writesAs rfl rfl hd_X8_writesAs ⟨rfl, rfl⟩ ⟨by decide, by decide⟩ 0 rfl hasF_c rfl (by decide) (Nat.le_of_ble_eq_true rfl) ⟨Nat.zero_le _, Nat.zero_le _⟩ rfl dX8_converts_63 ?_
        case hc63_0_4 => exact hA
        case hc63_1_4 => exact hL
        case hc63_2_4 => exact hu
        try dsimp only [Nat.reduceAdd, nf_rep1, nf_rep0, nf_d0, nf_t0, nf_s0, nf_ac, nf_an, nf_d1, nf_t1, nf_s1, nf_d2, nf_t2, nf_s2, nf_d3, nf_t3, nf_s3, nf_d4, nf_t4, nf_s4, nf_d5, nf_t5, nf_s5, nf_d6, nf_t6, nf_s6, nf_d7, nf_t7, nf_s7, nf_d8, nf_t8, nf_s8, nf_d9, nf_t9, nf_s9, nf_d10, nf_t10, nf_s10, nf_d11, nf_t11, nf_s11, nf_d12, nf_t12, nf_s12, nf_d13, nf_t13, nf_s13, nf_d14, nf_t14, nf_s14, nf_d15, nf_t15, nf_s15, nf_d16, nf_t16, nf_s16, nf_d17, nf_t17, nf_s17, nf_d18, nf_t18, nf_s18, nf_d19, nf_t19, nf_s19, nf_d20, nf_t20, nf_s20]
        refine v_iconst K (0) dX8_converts_66 (by decide) ?_
        refine v_istore K dX8_converts_67 (by decide) ?_
        refine v_j (lq _ _ _ _ _ (kxl hu) 0 (Nat.zero_le _) 0 rfl) rfl rfl (by rw [List.take_zero, List.append_nil] <;> rfl)
      · obtain ⟨Kw, hK⟩ := opI_some hno
        have hKl := (fdo_lt hK).2.1
        have hkn : kndW S xs = S.2.2.2.2.2.getD Kw (-5) := by unfold kndW; rw [if_neg hno, hK]; exact gt_n (by omega)
        have hKe : opI (fdo xs S.2.2.2.2.1 0) = nI Kw := by rw [hK] <;> rfl
        rw [hkn] at lq
        rw [hKe]
        refine v_aload_n K dX8_converts_43 rfl ?_
        refine v_iload_n K dX8_converts_44 rfl ?_
        refine v_bipush K (-5) dX8_converts_45 (by decide) ?_
        refine v_ic_ne K 54 dX8_converts_47 (by decide) (fun c47 => ?_) (fun c47 => absurd c47 (nI_m5 (by omega)))
        refine v_aload_n K dX8_converts_54 rfl ?_
        refine v_get K 0 rfl hasF_c rfl iX8 0 (by decide) rfl (by decide +kernel) rfl dX8_converts_55 ?_
        refine v_iload_n K dX8_converts_58 rfl ?_
        refine v_callSi K [] (c_X8_wordAt (XI X) (XB X) _ ) rfl gX8_converts_X8_wordAt rfl rfl hd_X8_wordAt ⟨rfl, rfl⟩ ⟨by decide, by decide⟩ (by decide) (Nat.le_of_ble_eq_true rfl) ⟨Nat.zero_le _, Nat.zero_le _⟩ rfl dX8_converts_59 ?_
        try dsimp only [Nat.reduceAdd, nf_rep1, nf_rep0, nf_d0, nf_t0, nf_s0, nf_ac, nf_an, nf_d1, nf_t1, nf_s1, nf_d2, nf_t2, nf_s2, nf_d3, nf_t3, nf_s3, nf_d4, nf_t4, nf_s4, nf_d5, nf_t5, nf_s5, nf_d6, nf_t6, nf_s6, nf_d7, nf_t7, nf_s7, nf_d8, nf_t8, nf_s8, nf_d9, nf_t9, nf_s9, nf_d10, nf_t10, nf_s10, nf_d11, nf_t11, nf_s11, nf_d12, nf_t12, nf_s12, nf_d13, nf_t13, nf_s13, nf_d14, nf_t14, nf_s14, nf_d15, nf_t15, nf_s15, nf_d16, nf_t16, nf_s16, nf_d17, nf_t17, nf_s17, nf_d18, nf_t18, nf_s18, nf_d19, nf_t19, nf_s19, nf_d20, nf_t20, nf_s20]
        refine v_fald K 1 rfl (290 + 14 * Kw) ?hx62_6 ?ix62_6 dX8_converts_62 ?_
        case hx62_6 => exact rfl
        case ix62_6 => exact ⟨by omega, by decide⟩
        rw [(hA.2.2.2.2.2 Kw (by omega)).1]
        refine v_callVv K [0, 1, 2, 3, 4, 5, 6] (c_X8_writesAs (XI X) (XB X) _ _ _ _ _ _ _ _ _ _ _ _ S _ _ _ _ _ _ _ ?hc63_0_7 ?hc63_1_7 ?hc63_2_7) rfl gX8_converts_X8_writesAs rfl rfl hd_X8_writesAs ⟨rfl, rfl⟩ ⟨by decide, by decide⟩ 0 rfl hasF_c rfl (by decide) (Nat.le_of_ble_eq_true rfl) ⟨Nat.zero_le _, Nat.zero_le _⟩ rfl dX8_converts_63 ?_
        case hc63_0_7 => exact hA
        case hc63_1_7 => exact hL
        case hc63_2_7 => exact hu
        try dsimp only [Nat.reduceAdd, nf_rep1, nf_rep0, nf_d0, nf_t0, nf_s0, nf_ac, nf_an, nf_d1, nf_t1, nf_s1, nf_d2, nf_t2, nf_s2, nf_d3, nf_t3, nf_s3, nf_d4, nf_t4, nf_s4, nf_d5, nf_t5, nf_s5, nf_d6, nf_t6, nf_s6, nf_d7, nf_t7, nf_s7, nf_d8, nf_t8, nf_s8, nf_d9, nf_t9, nf_s9, nf_d10, nf_t10, nf_s10, nf_d11, nf_t11, nf_s11, nf_d12, nf_t12, nf_s12, nf_d13, nf_t13, nf_s13, nf_d14, nf_t14, nf_s14, nf_d15, nf_t15, nf_s15, nf_d16, nf_t16, nf_s16, nf_d17, nf_t17, nf_s17, nf_d18, nf_t18, nf_s18, nf_d19, nf_t19, nf_s19, nf_d20, nf_t20, nf_s20]
        refine v_iconst K (0) dX8_converts_66 (by decide) ?_
        refine v_istore K dX8_converts_67 (by decide) ?_
        refine v_j (lq _ _ _ _ _ (kxl hu) 0 (Nat.zero_le _) 0 rfl) rfl rfl (by rw [List.take_zero, List.append_nil] <;> rfl)
    · have hlt := up_lt rfl (by omega) hk c18
      refine v_aload_n K dX8_converts_21 rfl ?_
      refine v_get K 0 rfl hasF_c rfl iX8 6 (by decide) rfl (by decide +kernel) rfl dX8_converts_22 ?_
      refine v_iload K dX8_converts_25 rfl ?_
      refine v_aload_n K dX8_converts_27 rfl ?_
      refine v_get K 0 rfl hasF_c rfl iX8 17 (by decide) rfl (by decide +kernel) rfl dX8_converts_28 ?_
      refine v_iload_n K dX8_converts_31 rfl ?_
      refine v_iload K dX8_converts_32 rfl ?_
      refine v_iadd K dX8_converts_34 ?_
      refine v_lald K 7 rfl (F + k) ?hx35_8 ?ix35_8 dX8_converts_35 ?_
      case hx35_8 => exact nI_add _ _
      case ix35_8 => omega
      rw [hp.2 k hlt]
      refine v_last K 2 rfl ?hx36_9 ?ix36_9 dX8_converts_36 ?_
      case hx36_9 => rw [tkl hk]
      case ix36_9 => rw [tkl hk]; omega
      try dsimp only [Nat.reduceAdd, nf_rep1, nf_rep0, nf_d0, nf_t0, nf_s0, nf_ac, nf_an, nf_d1, nf_t1, nf_s1, nf_d2, nf_t2, nf_s2, nf_d3, nf_t3, nf_s3, nf_d4, nf_t4, nf_s4, nf_d5, nf_t5, nf_s5, nf_d6, nf_t6, nf_s6, nf_d7, nf_t7, nf_s7, nf_d8, nf_t8, nf_s8, nf_d9, nf_t9, nf_s9, nf_d10, nf_t10, nf_s10, nf_d11, nf_t11, nf_s11, nf_d12, nf_t12, nf_s12, nf_d13, nf_t13, nf_s13, nf_d14, nf_t14, nf_s14, nf_d15, nf_t15, nf_s15, nf_d16, nf_t16, nf_s16, nf_d17, nf_t17, nf_s17, nf_d18, nf_t18, nf_s18, nf_d19, nf_t19, nf_s19, nf_d20, nf_t20, nf_s20]
      refine v_iinc K dX8_converts_37 rfl (by decide) iinc_1 ?_
      refine v_goto K 15 dX8_converts_40 (by decide) ?_
      exact v_j (ih hlt _ (nI_1 k)) rfl rfl (by rw [tk1 hlt] <;> rfl)
  exact v_j (lp 0 (Nat.zero_le _) 0 rfl) rfl rfl rfl

theorem hd_X8_convertsBack : yX8_convertsBack.cls = RX8 ∧ yX8_convertsBack.cls ≠ "java/lang/invoke/MethodHandle" ∧ yX8_convertsBack.cls ≠ "java/lang/invoke/VarHandle" ∧ (parseMethodDescriptor yX8_convertsBack.desc).map (fun d => d.parameters.length) = some 2 := by decide +kernel
set_option maxHeartbeats 4000000 in
set_option maxRecDepth 100000 in
theorem c_X8_convertsBack (cI cB : ClassId) (m : Nat → Nat) (hl it sz sl ut ol sp tw tm mm : Int32) (S : Bk) (f : Nat → Int32) (ts rs : List Int32) (F : Nat) (xs : List Int32) (C : List Int32) (L : List (List Int32)) (hA : allR S f) (hp : pcT ts F xs) (hC : rlS L C) (hLn : L.length = S.2.2.2.2.1.length) (hr : rs.length + ((bkY S L xs).filter n39).length ≤ 420) : Ct cI cB yX8_convertsBack wsX8_convertsBack { frames := 1, cells := 0, slots := 0, locals := 25 } [.ref (m 0), .int (nI F), .int (nI xs.length)] [moM m hl it sz sl ut ol (nI ts.length) sp tw tm mm (nI rs.length), arF cI (m 1) 570 f, arL cI (m 10) 520 C, arL cI (m 11) 20 (lens L), arL cI (m 12) 60 ts, arL cI (m 16) 420 rs] (dn [moM m hl it sz sl ut ol (nI ts.length) sp tw tm mm (nI (rs ++ (bkY S L xs).filter n39).length), arF cI (m 1) 570 f, arL cI (m 10) 520 C, arL cI (m 11) 20 (lens L), arL cI (m 12) 60 ts, arL cI (m 16) 420 (rs ++ (bkY S L xs).filter n39)]) := by
  refine ct_of (cc := cX8_convertsBack) (maxL := 7) (ret := none) (by decide) rfl (Nat.le_of_ble_eq_true rfl) [(0, .ref (m 0)), (1, .int (nI F)), (2, .int (nI xs.length))] rfl ?_
  intro X hI hB K E
  subst hI
  subst hB
  have iX8 : ∀ w ∈ u_ws RX8 TX8 28, w ∈ wsX8_convertsBack := by decide +kernel
  have h20 := hA.1.2.2.2.2.1
  have hpl := hp.1
  have hw := hA.1
  refine v_arlen 4 rfl (fun hX => ?_)
  refine v_aload_n K dX8_convertsBack_0 rfl ?_
  refine v_iload_n K dX8_convertsBack_1 rfl ?_
  refine v_iload_n K dX8_convertsBack_2 rfl ?_
  refine v_callVi K [0, 1, 2, 3, 4] (c_X8_spelledSo (XI X) (XB X) _ _ _ _ _ _ _ _ _ _ _ _ S _ _ _ xs _ L ?hc3_0_1 ?hc3_1_1 ?hc3_2_1 ?hc3_3_1) rfl gX8_convertsBack_X8_spelledSo rfl rfl hd_X8_spelledSo ⟨rfl, rfl⟩ ⟨by decide, by decide⟩ 0 rfl hasF_c rfl (by decide) (Nat.le_of_ble_eq_true rfl) ⟨Nat.zero_le _, Nat.zero_le _⟩ rfl dX8_convertsBack_3 ?_
  case hc3_0_1 => exact hA
  case hc3_1_1 => exact hp
  case hc3_2_1 => exact hC
  case hc3_3_1 => exact hLn
  try dsimp only [Nat.reduceAdd, nf_rep1, nf_rep0, nf_d0, nf_t0, nf_s0, nf_ac, nf_an, nf_d1, nf_t1, nf_s1, nf_d2, nf_t2, nf_s2, nf_d3, nf_t3, nf_s3, nf_d4, nf_t4, nf_s4, nf_d5, nf_t5, nf_s5, nf_d6, nf_t6, nf_s6, nf_d7, nf_t7, nf_s7, nf_d8, nf_t8, nf_s8, nf_d9, nf_t9, nf_s9, nf_d10, nf_t10, nf_s10, nf_d11, nf_t11, nf_s11, nf_d12, nf_t12, nf_s12, nf_d13, nf_t13, nf_s13, nf_d14, nf_t14, nf_s14, nf_d15, nf_t15, nf_s15, nf_d16, nf_t16, nf_s16, nf_d17, nf_t17, nf_s17, nf_d18, nf_t18, nf_s18, nf_d19, nf_t19, nf_s19, nf_d20, nf_t20, nf_s20]
  refine v_istore_n K dX8_convertsBack_6 (by decide) ?_
  by_cases hno : opI (fdo xs L 0) = -5
  · have hY : bkY S L xs = xs := by unfold bkY; rw [if_pos hno]
    rw [hY] at hr
    have lp : ∀ k, k ≤ xs.length → ∀ (x : Int32), x = nI k → V X 0 0 33 [(0, .ref (m 0)), (1, .int (nI F)), (2, .int (nI xs.length)), (3, .int (opI (fdo xs L 0))), (4, .int (nI xs.length)), (5, .int x)] [] [moM m hl it sz sl ut ol (nI ts.length) sp tw tm mm (nI (rs ++ (xs.take k).filter n39).length), arF (XI X) (m 1) 570 f, arL (XI X) (m 10) 520 C, arL (XI X) (m 11) 20 (lens L), arL (XI X) (m 12) 60 ts, arL (XI X) (m 16) 420 (rs ++ (xs.take k).filter n39)] := by
      refine loop_up xs.length ?_
      intro k hk ih x hx
      subst hx
      refine v_iload K dX8_convertsBack_33 rfl ?_
      refine v_iload K dX8_convertsBack_35 rfl ?_
      refine v_ic_ge K 93 dX8_convertsBack_37 (by decide) (fun c37 => ?_) (fun c37 => ?_)
      · refine v_ret K E dX8_convertsBack_93 ?_ rfl
        have he := up_end rfl (by omega) hk c37
        exact ⟨rfl, by rw [hY, he, List.take_length] <;> rfl⟩
      · have hlt := up_lt rfl (by omega) hk c37
        have hf : (xs.take (k + 1)).filter n39 = (xs.take k).filter n39 ++ [xs.getD k (-5)].filter n39 := by rw [← tk1 hlt, List.filter_append] <;> rfl
        refine v_iload_n K dX8_convertsBack_40 rfl ?_
        refine v_bipush K (-5) dX8_convertsBack_41 (by decide) ?_
        refine v_ic_ne K 58 dX8_convertsBack_43 (by decide) (fun c43 => False.elim (c43 hno)) (fun c43 => ?_)
        refine v_aload_n K dX8_convertsBack_46 rfl ?_
        refine v_get K 0 rfl hasF_c rfl iX8 17 (by decide) rfl (by decide +kernel) rfl dX8_convertsBack_47 ?_
        refine v_iload_n K dX8_convertsBack_50 rfl ?_
        refine v_iload K dX8_convertsBack_51 rfl ?_
        refine v_iadd K dX8_convertsBack_53 ?_
        refine v_lald K 4 rfl (F + k) ?hx54_2 ?ix54_2 dX8_convertsBack_54 ?_
        case hx54_2 => exact nI_add _ _
        case ix54_2 => omega
        rw [hp.2 k hlt]
        refine v_goto K 72 dX8_convertsBack_55 (by decide) ?_
        refine v_istore K dX8_convertsBack_72 (by decide) ?_
        refine v_iload K dX8_convertsBack_74 rfl ?_
        refine v_bipush K (39) dX8_convertsBack_76 (by decide) ?_
        refine v_ic_eq K 87 dX8_convertsBack_78 (by decide) (fun c78 => ?_) (fun c78 => ?_)
        · refine v_iinc K dX8_convertsBack_87 rfl (by decide) iinc_1 ?_
          refine v_goto K 33 dX8_convertsBack_90 (by decide) ?_
          exact v_j (ih hlt _ (nI_1 k)) rfl rfl (by rw [hf, flt_n c78, List.append_nil] <;> rfl)
        · refine v_aload_n K dX8_convertsBack_81 rfl ?_
          refine v_iload K dX8_convertsBack_82 rfl ?_
          refine v_callVv K [0, 5] (c_X8_tells (XI X) (XB X) _ _ _ _ _ _ _ _ _ _ _ _ _ _ ?hc84_0_3) rfl gX8_convertsBack_X8_tells rfl rfl hd_X8_tells ⟨rfl, rfl⟩ ⟨by decide, by decide⟩ 0 rfl hasF_c rfl (by decide) (Nat.le_of_ble_eq_true rfl) ⟨Nat.zero_le _, Nat.zero_le _⟩ rfl dX8_convertsBack_84 ?_
          case hc84_0_3 => exact flt_lt hlt c78 hr
          try dsimp only [Nat.reduceAdd, nf_rep1, nf_rep0, nf_d0, nf_t0, nf_s0, nf_ac, nf_an, nf_d1, nf_t1, nf_s1, nf_d2, nf_t2, nf_s2, nf_d3, nf_t3, nf_s3, nf_d4, nf_t4, nf_s4, nf_d5, nf_t5, nf_s5, nf_d6, nf_t6, nf_s6, nf_d7, nf_t7, nf_s7, nf_d8, nf_t8, nf_s8, nf_d9, nf_t9, nf_s9, nf_d10, nf_t10, nf_s10, nf_d11, nf_t11, nf_s11, nf_d12, nf_t12, nf_s12, nf_d13, nf_t13, nf_s13, nf_d14, nf_t14, nf_s14, nf_d15, nf_t15, nf_s15, nf_d16, nf_t16, nf_s16, nf_d17, nf_t17, nf_s17, nf_d18, nf_t18, nf_s18, nf_d19, nf_t19, nf_s19, nf_d20, nf_t20, nf_s20]
          refine v_iinc K dX8_convertsBack_87 rfl (by decide) iinc_1 ?_
          refine v_goto K 33 dX8_convertsBack_90 (by decide) ?_
          exact v_j (ih hlt _ (nI_1 k)) rfl rfl (by rw [hf, flt_y c78, ← List.append_assoc] <;> rfl)
    refine v_iload_n K dX8_convertsBack_7 rfl ?_
    refine v_bipush K (-5) dX8_convertsBack_8 (by decide) ?_
    refine v_ic_ne K 17 dX8_convertsBack_10 (by decide) (fun c10 => False.elim (c10 hno)) (fun c10 => ?_)
    refine v_iload_n K dX8_convertsBack_13 rfl ?_
    refine v_goto K 28 dX8_convertsBack_14 (by decide) ?_
    refine v_istore K dX8_convertsBack_28 (by decide) ?_
    refine v_iconst K (0) dX8_convertsBack_30 (by decide) ?_
    refine v_istore K dX8_convertsBack_31 (by decide) ?_
    exact v_j (lp 0 (Nat.zero_le _) 0 rfl) rfl rfl (by rw [List.take_zero, List.filter_nil, List.append_nil] <;> rfl)
  · obtain ⟨Kw, hK⟩ := opI_some hno
    have hKl := (fdo_lt hK).2.1
    have hKe : opI (fdo xs L 0) = nI Kw := by rw [hK] <;> rfl
    have hY : bkY S L xs = nthW S Kw := by unfold bkY; rw [if_neg hno, hKe, nI_clamp (by omega)]
    rw [hY] at hr
    rw [hKe]
    have hAw := hA.2.2.2.2.2 Kw (by omega)
    have hww := hw.2.2.2.2.2.2.2.2 Kw (by omega)
    have lp : ∀ k, k ≤ (nthW S Kw).length → ∀ (x : Int32), x = nI k → V X 0 0 33 [(0, .ref (m 0)), (1, .int (nI F)), (2, .int (nI xs.length)), (3, .int (nI Kw)), (4, .int (nI (nthW S Kw).length)), (5, .int x)] [] [moM m hl it sz sl ut ol (nI ts.length) sp tw tm mm (nI (rs ++ ((nthW S Kw).take k).filter n39).length), arF (XI X) (m 1) 570 f, arL (XI X) (m 10) 520 C, arL (XI X) (m 11) 20 (lens L), arL (XI X) (m 12) 60 ts, arL (XI X) (m 16) 420 (rs ++ ((nthW S Kw).take k).filter n39)] := by
      refine loop_up (nthW S Kw).length ?_
      intro k hk ih x hx
      subst hx
      refine v_iload K dX8_convertsBack_33 rfl ?_
      refine v_iload K dX8_convertsBack_35 rfl ?_
      refine v_ic_ge K 93 dX8_convertsBack_37 (by decide) (fun c37 => ?_) (fun c37 => ?_)
      · refine v_ret K E dX8_convertsBack_93 ?_ rfl
        have he := up_end rfl (by omega) hk c37
        exact ⟨rfl, by rw [hY, he, List.take_length] <;> rfl⟩
      · have hlt := up_lt rfl (by omega) hk c37
        have hf : ((nthW S Kw).take (k + 1)).filter n39 = ((nthW S Kw).take k).filter n39 ++ [(nthW S Kw).getD k (-5)].filter n39 := by rw [← tk1 hlt, List.filter_append] <;> rfl
        refine v_iload_n K dX8_convertsBack_40 rfl ?_
        refine v_bipush K (-5) dX8_convertsBack_41 (by decide) ?_
        refine v_ic_ne K 58 dX8_convertsBack_43 (by decide) (fun c43 => ?_) (fun c43 => absurd c43 (nI_m5 (by omega)))
        refine v_aload_n K dX8_convertsBack_58 rfl ?_
        refine v_get K 0 rfl hasF_c rfl iX8 0 (by decide) rfl (by decide +kernel) rfl dX8_convertsBack_59 ?_
        refine v_iload_n K dX8_convertsBack_62 rfl ?_
        refine v_callSi K [] (c_X8_wordAt (XI X) (XB X) _ ) rfl gX8_convertsBack_X8_wordAt rfl rfl hd_X8_wordAt ⟨rfl, rfl⟩ ⟨by decide, by decide⟩ (by decide) (Nat.le_of_ble_eq_true rfl) ⟨Nat.zero_le _, Nat.zero_le _⟩ rfl dX8_convertsBack_63 ?_
        try dsimp only [Nat.reduceAdd, nf_rep1, nf_rep0, nf_d0, nf_t0, nf_s0, nf_ac, nf_an, nf_d1, nf_t1, nf_s1, nf_d2, nf_t2, nf_s2, nf_d3, nf_t3, nf_s3, nf_d4, nf_t4, nf_s4, nf_d5, nf_t5, nf_s5, nf_d6, nf_t6, nf_s6, nf_d7, nf_t7, nf_s7, nf_d8, nf_t8, nf_s8, nf_d9, nf_t9, nf_s9, nf_d10, nf_t10, nf_s10, nf_d11, nf_t11, nf_s11, nf_d12, nf_t12, nf_s12, nf_d13, nf_t13, nf_s13, nf_d14, nf_t14, nf_s14, nf_d15, nf_t15, nf_s15, nf_d16, nf_t16, nf_s16, nf_d17, nf_t17, nf_s17, nf_d18, nf_t18, nf_s18, nf_d19, nf_t19, nf_s19, nf_d20, nf_t20, nf_s20]
        refine v_iconst K (2) dX8_convertsBack_66 (by decide) ?_
        refine v_iadd K dX8_convertsBack_67 ?_
        refine v_iload K dX8_convertsBack_68 rfl ?_
        refine v_iadd K dX8_convertsBack_70 ?_
        refine v_fald K 1 rfl (290 + 14 * Kw + 2 + k) ?hx71_5 ?ix71_5 dX8_convertsBack_71 ?_
        case hx71_5 => rw [show nI (290 + 14 * Kw) + 2 = nI (290 + 14 * Kw + 2) from nI_add _ 2, nI_add]
        case ix71_5 => exact ⟨by omega, by decide⟩
        rw [hAw.2.2 k hlt]
        refine v_istore K dX8_convertsBack_72 (by decide) ?_
        refine v_iload K dX8_convertsBack_74 rfl ?_
        refine v_bipush K (39) dX8_convertsBack_76 (by decide) ?_
        refine v_ic_eq K 87 dX8_convertsBack_78 (by decide) (fun c78 => ?_) (fun c78 => ?_)
        · refine v_iinc K dX8_convertsBack_87 rfl (by decide) iinc_1 ?_
          refine v_goto K 33 dX8_convertsBack_90 (by decide) ?_
          exact v_j (ih hlt _ (nI_1 k)) rfl rfl (by rw [hf, flt_n c78, List.append_nil] <;> rfl)
        · refine v_aload_n K dX8_convertsBack_81 rfl ?_
          refine v_iload K dX8_convertsBack_82 rfl ?_
          refine v_callVv K [0, 5] (c_X8_tells (XI X) (XB X) _ _ _ _ _ _ _ _ _ _ _ _ _ _ ?hc84_0_6) rfl gX8_convertsBack_X8_tells rfl rfl hd_X8_tells ⟨rfl, rfl⟩ ⟨by decide, by decide⟩ 0 rfl hasF_c rfl (by decide) (Nat.le_of_ble_eq_true rfl) ⟨Nat.zero_le _, Nat.zero_le _⟩ rfl dX8_convertsBack_84 ?_
          case hc84_0_6 => exact flt_lt hlt c78 hr
          try dsimp only [Nat.reduceAdd, nf_rep1, nf_rep0, nf_d0, nf_t0, nf_s0, nf_ac, nf_an, nf_d1, nf_t1, nf_s1, nf_d2, nf_t2, nf_s2, nf_d3, nf_t3, nf_s3, nf_d4, nf_t4, nf_s4, nf_d5, nf_t5, nf_s5, nf_d6, nf_t6, nf_s6, nf_d7, nf_t7, nf_s7, nf_d8, nf_t8, nf_s8, nf_d9, nf_t9, nf_s9, nf_d10, nf_t10, nf_s10, nf_d11, nf_t11, nf_s11, nf_d12, nf_t12, nf_s12, nf_d13, nf_t13, nf_s13, nf_d14, nf_t14, nf_s14, nf_d15, nf_t15, nf_s15, nf_d16, nf_t16, nf_s16, nf_d17, nf_t17, nf_s17, nf_d18, nf_t18, nf_s18, nf_d19, nf_t19, nf_s19, nf_d20, nf_t20, nf_s20]
          refine v_iinc K dX8_convertsBack_87 rfl (by decide) iinc_1 ?_
          refine v_goto K 33 dX8_convertsBack_90 (by decide) ?_
          exact v_j (ih hlt _ (nI_1 k)) rfl rfl (by rw [hf, flt_y c78, ← List.append_assoc] <;> rfl)
    refine v_iload_n K dX8_convertsBack_7 rfl ?_
    refine v_bipush K (-5) dX8_convertsBack_8 (by decide) ?_
    refine v_ic_ne K 17 dX8_convertsBack_10 (by decide) (fun c10 => ?_) (fun c10 => absurd c10 (nI_m5 (by omega)))
    refine v_aload_n K dX8_convertsBack_17 rfl ?_
    refine v_get K 0 rfl hasF_c rfl iX8 0 (by decide) rfl (by decide +kernel) rfl dX8_convertsBack_18 ?_
    refine v_iload_n K dX8_convertsBack_21 rfl ?_
    refine v_callSi K [] (c_X8_wordAt (XI X) (XB X) _ ) rfl gX8_convertsBack_X8_wordAt rfl rfl hd_X8_wordAt ⟨rfl, rfl⟩ ⟨by decide, by decide⟩ (by decide) (Nat.le_of_ble_eq_true rfl) ⟨Nat.zero_le _, Nat.zero_le _⟩ rfl dX8_convertsBack_22 ?_
    try dsimp only [Nat.reduceAdd, nf_rep1, nf_rep0, nf_d0, nf_t0, nf_s0, nf_ac, nf_an, nf_d1, nf_t1, nf_s1, nf_d2, nf_t2, nf_s2, nf_d3, nf_t3, nf_s3, nf_d4, nf_t4, nf_s4, nf_d5, nf_t5, nf_s5, nf_d6, nf_t6, nf_s6, nf_d7, nf_t7, nf_s7, nf_d8, nf_t8, nf_s8, nf_d9, nf_t9, nf_s9, nf_d10, nf_t10, nf_s10, nf_d11, nf_t11, nf_s11, nf_d12, nf_t12, nf_s12, nf_d13, nf_t13, nf_s13, nf_d14, nf_t14, nf_s14, nf_d15, nf_t15, nf_s15, nf_d16, nf_t16, nf_s16, nf_d17, nf_t17, nf_s17, nf_d18, nf_t18, nf_s18, nf_d19, nf_t19, nf_s19, nf_d20, nf_t20, nf_s20]
    refine v_iconst K (1) dX8_convertsBack_25 (by decide) ?_
    refine v_iadd K dX8_convertsBack_26 ?_
    refine v_fald K 1 rfl (290 + 14 * Kw + 1) ?hx27_8 ?ix27_8 dX8_convertsBack_27 ?_
    case hx27_8 => exact nI_1 _
    case ix27_8 => exact ⟨by omega, by decide⟩
    rw [hAw.2.1]
    refine v_istore K dX8_convertsBack_28 (by decide) ?_
    refine v_iconst K (0) dX8_convertsBack_30 (by decide) ?_
    refine v_istore K dX8_convertsBack_31 (by decide) ?_
    exact v_j (lp 0 (Nat.zero_le _) 0 rfl) rfl rfl (by rw [List.take_zero, List.filter_nil, List.append_nil] <;> rfl)
