theorem hd_X8_isBeyond : yX8_isBeyond.cls = RX8 ∧ yX8_isBeyond.cls ≠ "java/lang/invoke/MethodHandle" ∧ yX8_isBeyond.cls ≠ "java/lang/invoke/VarHandle" ∧ (parseMethodDescriptor yX8_isBeyond.desc).map (fun d => d.parameters.length) = some 3 := by decide +kernel
set_option maxHeartbeats 4000000 in
set_option maxRecDepth 100000 in
theorem c_X8_isBeyond (cI cB : ClassId) (m : Nat → Nat) (hl it sz sl ut ol sp tw tm rl : Int32) (ts : List Int32) (B : List Ye) (q : Nat → Int32) (F : Nat) (xs : List Int32) (d : Int32) (hm : moR ts B q) (hp : pcT ts F xs) (hB : 3 * B.length ≤ 60) : Ct cI cB yX8_isBeyond wsX8_isBeyond { frames := 0, cells := 0, slots := 0, locals := 0 } [.ref (m 0), .int (nI F), .int (nI xs.length), .int d] [moM m hl it sz sl ut ol (nI ts.length) sp tw tm (nI (3 * B.length)) rl, arL cI (m 12) 60 ts, arF cI (m 13) 60 q] (dv (bI (byd B xs d)) [moM m hl it sz sl ut ol (nI ts.length) sp tw tm (nI (3 * B.length)) rl, arL cI (m 12) 60 ts, arF cI (m 13) 60 q]) := by
  refine ct_of (cc := cX8_isBeyond) (maxL := 8) (ret := (some .boolean)) (by decide) rfl (Nat.le_of_ble_eq_true rfl) [(0, .ref (m 0)), (1, .int (nI F)), (2, .int (nI xs.length)), (3, .int d)] rfl ?_
  intro X hI hB K E
  subst hI
  subst hB
  have iX8 : ∀ w ∈ u_ws RX8 TX8 28, w ∈ wsX8_isBeyond := by decide +kernel
  have hpl := hp.1
  refine v_arlen 1 rfl (fun hX => ?_)
  have lpi : ∀ (i : Nat) (o : Bool), i < B.length → (∀ y, V X 0 0 102 [(0, .ref (m 0)), (1, .int (nI F)), (2, .int (nI xs.length)), (3, .int d), (4, .int (bI o)), (5, .int (nI (3 * i))), (6, .int (bI (byP xs d (B.getD i ye0)))), (7, .int y)] [] [moM m hl it sz sl ut ol (nI ts.length) sp tw tm (nI (3 * B.length)) rl, arL (XI X) (m 12) 60 ts, arF (XI X) (m 13) 60 q]) → ∀ k, k ≤ xs.length → ∀ (x : Int32) (b : Bool), x = nI k → b = decide (((B.getD i ye0).2.1.length = xs.length ∧ (B.getD i ye0).2.2 = d) ∧ ∀ j, j < k → (B.getD i ye0).2.1.getD j (-5) = xs.getD j (-5)) → V X 0 0 51 [(0, .ref (m 0)), (1, .int (nI F)), (2, .int (nI xs.length)), (3, .int d), (4, .int (bI o)), (5, .int (nI (3 * i))), (6, .int (bI b)), (7, .int x)] [] [moM m hl it sz sl ut ol (nI ts.length) sp tw tm (nI (3 * B.length)) rl, arL (XI X) (m 12) 60 ts, arF (XI X) (m 13) 60 q] := by
    intro i o hi hk0
    obtain ⟨m1, m2, m3, m4⟩ := hm i hi
    have m5 := m4.1
    refine loop_up xs.length ?_
    intro k hk ih x b hx hb
    subst hx
    refine v_iload K dX8_isBeyond_51 rfl ?_
    refine v_iload_n K dX8_isBeyond_53 rfl ?_
    refine v_ic_ge K 102 dX8_isBeyond_54 (by decide) (fun c54 => ?_) (fun c54 => ?_)
    · have he := up_end rfl (by omega) hk c54
      have e : b = byP xs d (B.getD i ye0) := by
        rw [hb]
        subst he
        unfold byP
        rw [← Bool.decide_and, decide_eq_decide]
        exact ⟨fun z => ⟨isAt_t z.1.1 z.2, z.1.2⟩, fun z => by rw [z.1]; exact ⟨⟨rfl, z.2⟩, fun _ _ => rfl⟩⟩
      exact v_j (hk0 _) (by rw [e] <;> rfl) rfl rfl
    · have hlt := up_lt rfl (by omega) hk c54
      refine v_iload K dX8_isBeyond_57 rfl ?_
      refine v_if_eq K 102 dX8_isBeyond_59 (by decide) (fun c59 => ?_) (fun c59 => ?_)
      · have h0 := bI_0 c59
        have e : byP xs d (B.getD i ye0) = false := by
          unfold byP
          rw [← Bool.decide_and]
          refine decide_eq_false (fun z => ?_)
          rw [h0] at hb
          exact of_decide_eq_false hb.symm (by rw [z.1]; exact ⟨⟨rfl, z.2⟩, fun _ _ => rfl⟩)
        exact v_j (hk0 _) (by rw [e, h0] <;> rfl) rfl rfl
      · have hbt := bI_1 c59
        rw [hbt] at hb
        have hall := of_decide_eq_true hb.symm
        refine v_aload_n K dX8_isBeyond_62 rfl ?_
        refine v_get K 0 rfl hasF_c rfl iX8 17 (by decide) rfl (by decide +kernel) rfl dX8_isBeyond_63 ?_
        refine v_aload_n K dX8_isBeyond_66 rfl ?_
        refine v_get K 0 rfl hasF_c rfl iX8 22 (by decide) rfl (by decide +kernel) rfl dX8_isBeyond_67 ?_
        refine v_iload K dX8_isBeyond_70 rfl ?_
        refine v_fald K 2 rfl (3 * i) ?hx72_1 ?ix72_1 dX8_isBeyond_72 ?_
        case hx72_1 => exact rfl
        case ix72_1 => exact ⟨by omega, by decide⟩
        rw [m1]
        refine v_iload K dX8_isBeyond_73 rfl ?_
        refine v_iadd K dX8_isBeyond_75 ?_
        refine v_lald K 1 rfl ((B.getD i ye0).1 + k) ?hx76_2 ?ix76_2 dX8_isBeyond_76 ?_
        case hx76_2 => exact nI_add _ _
        case ix76_2 => omega
        rw [m4.2 k (by omega)]
        refine v_aload_n K dX8_isBeyond_77 rfl ?_
        refine v_get K 0 rfl hasF_c rfl iX8 17 (by decide) rfl (by decide +kernel) rfl dX8_isBeyond_78 ?_
        refine v_iload_n K dX8_isBeyond_81 rfl ?_
        refine v_iload K dX8_isBeyond_82 rfl ?_
        refine v_iadd K dX8_isBeyond_84 ?_
        refine v_lald K 1 rfl (F + k) ?hx85_3 ?ix85_3 dX8_isBeyond_85 ?_
        case hx85_3 => exact nI_add _ _
        case ix85_3 => omega
        rw [hp.2 k hlt]
        refine v_ic_ne K 93 dX8_isBeyond_86 (by decide) (fun c86 => ?_) (fun c86 => ?_)
        · refine v_iconst K (0) dX8_isBeyond_93 (by decide) ?_
          refine v_istore K dX8_isBeyond_94 (by decide) ?_
          refine v_iinc K dX8_isBeyond_96 rfl (by decide) iinc_1 ?_
          refine v_goto K 51 dX8_isBeyond_99 (by decide) ?_
          exact v_j (ih hlt _ false (nI_1 k) (by rw [decide_eq_false (fun z => c86 (z.2 k (by omega)))] <;> rfl)) rfl rfl rfl
        · refine v_iconst K (1) dX8_isBeyond_89 (by decide) ?_
          refine v_goto K 94 dX8_isBeyond_90 (by decide) ?_
          refine v_istore K dX8_isBeyond_94 (by decide) ?_
          refine v_iinc K dX8_isBeyond_96 rfl (by decide) iinc_1 ?_
          refine v_goto K 51 dX8_isBeyond_99 (by decide) ?_
          exact v_j (ih hlt _ true (nI_1 k) (by rw [decide_eq_true ⟨hall.1, fun j hj => (Nat.lt_or_ge j k).elim (hall.2 j) (fun h => by rw [show j = k by omega]; exact c86)⟩] <;> rfl)) rfl rfl rfl
  have lp : ∀ i, i ≤ B.length → ∀ (x : Int32), x = nI (3 * i) → V X 0 0 6 [(0, .ref (m 0)), (1, .int (nI F)), (2, .int (nI xs.length)), (3, .int d), (4, .int (bI (byd (B.take i) xs d))), (5, .int x)] [] [moM m hl it sz sl ut ol (nI ts.length) sp tw tm (nI (3 * B.length)) rl, arL (XI X) (m 12) 60 ts, arF (XI X) (m 13) 60 q] := by
    refine loop_up B.length ?_
    intro i hi ih x hx
    subst hx
    refine v_iload K dX8_isBeyond_6 rfl ?_
    refine v_aload_n K dX8_isBeyond_8 rfl ?_
    refine v_get K 0 rfl hasF_c rfl iX8 23 (by decide) rfl (by decide +kernel) rfl dX8_isBeyond_9 ?_
    refine v_ic_ge K 125 dX8_isBeyond_12 (by decide) (fun c12 => ?_) (fun c12 => ?_)
    · refine v_iload K dX8_isBeyond_125 rfl ?_
      refine v_zret K E dX8_isBeyond_127 (by first | exact Or.inl rfl | exact Or.inr rfl | exact bI_01 _) ?_ rfl
      have he : i = B.length := by rw [nI_leI (by omega) (by omega)] at c12; omega
      exact ⟨by rw [he, List.take_length] <;> rfl, rfl⟩
    · have hlt : i < B.length := by rw [nI_leI (by omega) (by omega)] at c12; omega
      obtain ⟨m1, m2, m3, m4⟩ := hm i hlt
      have m5 := m4.1
      refine v_aload_n K dX8_isBeyond_15 rfl ?_
      refine v_get K 0 rfl hasF_c rfl iX8 22 (by decide) rfl (by decide +kernel) rfl dX8_isBeyond_16 ?_
      refine v_iload K dX8_isBeyond_19 rfl ?_
      refine v_iconst K (1) dX8_isBeyond_21 (by decide) ?_
      refine v_iadd K dX8_isBeyond_22 ?_
      refine v_fald K 2 rfl (3 * i + 1) ?hx23_4 ?ix23_4 dX8_isBeyond_23 ?_
      case hx23_4 => exact nI_1 _
      case ix23_4 => exact ⟨by omega, by decide⟩
      rw [m2]
      refine v_iload_n K dX8_isBeyond_24 rfl ?_
      refine v_ic_ne K 45 dX8_isBeyond_25 (by decide) (fun c25 => ?_) (fun c25 => ?_)
      · refine v_iconst K (0) dX8_isBeyond_45 (by decide) ?_
        refine v_istore K dX8_isBeyond_46 (by decide) ?_
        refine v_iconst K (0) dX8_isBeyond_48 (by decide) ?_
        refine v_istore K dX8_isBeyond_49 (by decide) ?_
        refine v_j (lpi i _ hlt (fun y => ?_) 0 (Nat.zero_le _) 0 false rfl (by rw [decide_eq_false (fun z => c25 (by rw [z.1.1] <;> rfl))] <;> rfl)) rfl rfl rfl
        refine v_iload K dX8_isBeyond_102 rfl ?_
        refine v_if_ne K 112 dX8_isBeyond_104 (by decide) (fun c104 => ?_) (fun c104 => ?_)
        · refine v_iconst K (1) dX8_isBeyond_112 (by decide) ?_
          refine v_goto K 117 dX8_isBeyond_113 (by decide) ?_
          refine v_istore K dX8_isBeyond_117 (by decide) ?_
          refine v_iinc K dX8_isBeyond_119 rfl (by decide) iinc_3 ?_
          refine v_goto K 6 dX8_isBeyond_122 (by decide) ?_
          exact v_j (ih hlt _ (nI_3 i)) (by rw [byd_add hlt, bI_1 c104, Bool.true_or] <;> rfl) rfl rfl
        · refine v_iload K dX8_isBeyond_107 rfl ?_
          refine v_if_eq K 116 dX8_isBeyond_109 (by decide) (fun c109 => ?_) (fun c109 => ?_)
          · refine v_iconst K (0) dX8_isBeyond_116 (by decide) ?_
            refine v_istore K dX8_isBeyond_117 (by decide) ?_
            refine v_iinc K dX8_isBeyond_119 rfl (by decide) iinc_3 ?_
            refine v_goto K 6 dX8_isBeyond_122 (by decide) ?_
            exact v_j (ih hlt _ (nI_3 i)) (by rw [byd_add hlt, bI_0 c104, bI_0 c109] <;> rfl) rfl rfl
          · refine v_iconst K (1) dX8_isBeyond_112 (by decide) ?_
            refine v_goto K 117 dX8_isBeyond_113 (by decide) ?_
            refine v_istore K dX8_isBeyond_117 (by decide) ?_
            refine v_iinc K dX8_isBeyond_119 rfl (by decide) iinc_3 ?_
            refine v_goto K 6 dX8_isBeyond_122 (by decide) ?_
            exact v_j (ih hlt _ (nI_3 i)) (by rw [byd_add hlt, bI_0 c104, bI_1 c109] <;> rfl) rfl rfl
      · refine v_aload_n K dX8_isBeyond_28 rfl ?_
        refine v_get K 0 rfl hasF_c rfl iX8 22 (by decide) rfl (by decide +kernel) rfl dX8_isBeyond_29 ?_
        refine v_iload K dX8_isBeyond_32 rfl ?_
        refine v_iconst K (2) dX8_isBeyond_34 (by decide) ?_
        refine v_iadd K dX8_isBeyond_35 ?_
        refine v_fald K 2 rfl (3 * i + 2) ?hx36_5 ?ix36_5 dX8_isBeyond_36 ?_
        case hx36_5 => exact nI_add _ 2
        case ix36_5 => exact ⟨by omega, by decide⟩
        rw [m3]
        refine v_iload_n K dX8_isBeyond_37 rfl ?_
        refine v_ic_ne K 45 dX8_isBeyond_38 (by decide) (fun c38 => ?_) (fun c38 => ?_)
        · refine v_iconst K (0) dX8_isBeyond_45 (by decide) ?_
          refine v_istore K dX8_isBeyond_46 (by decide) ?_
          refine v_iconst K (0) dX8_isBeyond_48 (by decide) ?_
          refine v_istore K dX8_isBeyond_49 (by decide) ?_
          refine v_j (lpi i _ hlt (fun y => ?_) 0 (Nat.zero_le _) 0 false rfl (by rw [decide_eq_false (fun z => c38 z.1.2)] <;> rfl)) rfl rfl rfl
          refine v_iload K dX8_isBeyond_102 rfl ?_
          refine v_if_ne K 112 dX8_isBeyond_104 (by decide) (fun c104 => ?_) (fun c104 => ?_)
          · refine v_iconst K (1) dX8_isBeyond_112 (by decide) ?_
            refine v_goto K 117 dX8_isBeyond_113 (by decide) ?_
            refine v_istore K dX8_isBeyond_117 (by decide) ?_
            refine v_iinc K dX8_isBeyond_119 rfl (by decide) iinc_3 ?_
            refine v_goto K 6 dX8_isBeyond_122 (by decide) ?_
            exact v_j (ih hlt _ (nI_3 i)) (by rw [byd_add hlt, bI_1 c104, Bool.true_or] <;> rfl) rfl rfl
          · refine v_iload K dX8_isBeyond_107 rfl ?_
            refine v_if_eq K 116 dX8_isBeyond_109 (by decide) (fun c109 => ?_) (fun c109 => ?_)
            · refine v_iconst K (0) dX8_isBeyond_116 (by decide) ?_
              refine v_istore K dX8_isBeyond_117 (by decide) ?_
              refine v_iinc K dX8_isBeyond_119 rfl (by decide) iinc_3 ?_
              refine v_goto K 6 dX8_isBeyond_122 (by decide) ?_
              exact v_j (ih hlt _ (nI_3 i)) (by rw [byd_add hlt, bI_0 c104, bI_0 c109] <;> rfl) rfl rfl
            · refine v_iconst K (1) dX8_isBeyond_112 (by decide) ?_
              refine v_goto K 117 dX8_isBeyond_113 (by decide) ?_
              refine v_istore K dX8_isBeyond_117 (by decide) ?_
              refine v_iinc K dX8_isBeyond_119 rfl (by decide) iinc_3 ?_
              refine v_goto K 6 dX8_isBeyond_122 (by decide) ?_
              exact v_j (ih hlt _ (nI_3 i)) (by rw [byd_add hlt, bI_0 c104, bI_1 c109] <;> rfl) rfl rfl
        · refine v_iconst K (1) dX8_isBeyond_41 (by decide) ?_
          refine v_goto K 46 dX8_isBeyond_42 (by decide) ?_
          refine v_istore K dX8_isBeyond_46 (by decide) ?_
          refine v_iconst K (0) dX8_isBeyond_48 (by decide) ?_
          refine v_istore K dX8_isBeyond_49 (by decide) ?_
          refine v_j (lpi i _ hlt (fun y => ?_) 0 (Nat.zero_le _) 0 true rfl (by rw [decide_eq_true ⟨⟨(nI_eq (by omega) (by omega)).mp c25, c38⟩, fun j hj => absurd hj (Nat.not_lt_zero j)⟩] <;> rfl)) rfl rfl rfl
          refine v_iload K dX8_isBeyond_102 rfl ?_
          refine v_if_ne K 112 dX8_isBeyond_104 (by decide) (fun c104 => ?_) (fun c104 => ?_)
          · refine v_iconst K (1) dX8_isBeyond_112 (by decide) ?_
            refine v_goto K 117 dX8_isBeyond_113 (by decide) ?_
            refine v_istore K dX8_isBeyond_117 (by decide) ?_
            refine v_iinc K dX8_isBeyond_119 rfl (by decide) iinc_3 ?_
            refine v_goto K 6 dX8_isBeyond_122 (by decide) ?_
            exact v_j (ih hlt _ (nI_3 i)) (by rw [byd_add hlt, bI_1 c104, Bool.true_or] <;> rfl) rfl rfl
          · refine v_iload K dX8_isBeyond_107 rfl ?_
            refine v_if_eq K 116 dX8_isBeyond_109 (by decide) (fun c109 => ?_) (fun c109 => ?_)
            · refine v_iconst K (0) dX8_isBeyond_116 (by decide) ?_
              refine v_istore K dX8_isBeyond_117 (by decide) ?_
              refine v_iinc K dX8_isBeyond_119 rfl (by decide) iinc_3 ?_
              refine v_goto K 6 dX8_isBeyond_122 (by decide) ?_
              exact v_j (ih hlt _ (nI_3 i)) (by rw [byd_add hlt, bI_0 c104, bI_0 c109] <;> rfl) rfl rfl
            · refine v_iconst K (1) dX8_isBeyond_112 (by decide) ?_
              refine v_goto K 117 dX8_isBeyond_113 (by decide) ?_
              refine v_istore K dX8_isBeyond_117 (by decide) ?_
              refine v_iinc K dX8_isBeyond_119 rfl (by decide) iinc_3 ?_
              refine v_goto K 6 dX8_isBeyond_122 (by decide) ?_
              exact v_j (ih hlt _ (nI_3 i)) (by rw [byd_add hlt, bI_0 c104, bI_1 c109] <;> rfl) rfl rfl
  refine v_iconst K (0) dX8_isBeyond_0 (by decide) ?_
  refine v_istore K dX8_isBeyond_1 (by decide) ?_
  refine v_iconst K (0) dX8_isBeyond_3 (by decide) ?_
  refine v_istore K dX8_isBeyond_4 (by decide) ?_
  exact v_j (lp 0 (Nat.zero_le _) 0 rfl) (by rw [List.take_zero] <;> rfl) rfl rfl

theorem hd_X8_goesBeyond : yX8_goesBeyond.cls = RX8 ∧ yX8_goesBeyond.cls ≠ "java/lang/invoke/MethodHandle" ∧ yX8_goesBeyond.cls ≠ "java/lang/invoke/VarHandle" ∧ (parseMethodDescriptor yX8_goesBeyond.desc).map (fun d => d.parameters.length) = some 3 := by decide +kernel
set_option maxHeartbeats 4000000 in
set_option maxRecDepth 100000 in
theorem c_X8_goesBeyond (cI cB : ClassId) (m : Nat → Nat) (hl it sz sl ut ol tl sp tw tm rl : Int32) (B : List Ye) (q : Nat → Int32) (F : Nat) (xs : List Int32) (d : Int32) (hB : 3 * B.length + 2 < 60) : Ct cI cB yX8_goesBeyond wsX8_goesBeyond { frames := 0, cells := 0, slots := 0, locals := 0 } [.ref (m 0), .int (nI F), .int (nI xs.length), .int d] [moM m hl it sz sl ut ol tl sp tw tm (nI (3 * B.length)) rl, arF cI (m 13) 60 q] (dn [moM m hl it sz sl ut ol tl sp tw (bI true) (nI (3 * (B.length + 1))) rl, arF cI (m 13) 60 (gbQ q B.length F xs.length d)]) := by
  refine ct_of (cc := cX8_goesBeyond) (maxL := 4) (ret := none) (by decide) rfl (Nat.le_of_ble_eq_true rfl) [(0, .ref (m 0)), (1, .int (nI F)), (2, .int (nI xs.length)), (3, .int d)] rfl ?_
  intro X hI hB K E
  subst hI
  subst hB
  have iX8 : ∀ w ∈ u_ws RX8 TX8 28, w ∈ wsX8_goesBeyond := by decide +kernel
  refine v_aload_n K dX8_goesBeyond_0 rfl ?_
  refine v_iconst K (1) dX8_goesBeyond_1 (by decide) ?_
  refine v_put K 0 rfl rfl iX8 tyX8 tyX8_ok nmX8 21 (by decide) rfl (by decide +kernel) rfl rfl (Nat.le_of_ble_eq_true rfl) dX8_goesBeyond_2 ?_
  refine v_aload_n K dX8_goesBeyond_5 rfl ?_
  refine v_get K 0 rfl hasF_c rfl iX8 22 (by decide) rfl (by decide +kernel) rfl dX8_goesBeyond_6 ?_
  refine v_aload_n K dX8_goesBeyond_9 rfl ?_
  refine v_get K 0 rfl hasF_c rfl iX8 23 (by decide) rfl (by decide +kernel) rfl dX8_goesBeyond_10 ?_
  refine v_iload_n K dX8_goesBeyond_13 rfl ?_
  refine v_fast K 1 rfl (3 * B.length) ?hx14_1 ?ix14_1 dX8_goesBeyond_14 ?_
  case hx14_1 => exact rfl
  case ix14_1 => exact ⟨by omega, by decide⟩
  refine v_aload_n K dX8_goesBeyond_15 rfl ?_
  refine v_get K 0 rfl hasF_c rfl iX8 22 (by decide) rfl (by decide +kernel) rfl dX8_goesBeyond_16 ?_
  refine v_aload_n K dX8_goesBeyond_19 rfl ?_
  refine v_get K 0 rfl hasF_c rfl iX8 23 (by decide) rfl (by decide +kernel) rfl dX8_goesBeyond_20 ?_
  refine v_iconst K (1) dX8_goesBeyond_23 (by decide) ?_
  refine v_iadd K dX8_goesBeyond_24 ?_
  refine v_iload_n K dX8_goesBeyond_25 rfl ?_
  refine v_fast K 1 rfl (3 * B.length + 1) ?hx26_2 ?ix26_2 dX8_goesBeyond_26 ?_
  case hx26_2 => exact nI_1 _
  case ix26_2 => exact ⟨by omega, by decide⟩
  refine v_aload_n K dX8_goesBeyond_27 rfl ?_
  refine v_get K 0 rfl hasF_c rfl iX8 22 (by decide) rfl (by decide +kernel) rfl dX8_goesBeyond_28 ?_
  refine v_aload_n K dX8_goesBeyond_31 rfl ?_
  refine v_get K 0 rfl hasF_c rfl iX8 23 (by decide) rfl (by decide +kernel) rfl dX8_goesBeyond_32 ?_
  refine v_iconst K (2) dX8_goesBeyond_35 (by decide) ?_
  refine v_iadd K dX8_goesBeyond_36 ?_
  refine v_iload_n K dX8_goesBeyond_37 rfl ?_
  refine v_fast K 1 rfl (3 * B.length + 2) ?hx38_3 ?ix38_3 dX8_goesBeyond_38 ?_
  case hx38_3 => exact nI_add _ 2
  case ix38_3 => exact ⟨by omega, by decide⟩
  refine v_aload_n K dX8_goesBeyond_39 rfl ?_
  refine v_dup K dX8_goesBeyond_40 rfl ?_
  refine v_get K 0 rfl hasF_c rfl iX8 23 (by decide) rfl (by decide +kernel) rfl dX8_goesBeyond_41 ?_
  refine v_iconst K (3) dX8_goesBeyond_44 (by decide) ?_
  refine v_iadd K dX8_goesBeyond_45 ?_
  refine v_put K 0 rfl rfl iX8 tyX8 tyX8_ok nmX8 23 (by decide) rfl (by decide +kernel) rfl rfl (Nat.le_of_ble_eq_true rfl) dX8_goesBeyond_46 ?_
  refine v_ret K E dX8_goesBeyond_49 ?_ rfl
  exact ⟨rfl, by rw [show nI (3 * (B.length + 1)) = nI (3 * B.length) + 3 from (nI_add _ 3).symm] <;> rfl⟩

theorem hd_X8_addsRule : yX8_addsRule.cls = RX8 ∧ yX8_addsRule.cls ≠ "java/lang/invoke/MethodHandle" ∧ yX8_addsRule.cls ≠ "java/lang/invoke/VarHandle" ∧ (parseMethodDescriptor yX8_addsRule.desc).map (fun d => d.parameters.length) = some 4 := by decide +kernel
set_option maxHeartbeats 4000000 in
set_option maxRecDepth 100000 in
theorem c_X8_addsRule (cI cB : ClassId) (m : Nat → Nat) (hl it sz sl ut ol sp rl : Int32) (Z : Me) (f q : Nat → Int32) (ts : List Int32) (F : Nat) (xs : List Int32) (s d : Int32) (hm : meR Z ts f q) (hp : pcT ts F xs) (hx : rul1 xs s d) (hB : 3 * Z.2.1.length + 2 < 60) : Ct cI cB yX8_addsRule wsX8_addsRule { frames := 1, cells := 0, slots := 0, locals := 27 } [.ref (m 0), .int (nI F), .int (nI xs.length), .int (sgn0 s), .int d] [moM m hl it sz sl ut ol (nI ts.length) sp (bI Z.2.2) (bI (tmB Z)) (nI (3 * Z.2.1.length)) rl, arF cI (m 1) 570 f, arL cI (m 12) 60 ts, arF cI (m 13) 60 q] (fun ov M => ov = none ∧ ∃ f q : Nat → Int32, meR (adR Z F xs s d) ts f q ∧ M = [moM m hl it sz sl ut ol (nI ts.length) sp (bI (adR Z F xs s d).2.2) (bI (tmB (adR Z F xs s d))) (nI (3 * (adR Z F xs s d).2.1.length)) rl, arF cI (m 1) 570 f, arL cI (m 12) 60 ts, arF cI (m 13) 60 q]) := by
  refine ct_of (cc := cX8_addsRule) (maxL := 8) (ret := none) (by decide) rfl (Nat.le_of_ble_eq_true rfl) [(0, .ref (m 0)), (1, .int (nI F)), (2, .int (nI xs.length)), (3, .int (sgn0 s)), (4, .int d)] rfl ?_
  intro X hI hB K E
  subst hI
  subst hB
  have iX8 : ∀ w ∈ u_ws RX8 TX8 28, w ∈ wsX8_addsRule := by decide +kernel
  have hA := hm.1
  have hpl := hp.1
  have h30 := hA.1.1
  refine v_arlen 2 rfl (fun hX => ?_)
  refine v_aload_n K dX8_addsRule_0 rfl ?_
  refine v_iload_n K dX8_addsRule_1 rfl ?_
  refine v_iload_n K dX8_addsRule_2 rfl ?_
  refine v_iload K dX8_addsRule_3 rfl ?_
  refine v_callVi K [0, 2, 3] (c_X8_isBeyond (XI X) (XB X) _ _ _ _ _ _ _ _ _ _ _ _ _ _ _ xs _ ?hc5_0_1 ?hc5_1_1 ?hc5_2_1) rfl gX8_addsRule_X8_isBeyond rfl rfl hd_X8_isBeyond ⟨rfl, rfl⟩ ⟨by decide, by decide⟩ 0 rfl hasF_c rfl (by decide) (Nat.le_of_ble_eq_true rfl) ⟨Nat.zero_le _, Nat.zero_le _⟩ rfl dX8_addsRule_5 ?_
  case hc5_0_1 => exact hm.2
  case hc5_1_1 => exact hp
  case hc5_2_1 => omega
  refine v_istore K dX8_addsRule_8 (by decide) ?_
  refine v_iconst K (0) dX8_addsRule_10 (by decide) ?_
  refine v_istore K dX8_addsRule_11 (by decide) ?_
  have lp : ∀ k, k ≤ Z.1.1.length → ∀ (x : Int32), x = nI k → V X 0 0 13 [(0, .ref (m 0)), (1, .int (nI F)), (2, .int (nI xs.length)), (3, .int (sgn0 s)), (4, .int d), (5, .int (bI (byd Z.2.1 xs d || hasRk Z.1 xs d k))), (6, .int x)] [] [moM m hl it sz sl ut ol (nI ts.length) sp (bI Z.2.2) (bI (tmB Z)) (nI (3 * Z.2.1.length)) rl, arF (XI X) (m 1) 570 f, arL (XI X) (m 12) 60 ts, arF (XI X) (m 13) 60 q] := by
    refine loop_up Z.1.1.length ?_
    intro k hk ih x hx
    subst hx
    refine v_iload K dX8_addsRule_13 rfl ?_
    refine v_aload_n K dX8_addsRule_15 rfl ?_
    refine v_get K 0 rfl hasF_c rfl iX8 0 (by decide) rfl (by decide +kernel) rfl dX8_addsRule_16 ?_
    refine v_iconst K (0) dX8_addsRule_19 (by decide) ?_
    refine v_fald K 1 rfl (0) ?hx20_2 ?ix20_2 dX8_addsRule_20 ?_
    case hx20_2 => exact rfl
    case ix20_2 => exact ⟨by decide, by decide⟩
    rw [hA.2.1]
    refine v_ic_ge K 74 dX8_addsRule_21 (by decide) (fun c21 => ?_) (fun c21 => ?_)
    · have he := up_end rfl (by omega) hk c21
      have l95 : ∀ t : Bool, t = (Z.2.2 || (byd Z.2.1 xs d || hasRl Z.1.1 Z.1.2.2.1 xs d)) → V X 0 0 95 [(0, .ref (m 0)), (1, .int (nI F)), (2, .int (nI xs.length)), (3, .int (sgn0 s)), (4, .int d)] [] [moM m hl it sz sl ut ol (nI ts.length) sp (bI t) (bI (tmB Z)) (nI (3 * Z.2.1.length)) rl, arF (XI X) (m 1) 570 f, arL (XI X) (m 12) 60 ts, arF (XI X) (m 13) 60 q] := by
        intro t ht
        refine v_aload_n K dX8_addsRule_95 rfl ?_
        refine v_get K 0 rfl hasF_c rfl iX8 0 (by decide) rfl (by decide +kernel) rfl dX8_addsRule_96 ?_
        refine v_iconst K (0) dX8_addsRule_99 (by decide) ?_
        refine v_fald K 1 rfl (0) ?hx100_3 ?ix100_3 dX8_addsRule_100 ?_
        case hx100_3 => exact rfl
        case ix100_3 => exact ⟨by decide, by decide⟩
        rw [hA.2.1]
        refine v_bipush K (30) dX8_addsRule_101 (by decide) ?_
        refine v_ic_ne K 115 dX8_addsRule_103 (by decide) (fun c103 => ?_) (fun c103 => ?_)
        · have hne : ¬ Z.1.1.length = 30 := fun z => c103 (by rw [z] <;> rfl)
          refine v_aload_n K dX8_addsRule_115 rfl ?_
          refine v_get K 0 rfl hasF_c rfl iX8 0 (by decide) rfl (by decide +kernel) rfl dX8_addsRule_116 ?_
          refine v_iconst K (0) dX8_addsRule_119 (by decide) ?_
          refine v_fald K 1 rfl (0) ?hx120_4 ?ix120_4 dX8_addsRule_120 ?_
          case hx120_4 => exact rfl
          case ix120_4 => exact ⟨by decide, by decide⟩
          rw [hA.2.1]
          refine v_callSi K [] (c_X8_ruleAt (XI X) (XB X) _ ) rfl gX8_addsRule_X8_ruleAt rfl rfl hd_X8_ruleAt ⟨rfl, rfl⟩ ⟨by decide, by decide⟩ (by decide) (Nat.le_of_ble_eq_true rfl) ⟨Nat.zero_le _, Nat.zero_le _⟩ rfl dX8_addsRule_121 ?_
          refine v_istore K dX8_addsRule_124 (by decide) ?_
          refine v_aload_n K dX8_addsRule_126 rfl ?_
          refine v_get K 0 rfl hasF_c rfl iX8 0 (by decide) rfl (by decide +kernel) rfl dX8_addsRule_127 ?_
          refine v_iload K dX8_addsRule_130 rfl ?_
          refine v_iload_n K dX8_addsRule_132 rfl ?_
          refine v_fast K 1 rfl ((2 + 7 * Z.1.1.length)) ?hx133_6 ?ix133_6 dX8_addsRule_133 ?_
          case hx133_6 => exact rfl
          case ix133_6 => exact ⟨by omega, by decide⟩
          refine v_iconst K (0) dX8_addsRule_134 (by decide) ?_
          refine v_istore K dX8_addsRule_135 (by decide) ?_
          have lw : ∀ k, k ≤ xs.length → ∀ (x : Int32), x = nI k → V X 0 0 137 [(0, .ref (m 0)), (1, .int (nI F)), (2, .int (nI xs.length)), (3, .int (sgn0 s)), (4, .int d), (6, .int (nI (2 + 7 * Z.1.1.length))), (7, .int x)] [] [moM m hl it sz sl ut ol (nI ts.length) sp (bI t) (bI (tmB Z)) (nI (3 * Z.2.1.length)) rl, arF (XI X) (m 1) 570 (wrL (upd f (2 + 7 * Z.1.1.length) (nI xs.length)) ((2 + 7 * Z.1.1.length) + 1) xs k), arL (XI X) (m 12) 60 ts, arF (XI X) (m 13) 60 q] := by
            refine loop_up xs.length ?_
            intro k hk ih x hx
            subst hx
            refine v_iload K dX8_addsRule_137 rfl ?_
            refine v_iload_n K dX8_addsRule_139 rfl ?_
            refine v_ic_ge K 170 dX8_addsRule_140 (by decide) (fun c140 => ?_) (fun c140 => ?_)
            · have he := up_end rfl (by omega) hk c140
              subst he
              refine v_aload_n K dX8_addsRule_170 rfl ?_
              refine v_get K 0 rfl hasF_c rfl iX8 0 (by decide) rfl (by decide +kernel) rfl dX8_addsRule_171 ?_
              refine v_iload K dX8_addsRule_174 rfl ?_
              refine v_iconst K (5) dX8_addsRule_176 (by decide) ?_
              refine v_iadd K dX8_addsRule_177 ?_
              refine v_iload_n K dX8_addsRule_178 rfl ?_
              refine v_fast K 1 rfl ((2 + 7 * Z.1.1.length) + 5) ?hx179_7 ?ix179_7 dX8_addsRule_179 ?_
              case hx179_7 => exact nI_add _ 5
              case ix179_7 => exact ⟨by omega, by decide⟩
              refine v_aload_n K dX8_addsRule_180 rfl ?_
              refine v_get K 0 rfl hasF_c rfl iX8 0 (by decide) rfl (by decide +kernel) rfl dX8_addsRule_181 ?_
              refine v_iload K dX8_addsRule_184 rfl ?_
              refine v_bipush K (6) dX8_addsRule_186 (by decide) ?_
              refine v_iadd K dX8_addsRule_188 ?_
              refine v_iload K dX8_addsRule_189 rfl ?_
              refine v_fast K 1 rfl ((2 + 7 * Z.1.1.length) + 6) ?hx191_8 ?ix191_8 dX8_addsRule_191 ?_
              case hx191_8 => exact nI_add _ 6
              case ix191_8 => exact ⟨by omega, by decide⟩
              refine v_aload_n K dX8_addsRule_192 rfl ?_
              refine v_get K 0 rfl hasF_c rfl iX8 0 (by decide) rfl (by decide +kernel) rfl dX8_addsRule_193 ?_
              refine v_iconst K (0) dX8_addsRule_196 (by decide) ?_
              refine v_dup2 K dX8_addsRule_197 rfl rfl ?_
              refine v_fald K 1 rfl (0) ?hx198_9 ?ix198_9 dX8_addsRule_198 ?_
              case hx198_9 => exact rfl
              case ix198_9 => exact ⟨by decide, by decide⟩
              rw [show upd (upd (wrL (upd f (2 + 7 * Z.1.1.length) (nI xs.length)) ((2 + 7 * Z.1.1.length) + 1) xs xs.length) ((2 + 7 * Z.1.1.length) + 5) (sgn0 s)) ((2 + 7 * Z.1.1.length) + 6) d 0 = nI Z.1.1.length by rw [pk_un (by omega), pk_un (by omega), wrL_out (by omega), pk_un (by omega)]; exact hA.2.1]
              refine v_iconst K (1) dX8_addsRule_199 (by decide) ?_
              refine v_iadd K dX8_addsRule_200 ?_
              refine v_fast K 1 rfl (0) ?hx201_10 ?ix201_10 dX8_addsRule_201 ?_
              case hx201_10 => exact rfl
              case ix201_10 => exact ⟨by decide, by decide⟩
              rw [nI_1]
              refine v_ret K E dX8_addsRule_202 ?_ rfl
              have e : adR Z F xs s d = (adRB Z.1 xs s d, Z.2.1, t) := by unfold adR; rw [if_neg hne, if_neg hne, ht]
              exact ⟨rfl, _, _, by rw [e]; exact ⟨allR_addR hA hx (by omega), hm.2⟩, by rw [e] <;> rfl⟩
            · have hlt := up_lt rfl (by omega) hk c140
              refine v_aload_n K dX8_addsRule_143 rfl ?_
              refine v_get K 0 rfl hasF_c rfl iX8 0 (by decide) rfl (by decide +kernel) rfl dX8_addsRule_144 ?_
              refine v_iload K dX8_addsRule_147 rfl ?_
              refine v_iconst K (1) dX8_addsRule_149 (by decide) ?_
              refine v_iadd K dX8_addsRule_150 ?_
              refine v_iload K dX8_addsRule_151 rfl ?_
              refine v_iadd K dX8_addsRule_153 ?_
              refine v_aload_n K dX8_addsRule_154 rfl ?_
              refine v_get K 0 rfl hasF_c rfl iX8 17 (by decide) rfl (by decide +kernel) rfl dX8_addsRule_155 ?_
              refine v_iload_n K dX8_addsRule_158 rfl ?_
              refine v_iload K dX8_addsRule_159 rfl ?_
              refine v_iadd K dX8_addsRule_161 ?_
              refine v_lald K 2 rfl (F + k) ?hx162_11 ?ix162_11 dX8_addsRule_162 ?_
              case hx162_11 => exact nI_add _ _
              case ix162_11 => omega
              rw [hp.2 k hlt]
              refine v_fast K 1 rfl ((2 + 7 * Z.1.1.length) + 1 + k) ?hx163_12 ?ix163_12 dX8_addsRule_163 ?_
              case hx163_12 => rw [nI_1, nI_add]
              case ix163_12 => exact ⟨by omega, by decide⟩
              refine v_iinc K dX8_addsRule_164 rfl (by decide) iinc_1 ?_
              refine v_goto K 137 dX8_addsRule_167 (by decide) ?_
              exact v_j (ih hlt _ (nI_1 k)) rfl rfl (by rw [wrL_s] <;> rfl)
          exact v_j (lw 0 (Nat.zero_le _) 0 rfl) rfl rfl (by rw [wrL_0] <;> rfl)
        · have h3 : Z.1.1.length = 30 := (nI_eq (b := 30) (by omega) (by decide)).mp c103
          refine v_aload_n K dX8_addsRule_106 rfl ?_
          refine v_iload_n K dX8_addsRule_107 rfl ?_
          refine v_iload_n K dX8_addsRule_108 rfl ?_
          refine v_iload K dX8_addsRule_109 rfl ?_
          refine v_callVv K [0, 3] (c_X8_goesBeyond (XI X) (XB X) _ _ _ _ _ _ _ _ _ _ _ _ _ _ _ xs _ ?hc111_0_13) rfl gX8_addsRule_X8_goesBeyond rfl rfl hd_X8_goesBeyond ⟨rfl, rfl⟩ ⟨by decide, by decide⟩ 0 rfl hasF_c rfl (by decide) (Nat.le_of_ble_eq_true rfl) ⟨Nat.zero_le _, Nat.zero_le _⟩ rfl dX8_addsRule_111 ?_
          case hc111_0_13 => omega
          refine v_ret K E dX8_addsRule_114 ?_ rfl
          have e : adR Z F xs s d = (Z.1, Z.2.1 ++ [(F, xs, d)], t) := by unfold adR; rw [if_pos h3, if_pos h3, ht]
          exact ⟨rfl, _, _, by rw [e]; exact ⟨hA, moR_add hm.2 hp⟩, by rw [e]; unfold tmB; rw [len_a1, decide_eq_true (Nat.succ_pos _)] <;> rfl⟩
      refine v_aload_n K dX8_addsRule_74 rfl ?_
      refine v_aload_n K dX8_addsRule_75 rfl ?_
      refine v_get K 0 rfl hasF_c rfl iX8 20 (by decide) rfl (by decide +kernel) rfl dX8_addsRule_76 ?_
      refine v_if_ne K 87 dX8_addsRule_79 (by decide) (fun c79 => ?_) (fun c79 => ?_)
      · refine v_iconst K (1) dX8_addsRule_87 (by decide) ?_
        refine v_goto K 92 dX8_addsRule_88 (by decide) ?_
        refine v_put K 0 rfl rfl iX8 tyX8 tyX8_ok nmX8 20 (by decide) rfl (by decide +kernel) rfl rfl (Nat.le_of_ble_eq_true rfl) dX8_addsRule_92 ?_
        exact v_j (l95 true (by rw [bI_1 c79, Bool.true_or] <;> rfl)) rfl rfl rfl
      · refine v_iload K dX8_addsRule_82 rfl ?_
        refine v_if_eq K 91 dX8_addsRule_84 (by decide) (fun c84 => ?_) (fun c84 => ?_)
        · refine v_iconst K (0) dX8_addsRule_91 (by decide) ?_
          refine v_put K 0 rfl rfl iX8 tyX8 tyX8_ok nmX8 20 (by decide) rfl (by decide +kernel) rfl rfl (Nat.le_of_ble_eq_true rfl) dX8_addsRule_92 ?_
          exact v_j (l95 false (by rw [bI_0 c79, ← hasRk_e, ← he, bI_0 c84, Bool.or_false] <;> rfl)) rfl rfl rfl
        · refine v_iconst K (1) dX8_addsRule_87 (by decide) ?_
          refine v_goto K 92 dX8_addsRule_88 (by decide) ?_
          refine v_put K 0 rfl rfl iX8 tyX8 tyX8_ok nmX8 20 (by decide) rfl (by decide +kernel) rfl rfl (Nat.le_of_ble_eq_true rfl) dX8_addsRule_92 ?_
          exact v_j (l95 true (by rw [← hasRk_e, ← he, bI_1 c84, Bool.or_true] <;> rfl)) rfl rfl rfl
    · have hlt := up_lt rfl (by omega) hk c21
      have hAr := hA.2.2.2.1 k hlt
      have hw := hA.1.2.2.2.2.2.2.1 k hlt
      refine v_iload K dX8_addsRule_24 rfl ?_
      refine v_if_ne K 61 dX8_addsRule_26 (by decide) (fun c26 => ?_) (fun c26 => ?_)
      · refine v_iconst K (1) dX8_addsRule_61 (by decide) ?_
        refine v_goto K 66 dX8_addsRule_62 (by decide) ?_
        refine v_istore K dX8_addsRule_66 (by decide) ?_
        refine v_iinc K dX8_addsRule_68 rfl (by decide) iinc_1 ?_
        refine v_goto K 13 dX8_addsRule_71 (by decide) ?_
        exact v_j (ih hlt _ (nI_1 k)) (by rw [hasRk_s, ← Bool.or_assoc, bI_1 c26, Bool.true_or] <;> rfl) rfl rfl
      · refine v_aload_n K dX8_addsRule_29 rfl ?_
        refine v_iload K dX8_addsRule_30 rfl ?_
        refine v_callSi K [] (c_X8_ruleAt (XI X) (XB X) _ ) rfl gX8_addsRule_X8_ruleAt rfl rfl hd_X8_ruleAt ⟨rfl, rfl⟩ ⟨by decide, by decide⟩ (by decide) (Nat.le_of_ble_eq_true rfl) ⟨Nat.zero_le _, Nat.zero_le _⟩ rfl dX8_addsRule_32 ?_
        refine v_iload_n K dX8_addsRule_35 rfl ?_
        refine v_iload_n K dX8_addsRule_36 rfl ?_
        refine v_callVi K [0, 1, 2] (c_X8_isAt (XI X) (XB X) _ _ _ _ _ _ _ _ _ _ _ _ _ _ (2 + 7 * k) _ (nthR Z.1 k) xs ?hc37_0_15 ?hc37_1_15 ?hc37_2_15 ?hc37_3_15) rfl gX8_addsRule_X8_isAt rfl rfl hd_X8_isAt ⟨rfl, rfl⟩ ⟨by decide, by decide⟩ 0 rfl hasF_c rfl (by decide) (Nat.le_of_ble_eq_true rfl) ⟨Nat.zero_le _, Nat.zero_le _⟩ rfl dX8_addsRule_37 ?_
        case hc37_0_15 => exact hp
        case hc37_1_15 => exact hAr.1
        case hc37_2_15 => exact hAr.2.1
        case hc37_3_15 => omega
        refine v_if_eq K 65 dX8_addsRule_40 (by decide) (fun c40 => ?_) (fun c40 => ?_)
        · refine v_iconst K (0) dX8_addsRule_65 (by decide) ?_
          refine v_istore K dX8_addsRule_66 (by decide) ?_
          refine v_iinc K dX8_addsRule_68 rfl (by decide) iinc_1 ?_
          refine v_goto K 13 dX8_addsRule_71 (by decide) ?_
          exact v_j (ih hlt _ (nI_1 k)) (by rw [hasRk_s, ← Bool.or_assoc, bI_0 c26, show decide (Z.1.1.getD k [] = xs) = false from bI_0 c40, Bool.and_false] <;> rfl) rfl rfl
        · refine v_aload_n K dX8_addsRule_43 rfl ?_
          refine v_get K 0 rfl hasF_c rfl iX8 0 (by decide) rfl (by decide +kernel) rfl dX8_addsRule_44 ?_
          refine v_iload K dX8_addsRule_47 rfl ?_
          refine v_callSi K [] (c_X8_ruleAt (XI X) (XB X) _ ) rfl gX8_addsRule_X8_ruleAt rfl rfl hd_X8_ruleAt ⟨rfl, rfl⟩ ⟨by decide, by decide⟩ (by decide) (Nat.le_of_ble_eq_true rfl) ⟨Nat.zero_le _, Nat.zero_le _⟩ rfl dX8_addsRule_49 ?_
          refine v_bipush K (6) dX8_addsRule_52 (by decide) ?_
          refine v_iadd K dX8_addsRule_54 ?_
          refine v_fald K 1 rfl (2 + 7 * k + 6) ?hx55_17 ?ix55_17 dX8_addsRule_55 ?_
          case hx55_17 => exact nI_add _ 6
          case ix55_17 => exact ⟨by omega, by decide⟩
          rw [hAr.2.2.2]
          refine v_iload K dX8_addsRule_56 rfl ?_
          refine v_ic_ne K 65 dX8_addsRule_58 (by decide) (fun c58 => ?_) (fun c58 => ?_)
          · refine v_iconst K (0) dX8_addsRule_65 (by decide) ?_
            refine v_istore K dX8_addsRule_66 (by decide) ?_
            refine v_iinc K dX8_addsRule_68 rfl (by decide) iinc_1 ?_
            refine v_goto K 13 dX8_addsRule_71 (by decide) ?_
            exact v_j (ih hlt _ (nI_1 k)) (by rw [hasRk_s, ← Bool.or_assoc, bI_0 c26, decide_eq_false c58] <;> rfl) rfl rfl
          · refine v_iconst K (1) dX8_addsRule_61 (by decide) ?_
            refine v_goto K 66 dX8_addsRule_62 (by decide) ?_
            refine v_istore K dX8_addsRule_66 (by decide) ?_
            refine v_iinc K dX8_addsRule_68 rfl (by decide) iinc_1 ?_
            refine v_goto K 13 dX8_addsRule_71 (by decide) ?_
            exact v_j (ih hlt _ (nI_1 k)) (by rw [hasRk_s, ← Bool.or_assoc, bI_0 c26, decide_eq_true c58, show decide (Z.1.1.getD k [] = xs) = true from bI_1 c40] <;> rfl) rfl rfl
  exact v_j (lp 0 (Nat.zero_le _) 0 rfl) (by rw [show hasRk Z.1 xs d 0 = false from rfl, Bool.or_false] <;> rfl) rfl rfl

theorem hd_X8_addsWord : yX8_addsWord.cls = RX8 ∧ yX8_addsWord.cls ≠ "java/lang/invoke/MethodHandle" ∧ yX8_addsWord.cls ≠ "java/lang/invoke/VarHandle" ∧ (parseMethodDescriptor yX8_addsWord.desc).map (fun d => d.parameters.length) = some 3 := by decide +kernel
set_option maxHeartbeats 4000000 in
set_option maxRecDepth 100000 in
theorem c_X8_addsWord (cI cB : ClassId) (m : Nat → Nat) (hl it sz sl ut ol sp rl : Int32) (Z : Me) (f q : Nat → Int32) (ts : List Int32) (F : Nat) (xs : List Int32) (kd : Int32) (hm : meR Z ts f q) (hp : pcT ts F xs) (hx : wrd1 xs kd) (hB : 3 * Z.2.1.length + 2 < 60) : Ct cI cB yX8_addsWord wsX8_addsWord { frames := 1, cells := 0, slots := 0, locals := 27 } [.ref (m 0), .int (nI F), .int (nI xs.length), .int kd] [moM m hl it sz sl ut ol (nI ts.length) sp (bI Z.2.2) (bI (tmB Z)) (nI (3 * Z.2.1.length)) rl, arF cI (m 1) 570 f, arL cI (m 12) 60 ts, arF cI (m 13) 60 q] (fun ov M => ov = none ∧ ∃ f q : Nat → Int32, meR (adW Z F xs kd) ts f q ∧ M = [moM m hl it sz sl ut ol (nI ts.length) sp (bI (adW Z F xs kd).2.2) (bI (tmB (adW Z F xs kd))) (nI (3 * (adW Z F xs kd).2.1.length)) rl, arF cI (m 1) 570 f, arL cI (m 12) 60 ts, arF cI (m 13) 60 q]) := by
  refine ct_of (cc := cX8_addsWord) (maxL := 7) (ret := none) (by decide) rfl (Nat.le_of_ble_eq_true rfl) [(0, .ref (m 0)), (1, .int (nI F)), (2, .int (nI xs.length)), (3, .int kd)] rfl ?_
  intro X hI hB K E
  subst hI
  subst hB
  have iX8 : ∀ w ∈ u_ws RX8 TX8 28, w ∈ wsX8_addsWord := by decide +kernel
  have hA := hm.1
  have hpl := hp.1
  have h20 := hA.1.2.2.2.2.1
  refine v_arlen 2 rfl (fun hX => ?_)
  refine v_aload_n K dX8_addsWord_0 rfl ?_
  refine v_iload_n K dX8_addsWord_1 rfl ?_
  refine v_iload_n K dX8_addsWord_2 rfl ?_
  refine v_bipush K (-5) dX8_addsWord_3 (by decide) ?_
  refine v_callVi K [0, 2, 3] (c_X8_isBeyond (XI X) (XB X) _ _ _ _ _ _ _ _ _ _ _ _ _ _ _ xs _ ?hc5_0_1 ?hc5_1_1 ?hc5_2_1) rfl gX8_addsWord_X8_isBeyond rfl rfl hd_X8_isBeyond ⟨rfl, rfl⟩ ⟨by decide, by decide⟩ 0 rfl hasF_c rfl (by decide) (Nat.le_of_ble_eq_true rfl) ⟨Nat.zero_le _, Nat.zero_le _⟩ rfl dX8_addsWord_5 ?_
  case hc5_0_1 => exact hm.2
  case hc5_1_1 => exact hp
  case hc5_2_1 => omega
  refine v_istore K dX8_addsWord_8 (by decide) ?_
  refine v_iconst K (0) dX8_addsWord_10 (by decide) ?_
  refine v_istore K dX8_addsWord_11 (by decide) ?_
  have lp : ∀ k, k ≤ Z.1.2.2.2.2.1.length → ∀ (x : Int32), x = nI k → V X 0 0 13 [(0, .ref (m 0)), (1, .int (nI F)), (2, .int (nI xs.length)), (3, .int kd), (4, .int (bI (byd Z.2.1 xs (-5) || hasWk Z.1 xs k))), (5, .int x)] [] [moM m hl it sz sl ut ol (nI ts.length) sp (bI Z.2.2) (bI (tmB Z)) (nI (3 * Z.2.1.length)) rl, arF (XI X) (m 1) 570 f, arL (XI X) (m 12) 60 ts, arF (XI X) (m 13) 60 q] := by
    refine loop_up Z.1.2.2.2.2.1.length ?_
    intro k hk ih x hx
    subst hx
    refine v_iload K dX8_addsWord_13 rfl ?_
    refine v_aload_n K dX8_addsWord_15 rfl ?_
    refine v_get K 0 rfl hasF_c rfl iX8 0 (by decide) rfl (by decide +kernel) rfl dX8_addsWord_16 ?_
    refine v_iconst K (1) dX8_addsWord_19 (by decide) ?_
    refine v_fald K 1 rfl (1) ?hx20_2 ?ix20_2 dX8_addsWord_20 ?_
    case hx20_2 => exact rfl
    case ix20_2 => exact ⟨by decide, by decide⟩
    rw [hA.2.2.1]
    refine v_ic_ge K 58 dX8_addsWord_21 (by decide) (fun c21 => ?_) (fun c21 => ?_)
    · have he := up_end rfl (by omega) hk c21
      have l79 : ∀ t : Bool, t = (Z.2.2 || (byd Z.2.1 xs (-5) || hasWd Z.1 xs)) → V X 0 0 79 [(0, .ref (m 0)), (1, .int (nI F)), (2, .int (nI xs.length)), (3, .int kd)] [] [moM m hl it sz sl ut ol (nI ts.length) sp (bI t) (bI (tmB Z)) (nI (3 * Z.2.1.length)) rl, arF (XI X) (m 1) 570 f, arL (XI X) (m 12) 60 ts, arF (XI X) (m 13) 60 q] := by
        intro t ht
        refine v_aload_n K dX8_addsWord_79 rfl ?_
        refine v_get K 0 rfl hasF_c rfl iX8 0 (by decide) rfl (by decide +kernel) rfl dX8_addsWord_80 ?_
        refine v_iconst K (1) dX8_addsWord_83 (by decide) ?_
        refine v_fald K 1 rfl (1) ?hx84_3 ?ix84_3 dX8_addsWord_84 ?_
        case hx84_3 => exact rfl
        case ix84_3 => exact ⟨by decide, by decide⟩
        rw [hA.2.2.1]
        refine v_bipush K (20) dX8_addsWord_85 (by decide) ?_
        refine v_ic_ne K 99 dX8_addsWord_87 (by decide) (fun c87 => ?_) (fun c87 => ?_)
        · have hne : ¬ Z.1.2.2.2.2.1.length = 20 := fun z => c87 (by rw [z] <;> rfl)
          refine v_aload_n K dX8_addsWord_99 rfl ?_
          refine v_get K 0 rfl hasF_c rfl iX8 0 (by decide) rfl (by decide +kernel) rfl dX8_addsWord_100 ?_
          refine v_iconst K (1) dX8_addsWord_103 (by decide) ?_
          refine v_fald K 1 rfl (1) ?hx104_4 ?ix104_4 dX8_addsWord_104 ?_
          case hx104_4 => exact rfl
          case ix104_4 => exact ⟨by decide, by decide⟩
          rw [hA.2.2.1]
          refine v_callSi K [] (c_X8_wordAt (XI X) (XB X) _ ) rfl gX8_addsWord_X8_wordAt rfl rfl hd_X8_wordAt ⟨rfl, rfl⟩ ⟨by decide, by decide⟩ (by decide) (Nat.le_of_ble_eq_true rfl) ⟨Nat.zero_le _, Nat.zero_le _⟩ rfl dX8_addsWord_105 ?_
          refine v_istore K dX8_addsWord_108 (by decide) ?_
          refine v_aload_n K dX8_addsWord_110 rfl ?_
          refine v_get K 0 rfl hasF_c rfl iX8 0 (by decide) rfl (by decide +kernel) rfl dX8_addsWord_111 ?_
          refine v_iload K dX8_addsWord_114 rfl ?_
          refine v_iload_n K dX8_addsWord_116 rfl ?_
          refine v_fast K 1 rfl ((290 + 14 * Z.1.2.2.2.2.1.length)) ?hx117_6 ?ix117_6 dX8_addsWord_117 ?_
          case hx117_6 => exact rfl
          case ix117_6 => exact ⟨by omega, by decide⟩
          refine v_aload_n K dX8_addsWord_118 rfl ?_
          refine v_get K 0 rfl hasF_c rfl iX8 0 (by decide) rfl (by decide +kernel) rfl dX8_addsWord_119 ?_
          refine v_iload K dX8_addsWord_122 rfl ?_
          refine v_iconst K (1) dX8_addsWord_124 (by decide) ?_
          refine v_iadd K dX8_addsWord_125 ?_
          refine v_iload_n K dX8_addsWord_126 rfl ?_
          refine v_fast K 1 rfl ((290 + 14 * Z.1.2.2.2.2.1.length) + 1) ?hx127_7 ?ix127_7 dX8_addsWord_127 ?_
          case hx127_7 => exact nI_1 _
          case ix127_7 => exact ⟨by omega, by decide⟩
          refine v_iconst K (0) dX8_addsWord_128 (by decide) ?_
          refine v_istore K dX8_addsWord_129 (by decide) ?_
          have lw : ∀ k, k ≤ xs.length → ∀ (x : Int32), x = nI k → V X 0 0 131 [(0, .ref (m 0)), (1, .int (nI F)), (2, .int (nI xs.length)), (3, .int kd), (5, .int (nI (290 + 14 * Z.1.2.2.2.2.1.length))), (6, .int x)] [] [moM m hl it sz sl ut ol (nI ts.length) sp (bI t) (bI (tmB Z)) (nI (3 * Z.2.1.length)) rl, arF (XI X) (m 1) 570 (wrL (upd (upd f (290 + 14 * Z.1.2.2.2.2.1.length) kd) ((290 + 14 * Z.1.2.2.2.2.1.length) + 1) (nI xs.length)) ((290 + 14 * Z.1.2.2.2.2.1.length) + 2) xs k), arL (XI X) (m 12) 60 ts, arF (XI X) (m 13) 60 q] := by
            refine loop_up xs.length ?_
            intro k hk ih x hx
            subst hx
            refine v_iload K dX8_addsWord_131 rfl ?_
            refine v_iload_n K dX8_addsWord_133 rfl ?_
            refine v_ic_ge K 164 dX8_addsWord_134 (by decide) (fun c134 => ?_) (fun c134 => ?_)
            · have he := up_end rfl (by omega) hk c134
              subst he
              refine v_aload_n K dX8_addsWord_164 rfl ?_
              refine v_get K 0 rfl hasF_c rfl iX8 0 (by decide) rfl (by decide +kernel) rfl dX8_addsWord_165 ?_
              refine v_iconst K (1) dX8_addsWord_168 (by decide) ?_
              refine v_dup2 K dX8_addsWord_169 rfl rfl ?_
              refine v_fald K 1 rfl (1) ?hx170_8 ?ix170_8 dX8_addsWord_170 ?_
              case hx170_8 => exact rfl
              case ix170_8 => exact ⟨by decide, by decide⟩
              rw [show wrL (upd (upd f (290 + 14 * Z.1.2.2.2.2.1.length) kd) ((290 + 14 * Z.1.2.2.2.2.1.length) + 1) (nI xs.length)) ((290 + 14 * Z.1.2.2.2.2.1.length) + 2) xs xs.length 1 = nI Z.1.2.2.2.2.1.length by rw [wrL_out (by omega), pk_un (by omega), pk_un (by omega)]; exact hA.2.2.1]
              refine v_iconst K (1) dX8_addsWord_171 (by decide) ?_
              refine v_iadd K dX8_addsWord_172 ?_
              refine v_fast K 1 rfl (1) ?hx173_9 ?ix173_9 dX8_addsWord_173 ?_
              case hx173_9 => exact rfl
              case ix173_9 => exact ⟨by decide, by decide⟩
              rw [nI_1]
              refine v_ret K E dX8_addsWord_174 ?_ rfl
              have e : adW Z F xs kd = (adWB Z.1 xs kd, Z.2.1, t) := by unfold adW; rw [if_neg hne, if_neg hne, ht]
              exact ⟨rfl, _, _, by rw [e]; exact ⟨allR_addW hA hx (by omega), hm.2⟩, by rw [e] <;> rfl⟩
            · have hlt := up_lt rfl (by omega) hk c134
              have hx12 := hx.2.1
              refine v_aload_n K dX8_addsWord_137 rfl ?_
              refine v_get K 0 rfl hasF_c rfl iX8 0 (by decide) rfl (by decide +kernel) rfl dX8_addsWord_138 ?_
              refine v_iload K dX8_addsWord_141 rfl ?_
              refine v_iconst K (2) dX8_addsWord_143 (by decide) ?_
              refine v_iadd K dX8_addsWord_144 ?_
              refine v_iload K dX8_addsWord_145 rfl ?_
              refine v_iadd K dX8_addsWord_147 ?_
              refine v_aload_n K dX8_addsWord_148 rfl ?_
              refine v_get K 0 rfl hasF_c rfl iX8 17 (by decide) rfl (by decide +kernel) rfl dX8_addsWord_149 ?_
              refine v_iload_n K dX8_addsWord_152 rfl ?_
              refine v_iload K dX8_addsWord_153 rfl ?_
              refine v_iadd K dX8_addsWord_155 ?_
              refine v_lald K 2 rfl (F + k) ?hx156_10 ?ix156_10 dX8_addsWord_156 ?_
              case hx156_10 => exact nI_add _ _
              case ix156_10 => omega
              rw [hp.2 k hlt]
              refine v_fast K 1 rfl ((290 + 14 * Z.1.2.2.2.2.1.length) + 2 + k) ?hx157_11 ?ix157_11 dX8_addsWord_157 ?_
              case hx157_11 => rw [show nI (290 + 14 * Z.1.2.2.2.2.1.length) + 2 = nI ((290 + 14 * Z.1.2.2.2.2.1.length) + 2) from nI_add _ 2, nI_add]
              case ix157_11 => exact ⟨by omega, by decide⟩
              refine v_iinc K dX8_addsWord_158 rfl (by decide) iinc_1 ?_
              refine v_goto K 131 dX8_addsWord_161 (by decide) ?_
              exact v_j (ih hlt _ (nI_1 k)) rfl rfl (by rw [wrL_s] <;> rfl)
          exact v_j (lw 0 (Nat.zero_le _) 0 rfl) rfl rfl (by rw [wrL_0] <;> rfl)
        · have h3 : Z.1.2.2.2.2.1.length = 20 := (nI_eq (b := 20) (by omega) (by decide)).mp c87
          refine v_aload_n K dX8_addsWord_90 rfl ?_
          refine v_iload_n K dX8_addsWord_91 rfl ?_
          refine v_iload_n K dX8_addsWord_92 rfl ?_
          refine v_bipush K (-5) dX8_addsWord_93 (by decide) ?_
          refine v_callVv K [0, 3] (c_X8_goesBeyond (XI X) (XB X) _ _ _ _ _ _ _ _ _ _ _ _ _ _ _ xs _ ?hc95_0_12) rfl gX8_addsWord_X8_goesBeyond rfl rfl hd_X8_goesBeyond ⟨rfl, rfl⟩ ⟨by decide, by decide⟩ 0 rfl hasF_c rfl (by decide) (Nat.le_of_ble_eq_true rfl) ⟨Nat.zero_le _, Nat.zero_le _⟩ rfl dX8_addsWord_95 ?_
          case hc95_0_12 => omega
          refine v_ret K E dX8_addsWord_98 ?_ rfl
          have e : adW Z F xs kd = (Z.1, Z.2.1 ++ [(F, xs, -5)], t) := by unfold adW; rw [if_pos h3, if_pos h3, ht]
          exact ⟨rfl, _, _, by rw [e]; exact ⟨hA, moR_add hm.2 hp⟩, by rw [e]; unfold tmB; rw [len_a1, decide_eq_true (Nat.succ_pos _)] <;> rfl⟩
      refine v_aload_n K dX8_addsWord_58 rfl ?_
      refine v_aload_n K dX8_addsWord_59 rfl ?_
      refine v_get K 0 rfl hasF_c rfl iX8 20 (by decide) rfl (by decide +kernel) rfl dX8_addsWord_60 ?_
      refine v_if_ne K 71 dX8_addsWord_63 (by decide) (fun c63 => ?_) (fun c63 => ?_)
      · refine v_iconst K (1) dX8_addsWord_71 (by decide) ?_
        refine v_goto K 76 dX8_addsWord_72 (by decide) ?_
        refine v_put K 0 rfl rfl iX8 tyX8 tyX8_ok nmX8 20 (by decide) rfl (by decide +kernel) rfl rfl (Nat.le_of_ble_eq_true rfl) dX8_addsWord_76 ?_
        exact v_j (l79 true (by rw [bI_1 c63, Bool.true_or] <;> rfl)) rfl rfl rfl
      · refine v_iload K dX8_addsWord_66 rfl ?_
        refine v_if_eq K 75 dX8_addsWord_68 (by decide) (fun c68 => ?_) (fun c68 => ?_)
        · refine v_iconst K (0) dX8_addsWord_75 (by decide) ?_
          refine v_put K 0 rfl rfl iX8 tyX8 tyX8_ok nmX8 20 (by decide) rfl (by decide +kernel) rfl rfl (Nat.le_of_ble_eq_true rfl) dX8_addsWord_76 ?_
          exact v_j (l79 false (by rw [bI_0 c63, ← hasWk_e, ← he, bI_0 c68, Bool.or_false] <;> rfl)) rfl rfl rfl
        · refine v_iconst K (1) dX8_addsWord_71 (by decide) ?_
          refine v_goto K 76 dX8_addsWord_72 (by decide) ?_
          refine v_put K 0 rfl rfl iX8 tyX8 tyX8_ok nmX8 20 (by decide) rfl (by decide +kernel) rfl rfl (Nat.le_of_ble_eq_true rfl) dX8_addsWord_76 ?_
          exact v_j (l79 true (by rw [← hasWk_e, ← he, bI_1 c68, Bool.or_true] <;> rfl)) rfl rfl rfl
    · have hlt := up_lt rfl (by omega) hk c21
      have hAw := hA.2.2.2.2.2 k hlt
      have hw := hA.1.2.2.2.2.2.2.2.2 k hlt
      refine v_iload K dX8_addsWord_24 rfl ?_
      refine v_if_ne K 45 dX8_addsWord_26 (by decide) (fun c26 => ?_) (fun c26 => ?_)
      · refine v_iconst K (1) dX8_addsWord_45 (by decide) ?_
        refine v_goto K 50 dX8_addsWord_46 (by decide) ?_
        refine v_istore K dX8_addsWord_50 (by decide) ?_
        refine v_iinc K dX8_addsWord_52 rfl (by decide) iinc_1 ?_
        refine v_goto K 13 dX8_addsWord_55 (by decide) ?_
        exact v_j (ih hlt _ (nI_1 k)) (by rw [hasWk_s, ← Bool.or_assoc, bI_1 c26, Bool.true_or] <;> rfl) rfl rfl
      · refine v_aload_n K dX8_addsWord_29 rfl ?_
        refine v_iload K dX8_addsWord_30 rfl ?_
        refine v_callSi K [] (c_X8_wordAt (XI X) (XB X) _ ) rfl gX8_addsWord_X8_wordAt rfl rfl hd_X8_wordAt ⟨rfl, rfl⟩ ⟨by decide, by decide⟩ (by decide) (Nat.le_of_ble_eq_true rfl) ⟨Nat.zero_le _, Nat.zero_le _⟩ rfl dX8_addsWord_32 ?_
        refine v_iconst K (1) dX8_addsWord_35 (by decide) ?_
        refine v_iadd K dX8_addsWord_36 ?_
        rw [nI_1]
        refine v_iload_n K dX8_addsWord_37 rfl ?_
        refine v_iload_n K dX8_addsWord_38 rfl ?_
        refine v_callVi K [0, 1, 2] (c_X8_isAt (XI X) (XB X) _ _ _ _ _ _ _ _ _ _ _ _ _ _ (290 + 14 * k + 1) _ (nthW Z.1 k) xs ?hc39_0_14 ?hc39_1_14 ?hc39_2_14 ?hc39_3_14) rfl gX8_addsWord_X8_isAt rfl rfl hd_X8_isAt ⟨rfl, rfl⟩ ⟨by decide, by decide⟩ 0 rfl hasF_c rfl (by decide) (Nat.le_of_ble_eq_true rfl) ⟨Nat.zero_le _, Nat.zero_le _⟩ rfl dX8_addsWord_39 ?_
        case hc39_0_14 => exact hp
        case hc39_1_14 => exact hAw.2.1
        case hc39_2_14 => exact fun j hj => by rw [show 290 + 14 * k + 1 + 1 + j = 290 + 14 * k + 2 + j by omega]; exact hAw.2.2 j hj
        case hc39_3_14 => omega
        refine v_if_eq K 49 dX8_addsWord_42 (by decide) (fun c42 => ?_) (fun c42 => ?_)
        · refine v_iconst K (0) dX8_addsWord_49 (by decide) ?_
          refine v_istore K dX8_addsWord_50 (by decide) ?_
          refine v_iinc K dX8_addsWord_52 rfl (by decide) iinc_1 ?_
          refine v_goto K 13 dX8_addsWord_55 (by decide) ?_
          exact v_j (ih hlt _ (nI_1 k)) (by rw [hasWk_s, ← Bool.or_assoc, bI_0 c26, bI_0 c42] <;> rfl) rfl rfl
        · refine v_iconst K (1) dX8_addsWord_45 (by decide) ?_
          refine v_goto K 50 dX8_addsWord_46 (by decide) ?_
          refine v_istore K dX8_addsWord_50 (by decide) ?_
          refine v_iinc K dX8_addsWord_52 rfl (by decide) iinc_1 ?_
          refine v_goto K 13 dX8_addsWord_55 (by decide) ?_
          exact v_j (ih hlt _ (nI_1 k)) (by rw [hasWk_s, ← Bool.or_assoc, bI_0 c26, bI_1 c42] <;> rfl) rfl rfl
  exact v_j (lp 0 (Nat.zero_le _) 0 rfl) (by rw [show hasWk Z.1 xs 0 = false from rfl, Bool.or_false] <;> rfl) rfl rfl

theorem hd_X8_setsSign : yX8_setsSign.cls = RX8 ∧ yX8_setsSign.cls ≠ "java/lang/invoke/MethodHandle" ∧ yX8_setsSign.cls ≠ "java/lang/invoke/VarHandle" ∧ (parseMethodDescriptor yX8_setsSign.desc).map (fun d => d.parameters.length) = some 3 := by decide +kernel
set_option maxHeartbeats 4000000 in
set_option maxRecDepth 100000 in
theorem c_X8_setsSign (cI cB : ClassId) (m : Nat → Nat) (hl it sz sl ut ol sp tw tm mm rl : Int32) (f : Nat → Int32) (ts : List Int32) (s F : Nat) (xs : List Int32) (hs : s < 26) (hx : 1 ≤ xs.length ∧ xs.length ≤ 2) (hp : pcT ts F xs) : Ct cI cB yX8_setsSign wsX8_setsSign { frames := 0, cells := 0, slots := 0, locals := 0 } [.ref (m 0), .int (nI s), .int (nI F), .int (nI xs.length)] [moM m hl it sz sl ut ol (nI ts.length) sp tw tm mm rl, arF cI (m 1) 570 f, arL cI (m 12) 60 ts] (dn [moM m hl it sz sl ut ol (nI ts.length) sp tw tm mm rl, arF cI (m 1) 570 (adGF f s xs), arL cI (m 12) 60 ts]) := by
  refine ct_of (cc := cX8_setsSign) (maxL := 5) (ret := none) (by decide) rfl (Nat.le_of_ble_eq_true rfl) [(0, .ref (m 0)), (1, .int (nI s)), (2, .int (nI F)), (3, .int (nI xs.length))] rfl ?_
  intro X hI hB K E
  subst hI
  subst hB
  have iX8 : ∀ w ∈ u_ws RX8 TX8 28, w ∈ wsX8_setsSign := by decide +kernel
  have hpl := hp.1
  have hx2 := hx.2
  refine v_arlen 2 rfl (fun hX => ?_)
  refine v_aload_n K dX8_setsSign_0 rfl ?_
  refine v_get K 0 rfl hasF_c rfl iX8 0 (by decide) rfl (by decide +kernel) rfl dX8_setsSign_1 ?_
  refine v_sipush K (212) dX8_setsSign_4 (by decide) ?_
  refine v_iconst K (3) dX8_setsSign_7 (by decide) ?_
  refine v_iload_n K dX8_setsSign_8 rfl ?_
  refine v_imul K dX8_setsSign_9 ?_
  rw [show (3 : Int32) * nI s = nI (3 * s) from pk_mul 3 s]
  refine v_iadd K dX8_setsSign_10 ?_
  rw [show (212 : Int32) + nI (3 * s) = nI (212 + 3 * s) from nI_add 212 _]
  refine v_iload_n K dX8_setsSign_11 rfl ?_
  refine v_fast K 1 rfl ((212 + 3 * s)) ?hx12_1 ?ix12_1 dX8_setsSign_12 ?_
  case hx12_1 => exact rfl
  case ix12_1 => exact ⟨by omega, by decide⟩
  refine v_iconst K (0) dX8_setsSign_13 (by decide) ?_
  refine v_istore K dX8_setsSign_14 (by decide) ?_
  have lw : ∀ k, k ≤ xs.length → ∀ (x : Int32), x = nI k → V X 0 0 16 [(0, .ref (m 0)), (1, .int (nI s)), (2, .int (nI F)), (3, .int (nI xs.length)), (4, .int x)] [] [moM m hl it sz sl ut ol (nI ts.length) sp tw tm mm rl, arF (XI X) (m 1) 570 (wrL (upd f (212 + 3 * s) (nI xs.length)) ((212 + 3 * s) + 1) xs k), arL (XI X) (m 12) 60 ts] := by
    refine loop_up xs.length ?_
    intro k hk ih x hx
    subst hx
    refine v_iload K dX8_setsSign_16 rfl ?_
    refine v_iload_n K dX8_setsSign_18 rfl ?_
    refine v_ic_ge K 54 dX8_setsSign_19 (by decide) (fun c19 => ?_) (fun c19 => ?_)
    · refine v_ret K E dX8_setsSign_54 ?_ rfl
      have he := up_end rfl (by omega) hk c19
      exact ⟨rfl, by rw [he] <;> rfl⟩
    · have hlt := up_lt rfl (by omega) hk c19
      refine v_aload_n K dX8_setsSign_22 rfl ?_
      refine v_get K 0 rfl hasF_c rfl iX8 0 (by decide) rfl (by decide +kernel) rfl dX8_setsSign_23 ?_
      refine v_sipush K (212) dX8_setsSign_26 (by decide) ?_
      refine v_iconst K (3) dX8_setsSign_29 (by decide) ?_
      refine v_iload_n K dX8_setsSign_30 rfl ?_
      refine v_imul K dX8_setsSign_31 ?_
      rw [show (3 : Int32) * nI s = nI (3 * s) from pk_mul 3 s]
      refine v_iadd K dX8_setsSign_32 ?_
      rw [show (212 : Int32) + nI (3 * s) = nI (212 + 3 * s) from nI_add 212 _]
      refine v_iconst K (1) dX8_setsSign_33 (by decide) ?_
      refine v_iadd K dX8_setsSign_34 ?_
      refine v_iload K dX8_setsSign_35 rfl ?_
      refine v_iadd K dX8_setsSign_37 ?_
      refine v_aload_n K dX8_setsSign_38 rfl ?_
      refine v_get K 0 rfl hasF_c rfl iX8 17 (by decide) rfl (by decide +kernel) rfl dX8_setsSign_39 ?_
      refine v_iload_n K dX8_setsSign_42 rfl ?_
      refine v_iload K dX8_setsSign_43 rfl ?_
      refine v_iadd K dX8_setsSign_45 ?_
      refine v_lald K 2 rfl (F + k) ?hx46_2 ?ix46_2 dX8_setsSign_46 ?_
      case hx46_2 => exact nI_add _ _
      case ix46_2 => omega
      rw [hp.2 k hlt]
      refine v_fast K 1 rfl ((212 + 3 * s) + 1 + k) ?hx47_3 ?ix47_3 dX8_setsSign_47 ?_
      case hx47_3 => rw [nI_1, nI_add]
      case ix47_3 => exact ⟨by omega, by decide⟩
      refine v_iinc K dX8_setsSign_48 rfl (by decide) iinc_1 ?_
      refine v_goto K 16 dX8_setsSign_51 (by decide) ?_
      exact v_j (ih hlt _ (nI_1 k)) rfl rfl (by rw [wrL_s] <;> rfl)
  exact v_j (lw 0 (Nat.zero_le _) 0 rfl) rfl rfl (by rw [wrL_0] <;> rfl)
