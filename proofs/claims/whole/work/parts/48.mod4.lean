abbrev rlS (L : List (List Int32)) (C : List Int32) : Prop := rl 20 26 L C
theorem kxl {k : Int32} {us rs : List Int32} (hu : us.length = 30) : (kx k us (incL us rs)).length = 30 := by
  unfold kx
  split
  · exact hu
  · rw [incL_len]; exact hu
theorem hd_X8_areSame : yX8_areSame.cls = RX8 ∧ yX8_areSame.cls ≠ "java/lang/invoke/MethodHandle" ∧ yX8_areSame.cls ≠ "java/lang/invoke/VarHandle" ∧ (parseMethodDescriptor yX8_areSame.desc).map (fun d => d.parameters.length) = some 2 := by decide +kernel
set_option maxHeartbeats 4000000 in
set_option maxRecDepth 100000 in
theorem c_X8_areSame (cI cB : ClassId) (m : Nat → Nat) (hl it sz sl ut ol tl sp tw tm mm rl : Int32) (C : List Int32) (L : List (List Int32)) (I J : Nat) (hC : rlS L C) (hI : I < L.length) (hJ : J < L.length) : Ct cI cB yX8_areSame wsX8_areSame { frames := 0, cells := 0, slots := 0, locals := 0 } [.ref (m 0), .int (nI I), .int (nI J)] [moM m hl it sz sl ut ol tl sp tw tm mm rl, arL cI (m 10) 520 C, arL cI (m 11) 20 (lens L)] (dv (bI (decide (L.getD I [] = L.getD J []))) [moM m hl it sz sl ut ol tl sp tw tm mm rl, arL cI (m 10) 520 C, arL cI (m 11) 20 (lens L)]) := by
  refine ct_of (cc := cX8_areSame) (maxL := 5) (ret := (some .boolean)) (by decide) rfl (Nat.le_of_ble_eq_true rfl) [(0, .ref (m 0)), (1, .int (nI I)), (2, .int (nI J))] rfl ?_
  intro X hI hB K E
  subst hI
  subst hB
  have iX8 : ∀ w ∈ u_ws RX8 TX8 28, w ∈ wsX8_areSame := by decide +kernel
  have hI2 : I < 20 := by have := hC.2.2.1; omega
  have hJ2 : J < 20 := by have := hC.2.2.1; omega
  have hlI := rl_len hC (k := I)
  have hlJ := rl_len hC (k := J)
  have lp : ∀ k, k ≤ (L.getD I []).length → ∀ (x : Int32) (b : Bool), x = nI k → b = decide ((L.getD I []).length = (L.getD J []).length ∧ ∀ j, j < k → (L.getD I []).getD j (-5) = (L.getD J []).getD j (-5)) → V X 0 0 24 [(0, .ref (m 0)), (1, .int (nI I)), (2, .int (nI J)), (3, .int (bI b)), (4, .int x)] [] [moM m hl it sz sl ut ol tl sp tw tm mm rl, arL (XI X) (m 10) 520 C, arL (XI X) (m 11) 20 (lens L)] := by
    refine loop_up (L.getD I []).length ?_
    intro k hk ih x b hx hb
    subst hx
    refine v_iload K dX8_areSame_24 rfl ?_
    refine v_aload_n K dX8_areSame_26 rfl ?_
    refine v_get K 0 rfl hasF_c rfl iX8 16 (by decide) rfl (by decide +kernel) rfl dX8_areSame_27 ?_
    refine v_iload_n K dX8_areSame_30 rfl ?_
    refine v_lald K 2 rfl (I) ?hx31_1 ?ix31_1 dX8_areSame_31 ?_
    case hx31_1 => exact rfl
    case ix31_1 => rw [lens_len]; exact hI
    rw [lens_gd hI]
    refine v_ic_ge K 78 dX8_areSame_32 (by decide) (fun c32 => ?_) (fun c32 => ?_)
    · refine v_iload_n K dX8_areSame_78 rfl ?_
      refine v_zret K E dX8_areSame_79 (by first | exact Or.inl rfl | exact Or.inr rfl | exact bI_01 _) ?_ rfl
      exact ⟨by rw [hb] <;> (have he := up_end rfl (by omega) hk c32; subst he; first | rfl | skip) <;> exact congrArg (fun b => some (Value.int (bI b))) (decide_eq_decide.mpr ⟨fun h => of_decide_eq_true (same_t h.1 h.2), fun h => by rw [h]; exact ⟨rfl, fun _ _ => rfl⟩⟩), rfl⟩
    · have hlt := up_lt rfl (by omega) hk c32
      refine v_iload_n K dX8_areSame_35 rfl ?_
      refine v_if_eq K 78 dX8_areSame_36 (by decide) (fun c36 => ?_) (fun c36 => ?_)
      · refine v_iload_n K dX8_areSame_78 rfl ?_
        refine v_zret K E dX8_areSame_79 (by first | exact Or.inl rfl | exact Or.inr rfl | exact bI_01 _) ?_ rfl
        have hf : decide (L.getD I [] = L.getD J []) = false := decide_eq_false (fun z => by rw [bI_0 c36] at hb; exact of_decide_eq_false hb.symm (by rw [z]; exact ⟨rfl, fun _ _ => rfl⟩))
        exact ⟨by rw [hf, bI_0 c36], rfl⟩
      · have hbt := bI_1 c36
        rw [hbt] at hb
        have hall := of_decide_eq_true hb.symm
        refine v_aload_n K dX8_areSame_39 rfl ?_
        refine v_get K 0 rfl hasF_c rfl iX8 15 (by decide) rfl (by decide +kernel) rfl dX8_areSame_40 ?_
        refine v_bipush K (26) dX8_areSame_43 (by decide) ?_
        refine v_iload_n K dX8_areSame_45 rfl ?_
        refine v_imul K dX8_areSame_46 ?_
        refine v_iload K dX8_areSame_47 rfl ?_
        refine v_iadd K dX8_areSame_49 ?_
        refine v_lald K 1 rfl (I * 26 + k) ?hx50_2 ?ix50_2 dX8_areSame_50 ?_
        case hx50_2 => exact ix26
        case ix50_2 => exact (rl_at5 hC hI hlt).1
        rw [(rl_at5 hC hI hlt).2]
        refine v_aload_n K dX8_areSame_51 rfl ?_
        refine v_get K 0 rfl hasF_c rfl iX8 15 (by decide) rfl (by decide +kernel) rfl dX8_areSame_52 ?_
        refine v_bipush K (26) dX8_areSame_55 (by decide) ?_
        refine v_iload_n K dX8_areSame_57 rfl ?_
        refine v_imul K dX8_areSame_58 ?_
        refine v_iload K dX8_areSame_59 rfl ?_
        refine v_iadd K dX8_areSame_61 ?_
        refine v_lald K 1 rfl (J * 26 + k) ?hx62_3 ?ix62_3 dX8_areSame_62 ?_
        case hx62_3 => exact ix26
        case ix62_3 => exact (rl_at5 hC hJ (by omega)).1
        rw [(rl_at5 hC hJ (by omega)).2]
        refine v_ic_ne K 70 dX8_areSame_63 (by decide) (fun c63 => ?_) (fun c63 => ?_)
        · refine v_iconst K (0) dX8_areSame_70 (by decide) ?_
          refine v_istore_n K dX8_areSame_71 (by decide) ?_
          refine v_iinc K dX8_areSame_72 rfl (by decide) iinc_1 ?_
          refine v_goto K 24 dX8_areSame_75 (by decide) ?_
          exact v_j (ih hlt _ false (nI_1 k) (by rw [decide_eq_false (fun z => c63 (z.2 k (by omega)))])) rfl rfl rfl
        · refine v_iconst K (1) dX8_areSame_66 (by decide) ?_
          refine v_goto K 71 dX8_areSame_67 (by decide) ?_
          refine v_istore_n K dX8_areSame_71 (by decide) ?_
          refine v_iinc K dX8_areSame_72 rfl (by decide) iinc_1 ?_
          refine v_goto K 24 dX8_areSame_75 (by decide) ?_
          exact v_j (ih hlt _ true (nI_1 k) (by rw [decide_eq_true ⟨hall.1, fun j hj => (Nat.lt_or_ge j k).elim (hall.2 j) (fun h => by rw [show j = k by omega]; exact c63)⟩])) rfl rfl rfl
  refine v_aload_n K dX8_areSame_0 rfl ?_
  refine v_get K 0 rfl hasF_c rfl iX8 16 (by decide) rfl (by decide +kernel) rfl dX8_areSame_1 ?_
  refine v_iload_n K dX8_areSame_4 rfl ?_
  refine v_lald K 2 rfl (I) ?hx5_4 ?ix5_4 dX8_areSame_5 ?_
  case hx5_4 => exact rfl
  case ix5_4 => rw [lens_len]; exact hI
  rw [lens_gd hI]
  refine v_aload_n K dX8_areSame_6 rfl ?_
  refine v_get K 0 rfl hasF_c rfl iX8 16 (by decide) rfl (by decide +kernel) rfl dX8_areSame_7 ?_
  refine v_iload_n K dX8_areSame_10 rfl ?_
  refine v_lald K 2 rfl (J) ?hx11_5 ?ix11_5 dX8_areSame_11 ?_
  case hx11_5 => exact rfl
  case ix11_5 => rw [lens_len]; exact hJ
  rw [lens_gd hJ]
  refine v_ic_ne K 19 dX8_areSame_12 (by decide) (fun c12 => ?_) (fun c12 => ?_)
  · refine v_iconst K (0) dX8_areSame_19 (by decide) ?_
    refine v_istore_n K dX8_areSame_20 (by decide) ?_
    refine v_iconst K (0) dX8_areSame_21 (by decide) ?_
    refine v_istore K dX8_areSame_22 (by decide) ?_
    exact v_j (lp 0 (Nat.zero_le _) 0 false rfl (by rw [decide_eq_false (fun z => c12 (by rw [z.1]))])) rfl rfl rfl
  · refine v_iconst K (1) dX8_areSame_15 (by decide) ?_
    refine v_goto K 20 dX8_areSame_16 (by decide) ?_
    refine v_istore_n K dX8_areSame_20 (by decide) ?_
    refine v_iconst K (0) dX8_areSame_21 (by decide) ?_
    refine v_istore K dX8_areSame_22 (by decide) ?_
    exact v_j (lp 0 (Nat.zero_le _) 0 true rfl (by rw [decide_eq_true ⟨(nI_eq (by omega) (by omega)).mp c12, fun j hj => absurd hj (Nat.not_lt_zero j)⟩])) rfl rfl rfl

theorem hd_X8_withSpelling : yX8_withSpelling.cls = RX8 ∧ yX8_withSpelling.cls ≠ "java/lang/invoke/MethodHandle" ∧ yX8_withSpelling.cls ≠ "java/lang/invoke/VarHandle" ∧ (parseMethodDescriptor yX8_withSpelling.desc).map (fun d => d.parameters.length) = some 2 := by decide +kernel
set_option maxHeartbeats 4000000 in
set_option maxRecDepth 100000 in
theorem c_X8_withSpelling (cI cB : ClassId) (m : Nat → Nat) (hl it sz sl ut ol tl sp tw tm mm rl : Int32) (S : Bk) (f : Nat → Int32) (C : List Int32) (L : List (List Int32)) (I : Nat) (b : Bool) (hA : allR S f) (hC : rlS L C) (hI : I < L.length) (hL : L.length = S.2.2.2.2.1.length) : Ct cI cB yX8_withSpelling wsX8_withSpelling { frames := 1, cells := 0, slots := 0, locals := 24 } [.ref (m 0), .int (nI I), .int (bI b)] [moM m hl it sz sl ut ol tl sp tw tm mm rl, arF cI (m 1) 570 f, arL cI (m 10) 520 C, arL cI (m 11) 20 (lens L)] (dv (nI (cntR (sameP L I) (if b = true then I else S.2.2.2.2.1.length))) [moM m hl it sz sl ut ol tl sp tw tm mm rl, arF cI (m 1) 570 f, arL cI (m 10) 520 C, arL cI (m 11) 20 (lens L)]) := by
  refine ct_of (cc := cX8_withSpelling) (maxL := 5) (ret := (some .int)) (by decide) rfl (Nat.le_of_ble_eq_true rfl) [(0, .ref (m 0)), (1, .int (nI I)), (2, .int (bI b))] rfl ?_
  intro X hI hB K E
  subst hI
  subst hB
  have iX8 : ∀ w ∈ u_ws RX8 TX8 28, w ∈ wsX8_withSpelling := by decide +kernel
  have hn20 := hC.2.2.1
  have hww := hA.1.2.2.2.2.1
  cases b with
  | false =>
    have lp : ∀ k, k ≤ S.2.2.2.2.1.length → ∀ x : Int32, x = nI k → V X 0 0 5 [(0, .ref (m 0)), (1, .int (nI I)), (2, .int (bI false)), (3, .int (nI (cntR (sameP L I) k))), (4, .int x)] [] [moM m hl it sz sl ut ol tl sp tw tm mm rl, arF (XI X) (m 1) 570 f, arL (XI X) (m 10) 520 C, arL (XI X) (m 11) 20 (lens L)] := by
      refine loop_up (S.2.2.2.2.1.length) ?_
      intro k hk ih x hx
      subst hx
      refine v_iload K dX8_withSpelling_5 rfl ?_
      refine v_iload_n K dX8_withSpelling_7 rfl ?_
      refine v_if_eq K 15 dX8_withSpelling_8 (by decide) (fun c8 => ?_) (fun c8 => absurd c8 (fun z => z rfl))
      refine v_aload_n K dX8_withSpelling_15 rfl ?_
      refine v_get K 0 rfl hasF_c rfl iX8 0 (by decide) rfl (by decide +kernel) rfl dX8_withSpelling_16 ?_
      refine v_iconst K (1) dX8_withSpelling_19 (by decide) ?_
      refine v_fald K 1 rfl (1) ?hx20_1 ?ix20_1 dX8_withSpelling_20 ?_
      case hx20_1 => exact rfl
      case ix20_1 => exact ⟨by decide, by decide⟩
      rw [hA.2.2.1]
      refine v_ic_ge K 48 dX8_withSpelling_21 (by decide) (fun c21 => ?_) (fun c21 => ?_)
      · refine v_iload_n K dX8_withSpelling_48 rfl ?_
        refine v_iret K E dX8_withSpelling_49 ?_ rfl
        have he := up_end rfl (by omega) hk c21
        exact ⟨by rw [he] <;> rfl, rfl⟩
      · have hlt := up_lt rfl (by omega) hk c21
        refine v_iload_n K dX8_withSpelling_24 rfl ?_
        refine v_aload_n K dX8_withSpelling_25 rfl ?_
        refine v_iload_n K dX8_withSpelling_26 rfl ?_
        refine v_iload K dX8_withSpelling_27 rfl ?_
        refine v_callVi K [0, 2, 3] (c_X8_areSame (XI X) (XB X) _ _ _ _ _ _ _ _ _ _ _ _ _ _ _ _ _ ?hc29_0_2 ?hc29_1_2 ?hc29_2_2) rfl gX8_withSpelling_X8_areSame rfl rfl hd_X8_areSame ⟨rfl, rfl⟩ ⟨by decide, by decide⟩ 0 rfl hasF_c rfl (by decide) (Nat.le_of_ble_eq_true rfl) ⟨Nat.zero_le _, Nat.zero_le _⟩ rfl dX8_withSpelling_29 ?_
        case hc29_0_2 => exact hC
        case hc29_1_2 => exact hI
        case hc29_2_2 => omega
        refine v_if_eq K 39 dX8_withSpelling_32 (by decide) (fun c32 => ?_) (fun c32 => ?_)
        · refine v_iconst K (0) dX8_withSpelling_39 (by decide) ?_
          refine v_iadd K dX8_withSpelling_40 ?_
          refine v_istore_n K dX8_withSpelling_41 (by decide) ?_
          refine v_iinc K dX8_withSpelling_42 rfl (by decide) iinc_1 ?_
          refine v_goto K 5 dX8_withSpelling_45 (by decide) ?_
          exact v_j (ih hlt _ (nI_1 k)) (by rw [c_f (show sameP L I k = false from bI_0 c32)] <;> rfl) rfl rfl
        · refine v_iconst K (1) dX8_withSpelling_35 (by decide) ?_
          refine v_goto K 40 dX8_withSpelling_36 (by decide) ?_
          refine v_iadd K dX8_withSpelling_40 ?_
          refine v_istore_n K dX8_withSpelling_41 (by decide) ?_
          refine v_iinc K dX8_withSpelling_42 rfl (by decide) iinc_1 ?_
          refine v_goto K 5 dX8_withSpelling_45 (by decide) ?_
          exact v_j (ih hlt _ (nI_1 k)) (by rw [c_t (show sameP L I k = true from bI_1 c32)] <;> rfl) rfl rfl
    refine v_iconst K (0) dX8_withSpelling_0 (by decide) ?_
    refine v_istore_n K dX8_withSpelling_1 (by decide) ?_
    refine v_iconst K (0) dX8_withSpelling_2 (by decide) ?_
    refine v_istore K dX8_withSpelling_3 (by decide) ?_
    exact v_j (lp 0 (Nat.zero_le _) 0 rfl) rfl rfl rfl
  | true =>
    have lp : ∀ k, k ≤ I → ∀ x : Int32, x = nI k → V X 0 0 5 [(0, .ref (m 0)), (1, .int (nI I)), (2, .int (bI true)), (3, .int (nI (cntR (sameP L I) k))), (4, .int x)] [] [moM m hl it sz sl ut ol tl sp tw tm mm rl, arF (XI X) (m 1) 570 f, arL (XI X) (m 10) 520 C, arL (XI X) (m 11) 20 (lens L)] := by
      refine loop_up (I) ?_
      intro k hk ih x hx
      subst hx
      refine v_iload K dX8_withSpelling_5 rfl ?_
      refine v_iload_n K dX8_withSpelling_7 rfl ?_
      refine v_if_eq K 15 dX8_withSpelling_8 (by decide) (fun c8 => False.elim (absurd c8 (by decide))) (fun c8 => ?_)
      refine v_iload_n K dX8_withSpelling_11 rfl ?_
      refine v_goto K 21 dX8_withSpelling_12 (by decide) ?_
      refine v_ic_ge K 48 dX8_withSpelling_21 (by decide) (fun c21 => ?_) (fun c21 => ?_)
      · refine v_iload_n K dX8_withSpelling_48 rfl ?_
        refine v_iret K E dX8_withSpelling_49 ?_ rfl
        have he := up_end rfl (by omega) hk c21
        exact ⟨by rw [he] <;> rfl, rfl⟩
      · have hlt := up_lt rfl (by omega) hk c21
        refine v_iload_n K dX8_withSpelling_24 rfl ?_
        refine v_aload_n K dX8_withSpelling_25 rfl ?_
        refine v_iload_n K dX8_withSpelling_26 rfl ?_
        refine v_iload K dX8_withSpelling_27 rfl ?_
        refine v_callVi K [0, 2, 3] (c_X8_areSame (XI X) (XB X) _ _ _ _ _ _ _ _ _ _ _ _ _ _ _ _ _ ?hc29_0_3 ?hc29_1_3 ?hc29_2_3) rfl gX8_withSpelling_X8_areSame rfl rfl hd_X8_areSame ⟨rfl, rfl⟩ ⟨by decide, by decide⟩ 0 rfl hasF_c rfl (by decide) (Nat.le_of_ble_eq_true rfl) ⟨Nat.zero_le _, Nat.zero_le _⟩ rfl dX8_withSpelling_29 ?_
        case hc29_0_3 => exact hC
        case hc29_1_3 => exact hI
        case hc29_2_3 => omega
        refine v_if_eq K 39 dX8_withSpelling_32 (by decide) (fun c32 => ?_) (fun c32 => ?_)
        · refine v_iconst K (0) dX8_withSpelling_39 (by decide) ?_
          refine v_iadd K dX8_withSpelling_40 ?_
          refine v_istore_n K dX8_withSpelling_41 (by decide) ?_
          refine v_iinc K dX8_withSpelling_42 rfl (by decide) iinc_1 ?_
          refine v_goto K 5 dX8_withSpelling_45 (by decide) ?_
          exact v_j (ih hlt _ (nI_1 k)) (by rw [c_f (show sameP L I k = false from bI_0 c32)] <;> rfl) rfl rfl
        · refine v_iconst K (1) dX8_withSpelling_35 (by decide) ?_
          refine v_goto K 40 dX8_withSpelling_36 (by decide) ?_
          refine v_iadd K dX8_withSpelling_40 ?_
          refine v_istore_n K dX8_withSpelling_41 (by decide) ?_
          refine v_iinc K dX8_withSpelling_42 rfl (by decide) iinc_1 ?_
          refine v_goto K 5 dX8_withSpelling_45 (by decide) ?_
          exact v_j (ih hlt _ (nI_1 k)) (by rw [c_t (show sameP L I k = true from bI_1 c32)] <;> rfl) rfl rfl
    refine v_iconst K (0) dX8_withSpelling_0 (by decide) ?_
    refine v_istore_n K dX8_withSpelling_1 (by decide) ?_
    refine v_iconst K (0) dX8_withSpelling_2 (by decide) ?_
    refine v_istore K dX8_withSpelling_3 (by decide) ?_
    exact v_j (lp 0 (Nat.zero_le _) 0 rfl) rfl rfl rfl

theorem hd_X8_spells : yX8_spells.cls = RX8 ∧ yX8_spells.cls ≠ "java/lang/invoke/MethodHandle" ∧ yX8_spells.cls ≠ "java/lang/invoke/VarHandle" ∧ (parseMethodDescriptor yX8_spells.desc).map (fun d => d.parameters.length) = some 0 := by decide +kernel
set_option maxHeartbeats 4000000 in
set_option maxRecDepth 100000 in
theorem c_X8_spells (cI cB : ClassId) (m : Nat → Nat) (hl it sz sl ut ol tl sp tw tm mm rl : Int32) (S : Bk) (f : Nat → Int32) (xs rf sd us os C N : List Int32) (hA : allR S f) (hu : us.length = 30) (hC : C.length = 520) : Ct cI cB yX8_spells wsX8_spells { frames := 5, cells := 0, slots := 0, locals := 117 } [.ref (m 0)] [moM m hl it sz sl ut ol tl sp tw tm mm rl, arF cI (m 1) 570 f, arL cI (m 5) 12 xs, arL cI (m 6) 12 rf, arL cI (m 7) 12 sd, arL cI (m 8) 30 us, arL cI (m 9) 26 os, arL cI (m 10) 520 C, arL cI (m 11) 20 N] (fun ov M => ov = none ∧ ∃ (sz sl ut ol : Int32) (xs rf sd us os C : List Int32), us.length = 30 ∧ rlS (spL S) C ∧ M = [moM m hl it sz sl ut ol tl sp tw tm mm rl, arF cI (m 1) 570 f, arL cI (m 5) 12 xs, arL cI (m 6) 12 rf, arL cI (m 7) 12 sd, arL cI (m 8) 30 us, arL cI (m 9) 26 os, arL cI (m 10) 520 C, arL cI (m 11) 20 (lens (spL S))]) := by
  refine ct_of (cc := cX8_spells) (maxL := 3) (ret := none) (by decide) rfl (Nat.le_of_ble_eq_true rfl) [(0, .ref (m 0))] rfl ?_
  intro X hI hB K E
  subst hI
  subst hB
  have iX8 : ∀ w ∈ u_ws RX8 TX8 28, w ∈ wsX8_spells := by decide +kernel
  have h20 := hA.1.2.2.2.2.1
  have lpi : ∀ (k : Nat) (zs C N : List Int32) (sz sl ut : Int32) (xs rf sd us : List Int32), k < 20 → zs.length ≤ 26 → C.length = 520 → (∀ C' y, prl 20 26 k zs.length zs C C' → V X 0 0 73 [(0, .ref (m 0)), (1, .int (nI k)), (2, .int y)] [] [moM m hl it sz sl ut (nI zs.length) tl sp tw tm mm rl, arF (XI X) (m 1) 570 f, arL (XI X) (m 5) 12 xs, arL (XI X) (m 6) 12 rf, arL (XI X) (m 7) 12 sd, arL (XI X) (m 8) 30 us, arL (XI X) (m 9) 26 zs, arL (XI X) (m 10) 520 C', arL (XI X) (m 11) 20 N]) → ∀ j, j ≤ zs.length → ∀ y : Int32, y = nI j → ∀ C', prl 20 26 k j zs C C' → V X 0 0 42 [(0, .ref (m 0)), (1, .int (nI k)), (2, .int y)] [] [moM m hl it sz sl ut (nI zs.length) tl sp tw tm mm rl, arF (XI X) (m 1) 570 f, arL (XI X) (m 5) 12 xs, arL (XI X) (m 6) 12 rf, arL (XI X) (m 7) 12 sd, arL (XI X) (m 8) 30 us, arL (XI X) (m 9) 26 zs, arL (XI X) (m 10) 520 C', arL (XI X) (m 11) 20 N] := by
    intro k zs C N sz sl ut xs rf sd us hk20 hsp hC hk0
    refine loop_up zs.length ?_
    intro j hj ih y hy C' hp
    subst hy
    refine v_iload_n K dX8_spells_42 rfl ?_
    refine v_aload_n K dX8_spells_43 rfl ?_
    refine v_get K 0 rfl hasF_c rfl iX8 14 (by decide) rfl (by decide +kernel) rfl dX8_spells_44 ?_
    refine v_ic_ge K 73 dX8_spells_47 (by decide) (fun c47 => ?_) (fun c47 => ?_)
    · have he := up_end rfl (by omega) hj c47
      exact v_j (hk0 C' _ (by rw [he] at hp; exact hp)) rfl rfl rfl
    · have hlt := up_lt rfl (by omega) hj c47
      refine v_aload_n K dX8_spells_50 rfl ?_
      refine v_get K 0 rfl hasF_c rfl iX8 15 (by decide) rfl (by decide +kernel) rfl dX8_spells_51 ?_
      refine v_bipush K (26) dX8_spells_54 (by decide) ?_
      refine v_iload_n K dX8_spells_56 rfl ?_
      refine v_imul K dX8_spells_57 ?_
      refine v_iload_n K dX8_spells_58 rfl ?_
      refine v_iadd K dX8_spells_59 ?_
      refine v_aload_n K dX8_spells_60 rfl ?_
      refine v_get K 0 rfl hasF_c rfl iX8 13 (by decide) rfl (by decide +kernel) rfl dX8_spells_61 ?_
      refine v_iload_n K dX8_spells_64 rfl ?_
      refine v_lald K 6 rfl (j) ?hx65_1 ?ix65_1 dX8_spells_65 ?_
      case hx65_1 => exact rfl
      case ix65_1 => exact hlt
      refine v_lset K 7 rfl (k * 26 + j) ?hx66_2 ?ix66_2 dX8_spells_66 ?_
      case hx66_2 => exact ix26
      case ix66_2 => rw [hp.1]; omega
      try dsimp only [Nat.reduceAdd, nf_rep1, nf_rep0, nf_d0, nf_t0, nf_s0, nf_ac, nf_an, nf_d1, nf_t1, nf_s1, nf_d2, nf_t2, nf_s2, nf_d3, nf_t3, nf_s3, nf_d4, nf_t4, nf_s4, nf_d5, nf_t5, nf_s5, nf_d6, nf_t6, nf_s6, nf_d7, nf_t7, nf_s7, nf_d8, nf_t8, nf_s8, nf_d9, nf_t9, nf_s9, nf_d10, nf_t10, nf_s10, nf_d11, nf_t11, nf_s11, nf_d12, nf_t12, nf_s12, nf_d13, nf_t13, nf_s13, nf_d14, nf_t14, nf_s14, nf_d15, nf_t15, nf_s15, nf_d16, nf_t16, nf_s16, nf_d17, nf_t17, nf_s17, nf_d18, nf_t18, nf_s18, nf_d19, nf_t19, nf_s19, nf_d20, nf_t20, nf_s20]
      refine v_iinc K dX8_spells_67 rfl (by decide) iinc_1 ?_
      refine v_goto K 42 dX8_spells_70 (by decide) ?_
      exact v_j (ih hlt _ (nI_1 j) _ (prl_step hp hlt (by omega))) rfl rfl rfl
  have lp : ∀ k, k ≤ S.2.2.2.2.1.length → ∀ (x : Int32), x = nI k → ∀ (sz sl ut ol : Int32) (xs rf sd us os C : List Int32), us.length = 30 → rlS (spG S k) C → V X 0 0 2 [(0, .ref (m 0)), (1, .int x)] [] [moM m hl it sz sl ut ol tl sp tw tm mm rl, arF (XI X) (m 1) 570 f, arL (XI X) (m 5) 12 xs, arL (XI X) (m 6) 12 rf, arL (XI X) (m 7) 12 sd, arL (XI X) (m 8) 30 us, arL (XI X) (m 9) 26 os, arL (XI X) (m 10) 520 C, arL (XI X) (m 11) 20 (lens (spG S k))] := by
    refine loop_up S.2.2.2.2.1.length ?_
    intro k hk ih x hx sz sl ut ol xs rf sd us os C hu hC
    subst hx
    refine v_iload_n K dX8_spells_2 rfl ?_
    refine v_aload_n K dX8_spells_3 rfl ?_
    refine v_get K 0 rfl hasF_c rfl iX8 0 (by decide) rfl (by decide +kernel) rfl dX8_spells_4 ?_
    refine v_iconst K (1) dX8_spells_7 (by decide) ?_
    refine v_fald K 1 rfl (1) ?hx8_3 ?ix8_3 dX8_spells_8 ?_
    case hx8_3 => exact rfl
    case ix8_3 => exact ⟨by decide, by decide⟩
    rw [hA.2.2.1]
    refine v_ic_ge K 79 dX8_spells_9 (by decide) (fun c9 => ?_) (fun c9 => ?_)
    · refine v_ret K E dX8_spells_79 ?_ rfl
      have he := up_end rfl (by omega) hk c9
      exact ⟨rfl, _, _, _, _, _, _, _, _, _, _, hu, by rw [he] at hC; exact hC, by rw [he] <;> rfl⟩
    · have hlt := up_lt rfl (by omega) hk c9
      have hAw := hA.2.2.2.2.2 k hlt
      have hww := hA.1.2.2.2.2.2.2.2.2 k hlt
      have hsp := spW_len (kd := S.2.2.2.2.2.getD k (-5)) hA.1 hww.2.2.1 ⟨hww.1, hww.2.1⟩
      refine v_aload_n K dX8_spells_12 rfl ?_
      refine v_iload_n K dX8_spells_13 rfl ?_
      refine v_callVv K [0, 1, 2] (c_X8_lays (XI X) (XB X) _ _ _ _ _ _ _ _ _ _ _ _ _ S _ _ _ ?hc14_0_4 ?hc14_1_4) rfl gX8_spells_X8_lays rfl rfl hd_X8_lays ⟨rfl, rfl⟩ ⟨by decide, by decide⟩ 0 rfl hasF_c rfl (by decide) (Nat.le_of_ble_eq_true rfl) ⟨Nat.zero_le _, Nat.zero_le _⟩ rfl dX8_spells_14 ?_
      case hc14_0_4 => exact hA
      case hc14_1_4 => exact hlt
      try dsimp only [Nat.reduceAdd, nf_rep1, nf_rep0, nf_d0, nf_t0, nf_s0, nf_ac, nf_an, nf_d1, nf_t1, nf_s1, nf_d2, nf_t2, nf_s2, nf_d3, nf_t3, nf_s3, nf_d4, nf_t4, nf_s4, nf_d5, nf_t5, nf_s5, nf_d6, nf_t6, nf_s6, nf_d7, nf_t7, nf_s7, nf_d8, nf_t8, nf_s8, nf_d9, nf_t9, nf_s9, nf_d10, nf_t10, nf_s10, nf_d11, nf_t11, nf_s11, nf_d12, nf_t12, nf_s12, nf_d13, nf_t13, nf_s13, nf_d14, nf_t14, nf_s14, nf_d15, nf_t15, nf_s15, nf_d16, nf_t16, nf_s16, nf_d17, nf_t17, nf_s17, nf_d18, nf_t18, nf_s18, nf_d19, nf_t19, nf_s19, nf_d20, nf_t20, nf_s20]
      refine v_aload_n K dX8_spells_17 rfl ?_
      refine v_aload_n K dX8_spells_18 rfl ?_
      refine v_get K 0 rfl hasF_c rfl iX8 0 (by decide) rfl (by decide +kernel) rfl dX8_spells_19 ?_
      refine v_iload_n K dX8_spells_22 rfl ?_
      refine v_callSi K [] (c_X8_wordAt (XI X) (XB X) _ ) rfl gX8_spells_X8_wordAt rfl rfl hd_X8_wordAt ⟨rfl, rfl⟩ ⟨by decide, by decide⟩ (by decide) (Nat.le_of_ble_eq_true rfl) ⟨Nat.zero_le _, Nat.zero_le _⟩ rfl dX8_spells_23 ?_
      try dsimp only [Nat.reduceAdd, nf_rep1, nf_rep0, nf_d0, nf_t0, nf_s0, nf_ac, nf_an, nf_d1, nf_t1, nf_s1, nf_d2, nf_t2, nf_s2, nf_d3, nf_t3, nf_s3, nf_d4, nf_t4, nf_s4, nf_d5, nf_t5, nf_s5, nf_d6, nf_t6, nf_s6, nf_d7, nf_t7, nf_s7, nf_d8, nf_t8, nf_s8, nf_d9, nf_t9, nf_s9, nf_d10, nf_t10, nf_s10, nf_d11, nf_t11, nf_s11, nf_d12, nf_t12, nf_s12, nf_d13, nf_t13, nf_s13, nf_d14, nf_t14, nf_s14, nf_d15, nf_t15, nf_s15, nf_d16, nf_t16, nf_s16, nf_d17, nf_t17, nf_s17, nf_d18, nf_t18, nf_s18, nf_d19, nf_t19, nf_s19, nf_d20, nf_t20, nf_s20]
      refine v_fald K 1 rfl (290 + 14 * k) ?hx26_6 ?ix26_6 dX8_spells_26 ?_
      case hx26_6 => exact rfl
      case ix26_6 => exact ⟨by omega, by decide⟩
      rw [hAw.1]
      refine v_callVv K [0, 1, 2, 3, 4, 5, 6] (c_X8_writesAs (XI X) (XB X) _ _ _ _ _ _ _ _ _ _ _ _ S _ _ _ _ _ _ _ ?hc27_0_7 ?hc27_1_7 ?hc27_2_7) rfl gX8_spells_X8_writesAs rfl rfl hd_X8_writesAs ⟨rfl, rfl⟩ ⟨by decide, by decide⟩ 0 rfl hasF_c rfl (by decide) (Nat.le_of_ble_eq_true rfl) ⟨Nat.zero_le _, Nat.zero_le _⟩ rfl dX8_spells_27 ?_
      case hc27_0_7 => exact hA
      case hc27_1_7 => exact hww.2.2.1
      case hc27_2_7 => exact hu
      try dsimp only [Nat.reduceAdd, nf_rep1, nf_rep0, nf_d0, nf_t0, nf_s0, nf_ac, nf_an, nf_d1, nf_t1, nf_s1, nf_d2, nf_t2, nf_s2, nf_d3, nf_t3, nf_s3, nf_d4, nf_t4, nf_s4, nf_d5, nf_t5, nf_s5, nf_d6, nf_t6, nf_s6, nf_d7, nf_t7, nf_s7, nf_d8, nf_t8, nf_s8, nf_d9, nf_t9, nf_s9, nf_d10, nf_t10, nf_s10, nf_d11, nf_t11, nf_s11, nf_d12, nf_t12, nf_s12, nf_d13, nf_t13, nf_s13, nf_d14, nf_t14, nf_s14, nf_d15, nf_t15, nf_s15, nf_d16, nf_t16, nf_s16, nf_d17, nf_t17, nf_s17, nf_d18, nf_t18, nf_s18, nf_d19, nf_t19, nf_s19, nf_d20, nf_t20, nf_s20]
      refine v_aload_n K dX8_spells_30 rfl ?_
      refine v_get K 0 rfl hasF_c rfl iX8 16 (by decide) rfl (by decide +kernel) rfl dX8_spells_31 ?_
      refine v_iload_n K dX8_spells_34 rfl ?_
      refine v_aload_n K dX8_spells_35 rfl ?_
      refine v_get K 0 rfl hasF_c rfl iX8 14 (by decide) rfl (by decide +kernel) rfl dX8_spells_36 ?_
      refine v_last K 8 rfl ?hx39_8 ?ix39_8 dX8_spells_39 ?_
      case hx39_8 => rw [lens_len, spG_len]
      case ix39_8 => rw [lens_len, spG_len]; omega
      try dsimp only [Nat.reduceAdd, nf_rep1, nf_rep0, nf_d0, nf_t0, nf_s0, nf_ac, nf_an, nf_d1, nf_t1, nf_s1, nf_d2, nf_t2, nf_s2, nf_d3, nf_t3, nf_s3, nf_d4, nf_t4, nf_s4, nf_d5, nf_t5, nf_s5, nf_d6, nf_t6, nf_s6, nf_d7, nf_t7, nf_s7, nf_d8, nf_t8, nf_s8, nf_d9, nf_t9, nf_s9, nf_d10, nf_t10, nf_s10, nf_d11, nf_t11, nf_s11, nf_d12, nf_t12, nf_s12, nf_d13, nf_t13, nf_s13, nf_d14, nf_t14, nf_s14, nf_d15, nf_t15, nf_s15, nf_d16, nf_t16, nf_s16, nf_d17, nf_t17, nf_s17, nf_d18, nf_t18, nf_s18, nf_d19, nf_t19, nf_s19, nf_d20, nf_t20, nf_s20]
      refine v_iconst K (0) dX8_spells_40 (by decide) ?_
      refine v_istore_n K dX8_spells_41 (by decide) ?_
      refine v_j (lpi k (spW S (nthW S k) (S.2.2.2.2.2.getD k (-5))) C _ _ _ _ _ _ _ _ (by omega) (by omega) hC.2.1 (fun C' y hp => ?_) 0 (Nat.zero_le _) 0 rfl C (prl_0 hC.2.1)) rfl rfl rfl
      refine v_iinc K dX8_spells_73 rfl (by decide) iinc_1 ?_
      refine v_goto K 2 dX8_spells_76 (by decide) ?_
      exact v_j (ih hlt _ (nI_1 k) _ _ _ _ _ _ _ _ _ _ (kxl hu) (by rw [spG_add]; exact sp_end hC spG_len (by omega) (by omega) hp)) rfl rfl (by rw [spG_add, ← lens_addn] <;> rfl)
  refine v_ltk 8 0 rfl ?_
  rw [List.take_zero]
  try dsimp only [Nat.reduceAdd, nf_rep1, nf_rep0, nf_d0, nf_t0, nf_s0, nf_ac, nf_an, nf_d1, nf_t1, nf_s1, nf_d2, nf_t2, nf_s2, nf_d3, nf_t3, nf_s3, nf_d4, nf_t4, nf_s4, nf_d5, nf_t5, nf_s5, nf_d6, nf_t6, nf_s6, nf_d7, nf_t7, nf_s7, nf_d8, nf_t8, nf_s8, nf_d9, nf_t9, nf_s9, nf_d10, nf_t10, nf_s10, nf_d11, nf_t11, nf_s11, nf_d12, nf_t12, nf_s12, nf_d13, nf_t13, nf_s13, nf_d14, nf_t14, nf_s14, nf_d15, nf_t15, nf_s15, nf_d16, nf_t16, nf_s16, nf_d17, nf_t17, nf_s17, nf_d18, nf_t18, nf_s18, nf_d19, nf_t19, nf_s19, nf_d20, nf_t20, nf_s20]
  refine v_iconst K (0) dX8_spells_0 (by decide) ?_
  refine v_istore_n K dX8_spells_1 (by decide) ?_
  exact v_j (lp 0 (Nat.zero_le _) 0 rfl _ _ _ _ _ _ _ _ _ _ hu ⟨⟨by decide, by decide, by decide⟩, hC, Nat.zero_le _, fun i x h => by rw [show spG S 0 = [] from rfl] at h; simp at h⟩) rfl rfl rfl

theorem hd_X8_colliding : yX8_colliding.cls = RX8 ∧ yX8_colliding.cls ≠ "java/lang/invoke/MethodHandle" ∧ yX8_colliding.cls ≠ "java/lang/invoke/VarHandle" ∧ (parseMethodDescriptor yX8_colliding.desc).map (fun d => d.parameters.length) = some 0 := by decide +kernel
set_option maxHeartbeats 4000000 in
set_option maxRecDepth 100000 in
theorem c_X8_colliding (cI cB : ClassId) (m : Nat → Nat) (hl it sz sl ut ol tl sp tw tm mm rl : Int32) (S : Bk) (f : Nat → Int32) (xs rf sd us os C N : List Int32) (hA : allR S f) (hu : us.length = 30) (hC : C.length = 520) : Ct cI cB yX8_colliding wsX8_colliding { frames := 6, cells := 0, slots := 0, locals := 139 } [.ref (m 0)] [moM m hl it sz sl ut ol tl sp tw tm mm rl, arF cI (m 1) 570 f, arL cI (m 5) 12 xs, arL cI (m 6) 12 rf, arL cI (m 7) 12 sd, arL cI (m 8) 30 us, arL cI (m 9) 26 os, arL cI (m 10) 520 C, arL cI (m 11) 20 N] (fun ov M => ov = some (.int (nI (colM S))) ∧ ∃ (sz sl ut ol : Int32) (xs rf sd us os C : List Int32), us.length = 30 ∧ rlS (spL S) C ∧ M = [moM m hl it sz sl ut ol tl sp tw tm mm rl, arF cI (m 1) 570 f, arL cI (m 5) 12 xs, arL cI (m 6) 12 rf, arL cI (m 7) 12 sd, arL cI (m 8) 30 us, arL cI (m 9) 26 os, arL cI (m 10) 520 C, arL cI (m 11) 20 (lens (spL S))]) := by
  refine ct_of (cc := cX8_colliding) (maxL := 3) (ret := (some .int)) (by decide) rfl (Nat.le_of_ble_eq_true rfl) [(0, .ref (m 0))] rfl ?_
  intro X hI hB K E
  subst hI
  subst hB
  have iX8 : ∀ w ∈ u_ws RX8 TX8 28, w ∈ wsX8_colliding := by decide +kernel
  have h20 := hA.1.2.2.2.2.1
  refine v_aload_n K dX8_colliding_0 rfl ?_
  refine v_callV K [0, 1, 2, 3, 4, 5, 6, 7, 8] (c_X8_spells (XI X) (XB X) _ _ _ _ _ _ _ _ _ _ _ _ _ S _ _ _ _ _ _ _ _ ?hc1_0_1 ?hc1_1_1 ?hc1_2_1) rfl gX8_colliding_X8_spells rfl rfl hd_X8_spells ⟨rfl, rfl⟩ ⟨by decide, by decide⟩ 0 rfl hasF_c rfl (by decide) (Nat.le_of_ble_eq_true rfl) ⟨Nat.zero_le _, Nat.zero_le _⟩ rfl dX8_colliding_1 ?_
  case hc1_0_1 => exact hA
  case hc1_1_1 => exact hu
  case hc1_2_1 => exact hC
  try dsimp only [Nat.reduceAdd, nf_rep1, nf_rep0, nf_d0, nf_t0, nf_s0, nf_ac, nf_an, nf_d1, nf_t1, nf_s1, nf_d2, nf_t2, nf_s2, nf_d3, nf_t3, nf_s3, nf_d4, nf_t4, nf_s4, nf_d5, nf_t5, nf_s5, nf_d6, nf_t6, nf_s6, nf_d7, nf_t7, nf_s7, nf_d8, nf_t8, nf_s8, nf_d9, nf_t9, nf_s9, nf_d10, nf_t10, nf_s10, nf_d11, nf_t11, nf_s11, nf_d12, nf_t12, nf_s12, nf_d13, nf_t13, nf_s13, nf_d14, nf_t14, nf_s14, nf_d15, nf_t15, nf_s15, nf_d16, nf_t16, nf_s16, nf_d17, nf_t17, nf_s17, nf_d18, nf_t18, nf_s18, nf_d19, nf_t19, nf_s19, nf_d20, nf_t20, nf_s20]
  intro ov Mc1 hpo _
  obtain ⟨rfl, sz, sl, ut, ol, xs, rf, sd, us, os, C, hu, hC, rfl⟩ := hpo
  refine v_iconst K (0) dX8_colliding_4 (by decide) ?_
  refine v_istore_n K dX8_colliding_5 (by decide) ?_
  refine v_iconst K (0) dX8_colliding_6 (by decide) ?_
  refine v_istore_n K dX8_colliding_7 (by decide) ?_
  have lp : ∀ k, k ≤ S.2.2.2.2.1.length → ∀ x : Int32, x = nI k → V X 0 0 8 [(0, .ref (m 0)), (1, .int (nI (cntR (fun w => decide (1 < cntR (sameP (spL S) w) S.2.2.2.2.1.length)) k))), (2, .int x)] [] [moM m hl it sz sl ut ol tl sp tw tm mm rl, arF (XI X) (m 1) 570 f, arL (XI X) (m 5) 12 xs, arL (XI X) (m 6) 12 rf, arL (XI X) (m 7) 12 sd, arL (XI X) (m 8) 30 us, arL (XI X) (m 9) 26 os, arL (XI X) (m 10) 520 C, arL (XI X) (m 11) 20 (lens (spL S))] := by
    refine loop_up (S.2.2.2.2.1.length) ?_
    intro k hk ih x hx
    subst hx
    refine v_iload_n K dX8_colliding_8 rfl ?_
    refine v_aload_n K dX8_colliding_9 rfl ?_
    refine v_get K 0 rfl hasF_c rfl iX8 0 (by decide) rfl (by decide +kernel) rfl dX8_colliding_10 ?_
    refine v_iconst K (1) dX8_colliding_13 (by decide) ?_
    refine v_fald K 1 rfl (1) ?hx14_2 ?ix14_2 dX8_colliding_14 ?_
    case hx14_2 => exact rfl
    case ix14_2 => exact ⟨by decide, by decide⟩
    rw [hA.2.2.1]
    refine v_ic_ge K 42 dX8_colliding_15 (by decide) (fun c15 => ?_) (fun c15 => ?_)
    · refine v_iload_n K dX8_colliding_42 rfl ?_
      refine v_iret K E dX8_colliding_43 ?_ rfl
      have he := up_end rfl (by omega) hk c15
      exact ⟨by rw [he] <;> rfl, _, _, _, _, _, _, _, _, _, _, hu, hC, rfl⟩
    · have hlt := up_lt rfl (by omega) hk c15
      refine v_iload_n K dX8_colliding_18 rfl ?_
      refine v_aload_n K dX8_colliding_19 rfl ?_
      refine v_iload_n K dX8_colliding_20 rfl ?_
      refine v_iconst K (0) dX8_colliding_21 (by decide) ?_
      refine v_callVi K [0, 1, 7, 8] (c_X8_withSpelling (XI X) (XB X) _ _ _ _ _ _ _ _ _ _ _ _ _ S _ _ _ _ false ?hc22_0_3 ?hc22_1_3 ?hc22_2_3 ?hc22_3_3) rfl gX8_colliding_X8_withSpelling rfl rfl hd_X8_withSpelling ⟨rfl, rfl⟩ ⟨by decide, by decide⟩ 0 rfl hasF_c rfl (by decide) (Nat.le_of_ble_eq_true rfl) ⟨Nat.zero_le _, Nat.zero_le _⟩ rfl dX8_colliding_22 ?_
      case hc22_0_3 => exact hA
      case hc22_1_3 => exact hC
      case hc22_2_3 => rw [spL_len]; exact hlt
      case hc22_3_3 => exact spL_len
      try dsimp only [Nat.reduceAdd, nf_rep1, nf_rep0, nf_d0, nf_t0, nf_s0, nf_ac, nf_an, nf_d1, nf_t1, nf_s1, nf_d2, nf_t2, nf_s2, nf_d3, nf_t3, nf_s3, nf_d4, nf_t4, nf_s4, nf_d5, nf_t5, nf_s5, nf_d6, nf_t6, nf_s6, nf_d7, nf_t7, nf_s7, nf_d8, nf_t8, nf_s8, nf_d9, nf_t9, nf_s9, nf_d10, nf_t10, nf_s10, nf_d11, nf_t11, nf_s11, nf_d12, nf_t12, nf_s12, nf_d13, nf_t13, nf_s13, nf_d14, nf_t14, nf_s14, nf_d15, nf_t15, nf_s15, nf_d16, nf_t16, nf_s16, nf_d17, nf_t17, nf_s17, nf_d18, nf_t18, nf_s18, nf_d19, nf_t19, nf_s19, nf_d20, nf_t20, nf_s20]
      have hcl := cntR_le (sameP (spL S) k) S.2.2.2.2.1.length
      rw [if_neg Bool.false_ne_true]
      refine v_iconst K (1) dX8_colliding_25 (by decide) ?_
      refine v_ic_le K 33 dX8_colliding_26 (by decide) (fun c26 => ?_) (fun c26 => ?_)
      · refine v_iconst K (0) dX8_colliding_33 (by decide) ?_
        refine v_iadd K dX8_colliding_34 ?_
        refine v_istore_n K dX8_colliding_35 (by decide) ?_
        refine v_iinc K dX8_colliding_36 rfl (by decide) iinc_1 ?_
        refine v_goto K 8 dX8_colliding_39 (by decide) ?_
        have hp : (fun w => decide (1 < cntR (sameP (spL S) w) S.2.2.2.2.1.length)) k = false := decide_eq_false (fun z => col_le z (by omega) c26)
        exact v_j (ih hlt _ (nI_1 k)) (by rw [c_f hp] <;> rfl) rfl rfl
      · refine v_iconst K (1) dX8_colliding_29 (by decide) ?_
        refine v_goto K 34 dX8_colliding_30 (by decide) ?_
        refine v_iadd K dX8_colliding_34 ?_
        refine v_istore_n K dX8_colliding_35 (by decide) ?_
        refine v_iinc K dX8_colliding_36 rfl (by decide) iinc_1 ?_
        refine v_goto K 8 dX8_colliding_39 (by decide) ?_
        have hp : (fun w => decide (1 < cntR (sameP (spL S) w) S.2.2.2.2.1.length)) k = true := decide_eq_true (col_gt (by omega) c26)
        exact v_j (ih hlt _ (nI_1 k)) (by rw [c_t hp] <;> rfl) rfl rfl
  exact v_j (lp 0 (Nat.zero_le _) 0 rfl) rfl rfl rfl

theorem hd_X8_comeBack : yX8_comeBack.cls = RX8 ∧ yX8_comeBack.cls ≠ "java/lang/invoke/MethodHandle" ∧ yX8_comeBack.cls ≠ "java/lang/invoke/VarHandle" ∧ (parseMethodDescriptor yX8_comeBack.desc).map (fun d => d.parameters.length) = some 0 := by decide +kernel
set_option maxHeartbeats 4000000 in
set_option maxRecDepth 100000 in
theorem c_X8_comeBack (cI cB : ClassId) (m : Nat → Nat) (hl it sz sl ut ol tl sp tw tm mm rl : Int32) (S : Bk) (f : Nat → Int32) (xs rf sd us os C N : List Int32) (hA : allR S f) (hu : us.length = 30) (hC : C.length = 520) : Ct cI cB yX8_comeBack wsX8_comeBack { frames := 6, cells := 0, slots := 0, locals := 139 } [.ref (m 0)] [moM m hl it sz sl ut ol tl sp tw tm mm rl, arF cI (m 1) 570 f, arL cI (m 5) 12 xs, arL cI (m 6) 12 rf, arL cI (m 7) 12 sd, arL cI (m 8) 30 us, arL cI (m 9) 26 os, arL cI (m 10) 520 C, arL cI (m 11) 20 N] (fun ov M => ov = some (.int (nI (cbM S))) ∧ ∃ (sz sl ut ol : Int32) (xs rf sd us os C : List Int32), us.length = 30 ∧ rlS (spL S) C ∧ M = [moM m hl it sz sl ut ol tl sp tw tm mm rl, arF cI (m 1) 570 f, arL cI (m 5) 12 xs, arL cI (m 6) 12 rf, arL cI (m 7) 12 sd, arL cI (m 8) 30 us, arL cI (m 9) 26 os, arL cI (m 10) 520 C, arL cI (m 11) 20 (lens (spL S))]) := by
  refine ct_of (cc := cX8_comeBack) (maxL := 3) (ret := (some .int)) (by decide) rfl (Nat.le_of_ble_eq_true rfl) [(0, .ref (m 0))] rfl ?_
  intro X hI hB K E
  subst hI
  subst hB
  have iX8 : ∀ w ∈ u_ws RX8 TX8 28, w ∈ wsX8_comeBack := by decide +kernel
  have h20 := hA.1.2.2.2.2.1
  refine v_aload_n K dX8_comeBack_0 rfl ?_
  refine v_callV K [0, 1, 2, 3, 4, 5, 6, 7, 8] (c_X8_spells (XI X) (XB X) _ _ _ _ _ _ _ _ _ _ _ _ _ S _ _ _ _ _ _ _ _ ?hc1_0_1 ?hc1_1_1 ?hc1_2_1) rfl gX8_comeBack_X8_spells rfl rfl hd_X8_spells ⟨rfl, rfl⟩ ⟨by decide, by decide⟩ 0 rfl hasF_c rfl (by decide) (Nat.le_of_ble_eq_true rfl) ⟨Nat.zero_le _, Nat.zero_le _⟩ rfl dX8_comeBack_1 ?_
  case hc1_0_1 => exact hA
  case hc1_1_1 => exact hu
  case hc1_2_1 => exact hC
  try dsimp only [Nat.reduceAdd, nf_rep1, nf_rep0, nf_d0, nf_t0, nf_s0, nf_ac, nf_an, nf_d1, nf_t1, nf_s1, nf_d2, nf_t2, nf_s2, nf_d3, nf_t3, nf_s3, nf_d4, nf_t4, nf_s4, nf_d5, nf_t5, nf_s5, nf_d6, nf_t6, nf_s6, nf_d7, nf_t7, nf_s7, nf_d8, nf_t8, nf_s8, nf_d9, nf_t9, nf_s9, nf_d10, nf_t10, nf_s10, nf_d11, nf_t11, nf_s11, nf_d12, nf_t12, nf_s12, nf_d13, nf_t13, nf_s13, nf_d14, nf_t14, nf_s14, nf_d15, nf_t15, nf_s15, nf_d16, nf_t16, nf_s16, nf_d17, nf_t17, nf_s17, nf_d18, nf_t18, nf_s18, nf_d19, nf_t19, nf_s19, nf_d20, nf_t20, nf_s20]
  intro ov Mc1 hpo _
  obtain ⟨rfl, sz, sl, ut, ol, xs, rf, sd, us, os, C, hu, hC, rfl⟩ := hpo
  refine v_iconst K (0) dX8_comeBack_4 (by decide) ?_
  refine v_istore_n K dX8_comeBack_5 (by decide) ?_
  refine v_iconst K (0) dX8_comeBack_6 (by decide) ?_
  refine v_istore_n K dX8_comeBack_7 (by decide) ?_
  have lp : ∀ k, k ≤ S.2.2.2.2.1.length → ∀ x : Int32, x = nI k → V X 0 0 8 [(0, .ref (m 0)), (1, .int (nI (cntR (fun w => decide (cntR (sameP (spL S) w) w = 0)) k))), (2, .int x)] [] [moM m hl it sz sl ut ol tl sp tw tm mm rl, arF (XI X) (m 1) 570 f, arL (XI X) (m 5) 12 xs, arL (XI X) (m 6) 12 rf, arL (XI X) (m 7) 12 sd, arL (XI X) (m 8) 30 us, arL (XI X) (m 9) 26 os, arL (XI X) (m 10) 520 C, arL (XI X) (m 11) 20 (lens (spL S))] := by
    refine loop_up (S.2.2.2.2.1.length) ?_
    intro k hk ih x hx
    subst hx
    refine v_iload_n K dX8_comeBack_8 rfl ?_
    refine v_aload_n K dX8_comeBack_9 rfl ?_
    refine v_get K 0 rfl hasF_c rfl iX8 0 (by decide) rfl (by decide +kernel) rfl dX8_comeBack_10 ?_
    refine v_iconst K (1) dX8_comeBack_13 (by decide) ?_
    refine v_fald K 1 rfl (1) ?hx14_2 ?ix14_2 dX8_comeBack_14 ?_
    case hx14_2 => exact rfl
    case ix14_2 => exact ⟨by decide, by decide⟩
    rw [hA.2.2.1]
    refine v_ic_ge K 41 dX8_comeBack_15 (by decide) (fun c15 => ?_) (fun c15 => ?_)
    · refine v_iload_n K dX8_comeBack_41 rfl ?_
      refine v_iret K E dX8_comeBack_42 ?_ rfl
      have he := up_end rfl (by omega) hk c15
      exact ⟨by rw [he] <;> rfl, _, _, _, _, _, _, _, _, _, _, hu, hC, rfl⟩
    · have hlt := up_lt rfl (by omega) hk c15
      refine v_iload_n K dX8_comeBack_18 rfl ?_
      refine v_aload_n K dX8_comeBack_19 rfl ?_
      refine v_iload_n K dX8_comeBack_20 rfl ?_
      refine v_iconst K (1) dX8_comeBack_21 (by decide) ?_
      refine v_callVi K [0, 1, 7, 8] (c_X8_withSpelling (XI X) (XB X) _ _ _ _ _ _ _ _ _ _ _ _ _ S _ _ _ _ true ?hc22_0_3 ?hc22_1_3 ?hc22_2_3 ?hc22_3_3) rfl gX8_comeBack_X8_withSpelling rfl rfl hd_X8_withSpelling ⟨rfl, rfl⟩ ⟨by decide, by decide⟩ 0 rfl hasF_c rfl (by decide) (Nat.le_of_ble_eq_true rfl) ⟨Nat.zero_le _, Nat.zero_le _⟩ rfl dX8_comeBack_22 ?_
      case hc22_0_3 => exact hA
      case hc22_1_3 => exact hC
      case hc22_2_3 => rw [spL_len]; exact hlt
      case hc22_3_3 => exact spL_len
      try dsimp only [Nat.reduceAdd, nf_rep1, nf_rep0, nf_d0, nf_t0, nf_s0, nf_ac, nf_an, nf_d1, nf_t1, nf_s1, nf_d2, nf_t2, nf_s2, nf_d3, nf_t3, nf_s3, nf_d4, nf_t4, nf_s4, nf_d5, nf_t5, nf_s5, nf_d6, nf_t6, nf_s6, nf_d7, nf_t7, nf_s7, nf_d8, nf_t8, nf_s8, nf_d9, nf_t9, nf_s9, nf_d10, nf_t10, nf_s10, nf_d11, nf_t11, nf_s11, nf_d12, nf_t12, nf_s12, nf_d13, nf_t13, nf_s13, nf_d14, nf_t14, nf_s14, nf_d15, nf_t15, nf_s15, nf_d16, nf_t16, nf_s16, nf_d17, nf_t17, nf_s17, nf_d18, nf_t18, nf_s18, nf_d19, nf_t19, nf_s19, nf_d20, nf_t20, nf_s20]
      have hcl := cntR_le (sameP (spL S) k) k
      rw [if_pos rfl]
      refine v_if_ne K 32 dX8_comeBack_25 (by decide) (fun c25 => ?_) (fun c25 => ?_)
      · refine v_iconst K (0) dX8_comeBack_32 (by decide) ?_
        refine v_iadd K dX8_comeBack_33 ?_
        refine v_istore_n K dX8_comeBack_34 (by decide) ?_
        refine v_iinc K dX8_comeBack_35 rfl (by decide) iinc_1 ?_
        refine v_goto K 8 dX8_comeBack_38 (by decide) ?_
        have hp : (fun w => decide (cntR (sameP (spL S) w) w = 0)) k = false := decide_eq_false (fun z => c25 (by rw [z] <;> rfl))
        exact v_j (ih hlt _ (nI_1 k)) (by rw [c_f hp] <;> rfl) rfl rfl
      · refine v_iconst K (1) dX8_comeBack_28 (by decide) ?_
        refine v_goto K 33 dX8_comeBack_29 (by decide) ?_
        refine v_iadd K dX8_comeBack_33 ?_
        refine v_istore_n K dX8_comeBack_34 (by decide) ?_
        refine v_iinc K dX8_comeBack_35 rfl (by decide) iinc_1 ?_
        refine v_goto K 8 dX8_comeBack_38 (by decide) ?_
        have hp : (fun w => decide (cntR (sameP (spL S) w) w = 0)) k = true := decide_eq_true (nI_z (by omega) c25)
        exact v_j (ih hlt _ (nI_1 k)) (by rw [c_t hp] <;> rfl) rfl rfl
  exact v_j (lp 0 (Nat.zero_le _) 0 rfl) rfl rfl rfl

theorem hd_X8_spellingsOfAll : yX8_spellingsOfAll.cls = RX8 ∧ yX8_spellingsOfAll.cls ≠ "java/lang/invoke/MethodHandle" ∧ yX8_spellingsOfAll.cls ≠ "java/lang/invoke/VarHandle" ∧ (parseMethodDescriptor yX8_spellingsOfAll.desc).map (fun d => d.parameters.length) = some 0 := by decide +kernel
set_option maxHeartbeats 4000000 in
set_option maxRecDepth 100000 in
theorem c_X8_spellingsOfAll (cI cB : ClassId) (m : Nat → Nat) (hl it sz sl ut ol tl sp tw tm mm rl : Int32) (S : Bk) (f : Nat → Int32) (xs rf sd us os C N : List Int32) (hA : allR S f) (hu : us.length = 30) (hC : C.length = 520) : Ct cI cB yX8_spellingsOfAll wsX8_spellingsOfAll { frames := 6, cells := 0, slots := 0, locals := 139 } [.ref (m 0)] [moM m hl it sz sl ut ol tl sp tw tm mm rl, arF cI (m 1) 570 f, arL cI (m 5) 12 xs, arL cI (m 6) 12 rf, arL cI (m 7) 12 sd, arL cI (m 8) 30 us, arL cI (m 9) 26 os, arL cI (m 10) 520 C, arL cI (m 11) 20 N] (fun ov M => ov = some (.int (nI (sumR (fun w => ((spL S).getD w []).length) S.2.2.2.2.1.length))) ∧ ∃ (sz sl ut ol : Int32) (xs rf sd us os C : List Int32), us.length = 30 ∧ rlS (spL S) C ∧ M = [moM m hl it sz sl ut ol tl sp tw tm mm rl, arF cI (m 1) 570 f, arL cI (m 5) 12 xs, arL cI (m 6) 12 rf, arL cI (m 7) 12 sd, arL cI (m 8) 30 us, arL cI (m 9) 26 os, arL cI (m 10) 520 C, arL cI (m 11) 20 (lens (spL S))]) := by
  refine ct_of (cc := cX8_spellingsOfAll) (maxL := 3) (ret := (some .int)) (by decide) rfl (Nat.le_of_ble_eq_true rfl) [(0, .ref (m 0))] rfl ?_
  intro X hI hB K E
  subst hI
  subst hB
  have iX8 : ∀ w ∈ u_ws RX8 TX8 28, w ∈ wsX8_spellingsOfAll := by decide +kernel
  have h20 := hA.1.2.2.2.2.1
  refine v_aload_n K dX8_spellingsOfAll_0 rfl ?_
  refine v_callV K [0, 1, 2, 3, 4, 5, 6, 7, 8] (c_X8_spells (XI X) (XB X) _ _ _ _ _ _ _ _ _ _ _ _ _ S _ _ _ _ _ _ _ _ ?hc1_0_1 ?hc1_1_1 ?hc1_2_1) rfl gX8_spellingsOfAll_X8_spells rfl rfl hd_X8_spells ⟨rfl, rfl⟩ ⟨by decide, by decide⟩ 0 rfl hasF_c rfl (by decide) (Nat.le_of_ble_eq_true rfl) ⟨Nat.zero_le _, Nat.zero_le _⟩ rfl dX8_spellingsOfAll_1 ?_
  case hc1_0_1 => exact hA
  case hc1_1_1 => exact hu
  case hc1_2_1 => exact hC
  try dsimp only [Nat.reduceAdd, nf_rep1, nf_rep0, nf_d0, nf_t0, nf_s0, nf_ac, nf_an, nf_d1, nf_t1, nf_s1, nf_d2, nf_t2, nf_s2, nf_d3, nf_t3, nf_s3, nf_d4, nf_t4, nf_s4, nf_d5, nf_t5, nf_s5, nf_d6, nf_t6, nf_s6, nf_d7, nf_t7, nf_s7, nf_d8, nf_t8, nf_s8, nf_d9, nf_t9, nf_s9, nf_d10, nf_t10, nf_s10, nf_d11, nf_t11, nf_s11, nf_d12, nf_t12, nf_s12, nf_d13, nf_t13, nf_s13, nf_d14, nf_t14, nf_s14, nf_d15, nf_t15, nf_s15, nf_d16, nf_t16, nf_s16, nf_d17, nf_t17, nf_s17, nf_d18, nf_t18, nf_s18, nf_d19, nf_t19, nf_s19, nf_d20, nf_t20, nf_s20]
  intro ov Mc1 hpo _
  obtain ⟨rfl, sz, sl, ut, ol, xs, rf, sd, us, os, C, hu, hC, rfl⟩ := hpo
  refine v_iconst K (0) dX8_spellingsOfAll_4 (by decide) ?_
  refine v_istore_n K dX8_spellingsOfAll_5 (by decide) ?_
  refine v_iconst K (0) dX8_spellingsOfAll_6 (by decide) ?_
  refine v_istore_n K dX8_spellingsOfAll_7 (by decide) ?_
  have lp : ∀ k, k ≤ S.2.2.2.2.1.length → ∀ x : Int32, x = nI k → V X 0 0 8 [(0, .ref (m 0)), (1, .int (nI (sumR (fun w => ((spL S).getD w []).length) k))), (2, .int x)] [] [moM m hl it sz sl ut ol tl sp tw tm mm rl, arF (XI X) (m 1) 570 f, arL (XI X) (m 5) 12 xs, arL (XI X) (m 6) 12 rf, arL (XI X) (m 7) 12 sd, arL (XI X) (m 8) 30 us, arL (XI X) (m 9) 26 os, arL (XI X) (m 10) 520 C, arL (XI X) (m 11) 20 (lens (spL S))] := by
    refine loop_up (S.2.2.2.2.1.length) ?_
    intro k hk ih x hx
    subst hx
    refine v_iload_n K dX8_spellingsOfAll_8 rfl ?_
    refine v_aload_n K dX8_spellingsOfAll_9 rfl ?_
    refine v_get K 0 rfl hasF_c rfl iX8 0 (by decide) rfl (by decide +kernel) rfl dX8_spellingsOfAll_10 ?_
    refine v_iconst K (1) dX8_spellingsOfAll_13 (by decide) ?_
    refine v_fald K 1 rfl (1) ?hx14_2 ?ix14_2 dX8_spellingsOfAll_14 ?_
    case hx14_2 => exact rfl
    case ix14_2 => exact ⟨by decide, by decide⟩
    rw [hA.2.2.1]
    refine v_ic_ge K 33 dX8_spellingsOfAll_15 (by decide) (fun c15 => ?_) (fun c15 => ?_)
    · refine v_iload_n K dX8_spellingsOfAll_33 rfl ?_
      refine v_iret K E dX8_spellingsOfAll_34 ?_ rfl
      have he := up_end rfl (by omega) hk c15
      exact ⟨by rw [he] <;> rfl, _, _, _, _, _, _, _, _, _, _, hu, hC, rfl⟩
    · have hlt := up_lt rfl (by omega) hk c15
      refine v_iload_n K dX8_spellingsOfAll_18 rfl ?_
      refine v_aload_n K dX8_spellingsOfAll_19 rfl ?_
      refine v_get K 0 rfl hasF_c rfl iX8 16 (by decide) rfl (by decide +kernel) rfl dX8_spellingsOfAll_20 ?_
      refine v_iload_n K dX8_spellingsOfAll_23 rfl ?_
      refine v_lald K 8 rfl (k) ?hx24_3 ?ix24_3 dX8_spellingsOfAll_24 ?_
      case hx24_3 => exact rfl
      case ix24_3 => rw [lens_len, spL_len]; exact hlt
      rw [lens_gd (by rw [spL_len]; exact hlt)]
      refine v_iadd K dX8_spellingsOfAll_25 ?_
      refine v_istore_n K dX8_spellingsOfAll_26 (by decide) ?_
      refine v_iinc K dX8_spellingsOfAll_27 rfl (by decide) iinc_1 ?_
      refine v_goto K 8 dX8_spellingsOfAll_30 (by decide) ?_
      exact v_j (ih hlt _ (nI_1 k)) (by rw [← s_a] <;> rfl) rfl rfl
  exact v_j (lp 0 (Nat.zero_le _) 0 rfl) rfl rfl rfl

theorem hd_X8_neverUsed : yX8_neverUsed.cls = RX8 ∧ yX8_neverUsed.cls ≠ "java/lang/invoke/MethodHandle" ∧ yX8_neverUsed.cls ≠ "java/lang/invoke/VarHandle" ∧ (parseMethodDescriptor yX8_neverUsed.desc).map (fun d => d.parameters.length) = some 0 := by decide +kernel
set_option maxHeartbeats 4000000 in
set_option maxRecDepth 100000 in
theorem c_X8_neverUsed (cI cB : ClassId) (m : Nat → Nat) (hl it sz sl ut ol tl sp tw tm mm rl : Int32) (S : Bk) (f : Nat → Int32) (xs rf sd us : List Int32) (hA : allR S f) : Ct cI cB yX8_neverUsed wsX8_neverUsed { frames := 5, cells := 0, slots := 0, locals := 114 } [.ref (m 0)] [moM m hl it sz sl ut ol tl sp tw tm mm rl, arF cI (m 1) 570 f, arL cI (m 5) 12 xs, arL cI (m 6) 12 rf, arL cI (m 7) 12 sd, arL cI (m 8) 30 us] (fun ov M => ov = some (.int (nI (unM S))) ∧ ∃ (sz sl ut : Int32) (xs rf sd : List Int32), M = [moM m hl it sz sl ut ol tl sp tw tm mm rl, arF cI (m 1) 570 f, arL cI (m 5) 12 xs, arL cI (m 6) 12 rf, arL cI (m 7) 12 sd, arL cI (m 8) 30 (usS S S.2.2.2.2.1.length)]) := by
  refine ct_of (cc := cX8_neverUsed) (maxL := 3) (ret := (some .int)) (by decide) rfl (Nat.le_of_ble_eq_true rfl) [(0, .ref (m 0))] rfl ?_
  intro X hI hB K E
  subst hI
  subst hB
  have iX8 : ∀ w ∈ u_ws RX8 TX8 28, w ∈ wsX8_neverUsed := by decide +kernel
  have h30 := hA.1.1
  refine v_aload_n K dX8_neverUsed_0 rfl ?_
  refine v_callV K [0, 1, 2, 3, 4, 5] (c_X8_uses (XI X) (XB X) _ _ _ _ _ _ _ _ _ _ _ _ _ S _ _ _ _ _ ?hc1_0_1) rfl gX8_neverUsed_X8_uses rfl rfl hd_X8_uses ⟨rfl, rfl⟩ ⟨by decide, by decide⟩ 0 rfl hasF_c rfl (by decide) (Nat.le_of_ble_eq_true rfl) ⟨Nat.zero_le _, Nat.zero_le _⟩ rfl dX8_neverUsed_1 ?_
  case hc1_0_1 => exact hA
  try dsimp only [Nat.reduceAdd, nf_rep1, nf_rep0, nf_d0, nf_t0, nf_s0, nf_ac, nf_an, nf_d1, nf_t1, nf_s1, nf_d2, nf_t2, nf_s2, nf_d3, nf_t3, nf_s3, nf_d4, nf_t4, nf_s4, nf_d5, nf_t5, nf_s5, nf_d6, nf_t6, nf_s6, nf_d7, nf_t7, nf_s7, nf_d8, nf_t8, nf_s8, nf_d9, nf_t9, nf_s9, nf_d10, nf_t10, nf_s10, nf_d11, nf_t11, nf_s11, nf_d12, nf_t12, nf_s12, nf_d13, nf_t13, nf_s13, nf_d14, nf_t14, nf_s14, nf_d15, nf_t15, nf_s15, nf_d16, nf_t16, nf_s16, nf_d17, nf_t17, nf_s17, nf_d18, nf_t18, nf_s18, nf_d19, nf_t19, nf_s19, nf_d20, nf_t20, nf_s20]
  intro ov Mc1 hpo _
  obtain ⟨rfl, sz, sl, ut, xs, rf, sd, rfl⟩ := hpo
  refine v_iconst K (0) dX8_neverUsed_4 (by decide) ?_
  refine v_istore_n K dX8_neverUsed_5 (by decide) ?_
  refine v_iconst K (0) dX8_neverUsed_6 (by decide) ?_
  refine v_istore_n K dX8_neverUsed_7 (by decide) ?_
  have lp : ∀ k, k ≤ S.1.length → ∀ x : Int32, x = nI k → V X 0 0 8 [(0, .ref (m 0)), (1, .int (nI (cntR (fun r => decide ((usS S S.2.2.2.2.1.length).getD r (-5) = 0)) k))), (2, .int x)] [] [moM m hl it sz sl ut ol tl sp tw tm mm rl, arF (XI X) (m 1) 570 f, arL (XI X) (m 5) 12 xs, arL (XI X) (m 6) 12 rf, arL (XI X) (m 7) 12 sd, arL (XI X) (m 8) 30 (usS S S.2.2.2.2.1.length)] := by
    refine loop_up S.1.length ?_
    intro k hk ih x hx
    subst hx
    refine v_iload_n K dX8_neverUsed_8 rfl ?_
    refine v_aload_n K dX8_neverUsed_9 rfl ?_
    refine v_get K 0 rfl hasF_c rfl iX8 0 (by decide) rfl (by decide +kernel) rfl dX8_neverUsed_10 ?_
    refine v_iconst K (0) dX8_neverUsed_13 (by decide) ?_
    refine v_fald K 1 rfl (0) ?hx14_2 ?ix14_2 dX8_neverUsed_14 ?_
    case hx14_2 => exact rfl
    case ix14_2 => exact ⟨by decide, by decide⟩
    rw [hA.2.1]
    refine v_ic_ge K 41 dX8_neverUsed_15 (by decide) (fun c15 => ?_) (fun c15 => ?_)
    · refine v_iload_n K dX8_neverUsed_41 rfl ?_
      refine v_iret K E dX8_neverUsed_42 ?_ rfl
      have he := up_end rfl (by omega) hk c15
      exact ⟨by rw [he] <;> rfl, _, _, _, _, _, _, rfl⟩
    · have hlt := up_lt rfl (by omega) hk c15
      refine v_iload_n K dX8_neverUsed_18 rfl ?_
      refine v_aload_n K dX8_neverUsed_19 rfl ?_
      refine v_get K 0 rfl hasF_c rfl iX8 12 (by decide) rfl (by decide +kernel) rfl dX8_neverUsed_20 ?_
      refine v_iload_n K dX8_neverUsed_23 rfl ?_
      refine v_lald K 5 rfl (k) ?hx24_3 ?ix24_3 dX8_neverUsed_24 ?_
      case hx24_3 => exact rfl
      case ix24_3 => rw [usS_len]; omega
      refine v_if_ne K 32 dX8_neverUsed_25 (by decide) (fun c25 => ?_) (fun c25 => ?_)
      · refine v_iconst K (0) dX8_neverUsed_32 (by decide) ?_
        refine v_iadd K dX8_neverUsed_33 ?_
        refine v_istore_n K dX8_neverUsed_34 (by decide) ?_
        refine v_iinc K dX8_neverUsed_35 rfl (by decide) iinc_1 ?_
        refine v_goto K 8 dX8_neverUsed_38 (by decide) ?_
        have hp : (fun r => decide ((usS S S.2.2.2.2.1.length).getD r (-5) = 0)) k = false := decide_eq_false (fun z => c25 z)
        exact v_j (ih hlt _ (nI_1 k)) (by rw [c_f hp] <;> rfl) rfl rfl
      · refine v_iconst K (1) dX8_neverUsed_28 (by decide) ?_
        refine v_goto K 33 dX8_neverUsed_29 (by decide) ?_
        refine v_iadd K dX8_neverUsed_33 ?_
        refine v_istore_n K dX8_neverUsed_34 (by decide) ?_
        refine v_iinc K dX8_neverUsed_35 rfl (by decide) iinc_1 ?_
        refine v_goto K 8 dX8_neverUsed_38 (by decide) ?_
        have hp : (fun r => decide ((usS S S.2.2.2.2.1.length).getD r (-5) = 0)) k = true := decide_eq_true c25
        exact v_j (ih hlt _ (nI_1 k)) (by rw [c_t hp] <;> rfl) rfl rfl
  exact v_j (lp 0 (Nat.zero_le _) 0 rfl) rfl rfl rfl

theorem hd_X8_lettersOfAll : yX8_lettersOfAll.cls = RX8 ∧ yX8_lettersOfAll.cls ≠ "java/lang/invoke/MethodHandle" ∧ yX8_lettersOfAll.cls ≠ "java/lang/invoke/VarHandle" ∧ (parseMethodDescriptor yX8_lettersOfAll.desc).map (fun d => d.parameters.length) = some 0 := by decide +kernel
set_option maxHeartbeats 4000000 in
set_option maxRecDepth 100000 in
theorem c_X8_lettersOfAll (cI cB : ClassId) (m : Nat → Nat) (hl it sz sl ut ol tl sp tw tm mm rl : Int32) (S : Bk) (f : Nat → Int32) (hA : allR S f) : Ct cI cB yX8_lettersOfAll wsX8_lettersOfAll { frames := 1, cells := 0, slots := 0, locals := 20 } [.ref (m 0)] [moM m hl it sz sl ut ol tl sp tw tm mm rl, arF cI (m 1) 570 f] (dv (nI (sumR (fun w => (nthW S w).length) S.2.2.2.2.1.length)) [moM m hl it sz sl ut ol tl sp tw tm mm rl, arF cI (m 1) 570 f]) := by
  refine ct_of (cc := cX8_lettersOfAll) (maxL := 3) (ret := (some .int)) (by decide) rfl (Nat.le_of_ble_eq_true rfl) [(0, .ref (m 0))] rfl ?_
  intro X hI hB K E
  subst hI
  subst hB
  have iX8 : ∀ w ∈ u_ws RX8 TX8 28, w ∈ wsX8_lettersOfAll := by decide +kernel
  have h20 := hA.1.2.2.2.2.1
  have lp : ∀ k, k ≤ S.2.2.2.2.1.length → ∀ x : Int32, x = nI k → V X 0 0 4 [(0, .ref (m 0)), (1, .int (nI (sumR (fun w => (nthW S w).length) k))), (2, .int x)] [] [moM m hl it sz sl ut ol tl sp tw tm mm rl, arF (XI X) (m 1) 570 f] := by
    refine loop_up (S.2.2.2.2.1.length) ?_
    intro k hk ih x hx
    subst hx
    refine v_iload_n K dX8_lettersOfAll_4 rfl ?_
    refine v_aload_n K dX8_lettersOfAll_5 rfl ?_
    refine v_get K 0 rfl hasF_c rfl iX8 0 (by decide) rfl (by decide +kernel) rfl dX8_lettersOfAll_6 ?_
    refine v_iconst K (1) dX8_lettersOfAll_9 (by decide) ?_
    refine v_fald K 1 rfl (1) ?hx10_1 ?ix10_1 dX8_lettersOfAll_10 ?_
    case hx10_1 => exact rfl
    case ix10_1 => exact ⟨by decide, by decide⟩
    rw [hA.2.2.1]
    refine v_ic_ge K 34 dX8_lettersOfAll_11 (by decide) (fun c11 => ?_) (fun c11 => ?_)
    · refine v_iload_n K dX8_lettersOfAll_34 rfl ?_
      refine v_iret K E dX8_lettersOfAll_35 ?_ rfl
      have he := up_end rfl (by omega) hk c11
      exact ⟨by rw [he] <;> rfl, rfl⟩
    · have hlt := up_lt rfl (by omega) hk c11
      refine v_iload_n K dX8_lettersOfAll_14 rfl ?_
      refine v_aload_n K dX8_lettersOfAll_15 rfl ?_
      refine v_get K 0 rfl hasF_c rfl iX8 0 (by decide) rfl (by decide +kernel) rfl dX8_lettersOfAll_16 ?_
      refine v_iload_n K dX8_lettersOfAll_19 rfl ?_
      refine v_callSi K [] (c_X8_wordAt (XI X) (XB X) _ ) rfl gX8_lettersOfAll_X8_wordAt rfl rfl hd_X8_wordAt ⟨rfl, rfl⟩ ⟨by decide, by decide⟩ (by decide) (Nat.le_of_ble_eq_true rfl) ⟨Nat.zero_le _, Nat.zero_le _⟩ rfl dX8_lettersOfAll_20 ?_
      refine v_iconst K (1) dX8_lettersOfAll_23 (by decide) ?_
      refine v_iadd K dX8_lettersOfAll_24 ?_
      refine v_fald K 1 rfl (290 + 14 * k + 1) ?hx25_3 ?ix25_3 dX8_lettersOfAll_25 ?_
      case hx25_3 => exact nI_1 _
      case ix25_3 => exact ⟨by omega, by decide⟩
      rw [(hA.2.2.2.2.2 k hlt).2.1]
      refine v_iadd K dX8_lettersOfAll_26 ?_
      refine v_istore_n K dX8_lettersOfAll_27 (by decide) ?_
      refine v_iinc K dX8_lettersOfAll_28 rfl (by decide) iinc_1 ?_
      refine v_goto K 4 dX8_lettersOfAll_31 (by decide) ?_
      exact v_j (ih hlt _ (nI_1 k)) (by rw [← s_a] <;> rfl) rfl rfl
  refine v_iconst K (0) dX8_lettersOfAll_0 (by decide) ?_
  refine v_istore_n K dX8_lettersOfAll_1 (by decide) ?_
  refine v_iconst K (0) dX8_lettersOfAll_2 (by decide) ?_
  refine v_istore_n K dX8_lettersOfAll_3 (by decide) ?_
  exact v_j (lp 0 (Nat.zero_le _) 0 rfl) rfl rfl rfl

theorem hd_X8_longSigns : yX8_longSigns.cls = RX8 ∧ yX8_longSigns.cls ≠ "java/lang/invoke/MethodHandle" ∧ yX8_longSigns.cls ≠ "java/lang/invoke/VarHandle" ∧ (parseMethodDescriptor yX8_longSigns.desc).map (fun d => d.parameters.length) = some 0 := by decide +kernel
set_option maxHeartbeats 4000000 in
set_option maxRecDepth 100000 in
theorem c_X8_longSigns (cI cB : ClassId) (m : Nat → Nat) (hl it sz sl ut ol tl sp tw tm mm rl : Int32) (S : Bk) (f : Nat → Int32) (hA : allR S f) : Ct cI cB yX8_longSigns wsX8_longSigns { frames := 0, cells := 0, slots := 0, locals := 0 } [.ref (m 0)] [moM m hl it sz sl ut ol tl sp tw tm mm rl, arF cI (m 1) 570 f] (dv (nI (sumR (fun s => (nthS S s).length - 1) 26)) [moM m hl it sz sl ut ol tl sp tw tm mm rl, arF cI (m 1) 570 f]) := by
  refine ct_of (cc := cX8_longSigns) (maxL := 3) (ret := (some .int)) (by decide) rfl (Nat.le_of_ble_eq_true rfl) [(0, .ref (m 0))] rfl ?_
  intro X hI hB K E
  subst hI
  subst hB
  have iX8 : ∀ w ∈ u_ws RX8 TX8 28, w ∈ wsX8_longSigns := by decide +kernel
  have h20 := hA.1.2.2.2.2.1
  have lp : ∀ k, k ≤ 26 → ∀ x : Int32, x = nI k → V X 0 0 4 [(0, .ref (m 0)), (1, .int (nI (sumR (fun s => (nthS S s).length - 1) k))), (2, .int x)] [] [moM m hl it sz sl ut ol tl sp tw tm mm rl, arF (XI X) (m 1) 570 f] := by
    refine loop_up (26) ?_
    intro k hk ih x hx
    subst hx
    refine v_iload_n K dX8_longSigns_4 rfl ?_
    refine v_bipush K (26) dX8_longSigns_5 (by decide) ?_
    refine v_ic_ge K 33 dX8_longSigns_7 (by decide) (fun c7 => ?_) (fun c7 => ?_)
    · refine v_iload_n K dX8_longSigns_33 rfl ?_
      refine v_iret K E dX8_longSigns_34 ?_ rfl
      have he := up_end (N := 26) rfl (by omega) hk c7
      exact ⟨by rw [he] <;> rfl, rfl⟩
    · have hlt := up_lt (N := 26) rfl (by omega) hk c7
      have hs1 := (hA.1.2.2.2.2.2.2.2.1 k hlt).1
      refine v_iload_n K dX8_longSigns_10 rfl ?_
      refine v_aload_n K dX8_longSigns_11 rfl ?_
      refine v_get K 0 rfl hasF_c rfl iX8 0 (by decide) rfl (by decide +kernel) rfl dX8_longSigns_12 ?_
      refine v_sipush K (212) dX8_longSigns_15 (by decide) ?_
      refine v_iconst K (3) dX8_longSigns_18 (by decide) ?_
      refine v_iload_n K dX8_longSigns_19 rfl ?_
      refine v_imul K dX8_longSigns_20 ?_
      refine v_iadd K dX8_longSigns_21 ?_
      refine v_fald K 1 rfl (212 + 3 * k) ?hx22_1 ?ix22_1 dX8_longSigns_22 ?_
      case hx22_1 => rw [show (3 : Int32) * nI k = nI (3 * k) from pk_mul 3 k]; exact nI_add 212 _
      case ix22_1 => exact ⟨by omega, by decide⟩
      rw [(hA.2.2.2.2.1 k hlt).1]
      refine v_iconst K (1) dX8_longSigns_23 (by decide) ?_
      refine v_isub K dX8_longSigns_24 ?_
      rw [sub1 hs1]
      refine v_iadd K dX8_longSigns_25 ?_
      refine v_istore_n K dX8_longSigns_26 (by decide) ?_
      refine v_iinc K dX8_longSigns_27 rfl (by decide) iinc_1 ?_
      refine v_goto K 4 dX8_longSigns_30 (by decide) ?_
      exact v_j (ih hlt _ (nI_1 k)) (by rw [← s_a] <;> rfl) rfl rfl
  refine v_iconst K (0) dX8_longSigns_0 (by decide) ?_
  refine v_istore_n K dX8_longSigns_1 (by decide) ?_
  refine v_iconst K (0) dX8_longSigns_2 (by decide) ?_
  refine v_istore_n K dX8_longSigns_3 (by decide) ?_
  exact v_j (lp 0 (Nat.zero_le _) 0 rfl) rfl rfl rfl
