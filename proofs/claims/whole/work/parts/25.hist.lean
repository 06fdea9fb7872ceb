theorem hd_X1_states : yX1_states.cls = RX1 ∧ yX1_states.cls ≠ "java/lang/invoke/MethodHandle" ∧ yX1_states.cls ≠ "java/lang/invoke/VarHandle" ∧ (parseMethodDescriptor yX1_states.desc).map (fun d => d.parameters.length) = some 0 := by decide +kernel
set_option maxHeartbeats 4000000 in
set_option maxRecDepth 100000 in
theorem c_X1_states (cI cB : ClassId) (h a : Nat) (B : Nat → Nat → Nat) (hs : List Bk)  : Ct cI cB yX1_states wsX1_states { frames := 0, cells := 0, slots := 0, locals := 0 } [.ref h] [hiM cI cB h a B hs] (dv (nI hs.length) [hiM cI cB h a B hs]) := by
  refine ct_of (cc := cX1_states) (maxL := 1) (ret := (some .int)) (by decide) rfl (Nat.le_of_ble_eq_true rfl) [(0, .ref h)] rfl ?_
  intro X hI hB K E
  subst hI
  subst hB
  have iX1 : ∀ w ∈ u_ws RX1 TX1 2, w ∈ wsX1_states := by decide +kernel
  refine v_aload_n K dX1_states_0 rfl ?_
  refine v_get K 0 rfl hiF rfl iX1 1 (by decide) rfl (by decide +kernel) rfl dX1_states_1 ?_
  refine v_iret K E dX1_states_4 ?_ rfl
  exact ⟨rfl, rfl⟩

theorem hd_X1_dropOldest : yX1_dropOldest.cls = RX1 ∧ yX1_dropOldest.cls ≠ "java/lang/invoke/MethodHandle" ∧ yX1_dropOldest.cls ≠ "java/lang/invoke/VarHandle" ∧ (parseMethodDescriptor yX1_dropOldest.desc).map (fun d => d.parameters.length) = some 0 := by decide +kernel
set_option maxHeartbeats 4000000 in
set_option maxRecDepth 100000 in
theorem c_X1_dropOldest (cI cB : ClassId) (h a : Nat) (B : Nat → Nat → Nat) (hs : List Bk)  : Ct cI cB yX1_dropOldest wsX1_dropOldest { frames := 1, cells := 0, slots := 0, locals := 21 } [.ref h] [hiM cI cB h a B hs] (dn [hiM cI cB h a B (hs.drop 1)]) := by
  refine ct_of (cc := cX1_dropOldest) (maxL := 3) (ret := none) (by decide) rfl (Nat.le_of_ble_eq_true rfl) [(0, .ref h)] rfl ?_
  intro X hI hB K E
  subst hI
  subst hB
  have iX1 : ∀ w ∈ u_ws RX1 TX1 2, w ∈ wsX1_dropOldest := by decide +kernel
  refine v_ohi 0 rfl (fun f G hr => ?_)
  try dsimp only [Nat.reduceAdd, nf_rep1, nf_rep0, nf_d0, nf_t0, nf_s0, nf_ac, nf_an, nf_d1, nf_t1, nf_s1, nf_d2, nf_t2, nf_s2, nf_d3, nf_t3, nf_s3, nf_d4, nf_t4, nf_s4, nf_d5, nf_t5, nf_s5, nf_d6, nf_t6, nf_s6, nf_d7, nf_t7, nf_s7, nf_d8, nf_t8, nf_s8, nf_d9, nf_t9, nf_s9, nf_d10, nf_t10, nf_s10, nf_d11, nf_t11, nf_s11, nf_d12, nf_t12, nf_s12, nf_d13, nf_t13, nf_s13, nf_d14, nf_t14, nf_s14, nf_d15, nf_t15, nf_s15, nf_d16, nf_t16, nf_s16, nf_d17, nf_t17, nf_s17, nf_d18, nf_t18, nf_s18, nf_d19, nf_t19, nf_s19, nf_d20, nf_t20, nf_s20]
  obtain ⟨hl, π, h1, h2, h3⟩ := hr
  have hB : ∀ (f2 : Nat → Option Nat) (j : Nat), j < 4 → bookM (XI X) (B j) 30 20 (G j) ∈ ([cM h (.inr (1, [.ref a, .int (nI hs.length)])), cM a (.inl (XB X, 4, .inr (.inr (.inr (.inr f2))))), bookM (XI X) (B 0) 30 20 (G 0), bookM (XI X) (B 1) 30 20 (G 1), bookM (XI X) (B 2) 30 20 (G 2), bookM (XI X) (B 3) 30 20 (G 3)] : List Md) := by
    intro f2 j hj
    obtain rfl | rfl | rfl | rfl : j = 0 ∨ j = 1 ∨ j = 2 ∨ j = 3 := by omega
    all_goals simp
  have lp : ∀ k, k ≤ 3 → ∀ (x : Int32) (f2 : Nat → Option Nat), x = nI k → hrot (fun j => B (π j) 0) k f2 → V X 0 0 2 [(0, .ref h), (1, .int x)] [] [cM h (.inr (1, [.ref a, .int (nI hs.length)])), cM a (.inl (XB X, 4, .inr (.inr (.inr (.inr f2))))), bookM (XI X) (B 0) 30 20 (G 0), bookM (XI X) (B 1) 30 20 (G 1), bookM (XI X) (B 2) 30 20 (G 2), bookM (XI X) (B 3) 30 20 (G 3)] := by
    refine loop_up 3 ?_
    intro k hk ih x f2 hx hro
    subst hx
    refine v_iload_n K dX1_dropOldest_2 rfl ?_
    refine v_iconst K (1) dX1_dropOldest_3 (by decide) ?_
    refine v_iadd K dX1_dropOldest_4 ?_
    rw [nI_1 k]
    refine v_aload_n K dX1_dropOldest_5 rfl ?_
    refine v_get K 0 rfl hasF_c rfl iX1 0 (by decide) rfl (by decide +kernel) rfl dX1_dropOldest_6 ?_
    refine v_alenq K 1 rfl dX1_dropOldest_9 ?_
    refine v_ic_ge K 49 dX1_dropOldest_10 (by decide) (fun c10 => ?_) (fun c10 => ?_)
    · refine v_aload_n K dX1_dropOldest_49 rfl ?_
      refine v_aload_n K dX1_dropOldest_50 rfl ?_
      refine v_get K 0 rfl hasF_c rfl iX1 1 (by decide) rfl (by decide +kernel) rfl dX1_dropOldest_51 ?_
      refine v_iconst K (1) dX1_dropOldest_54 (by decide) ?_
      refine v_isub K dX1_dropOldest_55 ?_
      refine v_iconst K (0) dX1_dropOldest_56 (by decide) ?_
      refine v_mmax K (by decide +kernel) (by decide +kernel) (by decide +kernel) (by decide +kernel) (by decide) (Nat.le_of_ble_eq_true rfl) ⟨Nat.zero_le _, Nat.zero_le _⟩ dX1_dropOldest_57 ?_
      rw [mx1 (by omega)]
      refine v_put K 0 rfl rfl iX1 tyX1 tyX1_ok nmX1 1 (by decide) rfl (by decide +kernel) rfl rfl (Nat.le_of_ble_eq_true rfl) dX1_dropOldest_60 ?_
      try dsimp only [Nat.reduceAdd, nf_rep1, nf_rep0, nf_d0, nf_t0, nf_s0, nf_ac, nf_an, nf_d1, nf_t1, nf_s1, nf_d2, nf_t2, nf_s2, nf_d3, nf_t3, nf_s3, nf_d4, nf_t4, nf_s4, nf_d5, nf_t5, nf_s5, nf_d6, nf_t6, nf_s6, nf_d7, nf_t7, nf_s7, nf_d8, nf_t8, nf_s8, nf_d9, nf_t9, nf_s9, nf_d10, nf_t10, nf_s10, nf_d11, nf_t11, nf_s11, nf_d12, nf_t12, nf_s12, nf_d13, nf_t13, nf_s13, nf_d14, nf_t14, nf_s14, nf_d15, nf_t15, nf_s15, nf_d16, nf_t16, nf_s16, nf_d17, nf_t17, nf_s17, nf_d18, nf_t18, nf_s18, nf_d19, nf_t19, nf_s19, nf_d20, nf_t20, nf_s20]
      have hk3 : k = 3 := by rw [nI_leI (by decide) (by omega)] at c10; omega
      subst hk3
      refine v_chi 0 (hs.drop 1) G rfl (hrel_rot hl h1 h2 h3 hro) (by rw [List.length_drop]) rfl rfl rfl rfl ?_
      refine v_ret K E dX1_dropOldest_63 ?_ rfl
      exact ⟨rfl, rfl⟩
    · have hlt : k < 3 := by rw [nI_leI (by decide) (by omega)] at c10; omega
      refine v_aload_n K dX1_dropOldest_13 rfl ?_
      refine v_get K 0 rfl hasF_c rfl iX1 0 (by decide) rfl (by decide +kernel) rfl dX1_dropOldest_14 ?_
      refine v_iload_n K dX1_dropOldest_17 rfl ?_
      refine v_aald (b := B (π 0) 0) K 1 rfl ?ix18_1 ?ab18_1 dX1_dropOldest_18 ?_
      case ix18_1 => exact vp_in_nI (by omega) (by decide)
      case ab18_1 => rw [nI_clamp (by omega)]; exact hro.2.1
      refine v_astore_n K dX1_dropOldest_19 (by decide) ?_
      refine v_aload_n K dX1_dropOldest_20 rfl ?_
      refine v_get K 0 rfl hasF_c rfl iX1 0 (by decide) rfl (by decide +kernel) rfl dX1_dropOldest_21 ?_
      refine v_iload_n K dX1_dropOldest_24 rfl ?_
      refine v_aload_n K dX1_dropOldest_25 rfl ?_
      refine v_get K 0 rfl hasF_c rfl iX1 0 (by decide) rfl (by decide +kernel) rfl dX1_dropOldest_26 ?_
      refine v_iload_n K dX1_dropOldest_29 rfl ?_
      refine v_iconst K (1) dX1_dropOldest_30 (by decide) ?_
      refine v_iadd K dX1_dropOldest_31 ?_
      rw [nI_1 k]
      refine v_aald (b := B (π (k + 1)) 0) K 1 rfl ?ix32_2 ?ab32_2 dX1_dropOldest_32 ?_
      case ix32_2 => exact vp_in_nI (by omega) (by decide)
      case ab32_2 => rw [nI_clamp (by omega)]; exact hro.2.2 (k + 1) (by omega) (by omega)
      refine v_aast K 1 rfl ?ab33_3 ?ix33_3 dX1_dropOldest_33 ?_
      case ix33_3 => exact vp_in_nI (by omega) (by decide)
      case ab33_3 => exact bk_in (h1 (k + 1) (by omega)).1 (hB _)
      try dsimp only [Nat.reduceAdd, nf_rep1, nf_rep0, nf_d0, nf_t0, nf_s0, nf_ac, nf_an, nf_d1, nf_t1, nf_s1, nf_d2, nf_t2, nf_s2, nf_d3, nf_t3, nf_s3, nf_d4, nf_t4, nf_s4, nf_d5, nf_t5, nf_s5, nf_d6, nf_t6, nf_s6, nf_d7, nf_t7, nf_s7, nf_d8, nf_t8, nf_s8, nf_d9, nf_t9, nf_s9, nf_d10, nf_t10, nf_s10, nf_d11, nf_t11, nf_s11, nf_d12, nf_t12, nf_s12, nf_d13, nf_t13, nf_s13, nf_d14, nf_t14, nf_s14, nf_d15, nf_t15, nf_s15, nf_d16, nf_t16, nf_s16, nf_d17, nf_t17, nf_s17, nf_d18, nf_t18, nf_s18, nf_d19, nf_t19, nf_s19, nf_d20, nf_t20, nf_s20]
      refine v_aload_n K dX1_dropOldest_34 rfl ?_
      refine v_get K 0 rfl hasF_c rfl iX1 0 (by decide) rfl (by decide +kernel) rfl dX1_dropOldest_35 ?_
      refine v_iload_n K dX1_dropOldest_38 rfl ?_
      refine v_iconst K (1) dX1_dropOldest_39 (by decide) ?_
      refine v_iadd K dX1_dropOldest_40 ?_
      rw [nI_1 k]
      refine v_aload_n K dX1_dropOldest_41 rfl ?_
      refine v_aast K 1 rfl ?ab42_4 ?ix42_4 dX1_dropOldest_42 ?_
      case ix42_4 => exact vp_in_nI (by omega) (by decide)
      case ab42_4 => exact bk_in (h1 0 (by omega)).1 (hB _)
      try dsimp only [Nat.reduceAdd, nf_rep1, nf_rep0, nf_d0, nf_t0, nf_s0, nf_ac, nf_an, nf_d1, nf_t1, nf_s1, nf_d2, nf_t2, nf_s2, nf_d3, nf_t3, nf_s3, nf_d4, nf_t4, nf_s4, nf_d5, nf_t5, nf_s5, nf_d6, nf_t6, nf_s6, nf_d7, nf_t7, nf_s7, nf_d8, nf_t8, nf_s8, nf_d9, nf_t9, nf_s9, nf_d10, nf_t10, nf_s10, nf_d11, nf_t11, nf_s11, nf_d12, nf_t12, nf_s12, nf_d13, nf_t13, nf_s13, nf_d14, nf_t14, nf_s14, nf_d15, nf_t15, nf_s15, nf_d16, nf_t16, nf_s16, nf_d17, nf_t17, nf_s17, nf_d18, nf_t18, nf_s18, nf_d19, nf_t19, nf_s19, nf_d20, nf_t20, nf_s20]
      refine v_iinc K dX1_dropOldest_43 rfl (by decide) iinc_1 ?_
      refine v_goto K 2 dX1_dropOldest_46 (by decide) ?_
      exact v_j (ih hlt _ _ (nI_1 k) (hrot_step hro)) rfl rfl (by rw [nI_clamp (by omega), nI_clamp (by omega)] <;> rfl)
  refine v_iconst K (0) dX1_dropOldest_0 (by decide) ?_
  refine v_istore_n K dX1_dropOldest_1 (by decide) ?_
  exact v_j (lp 0 (by decide) 0 f rfl ⟨fun j hj => absurd hj (Nat.not_lt_zero j), (h1 0 (by decide)).2, fun j _ hj => (h1 j hj).2⟩) rfl rfl rfl

theorem hd_X1_record : yX1_record.cls = RX1 ∧ yX1_record.cls ≠ "java/lang/invoke/MethodHandle" ∧ yX1_record.cls ≠ "java/lang/invoke/VarHandle" ∧ (parseMethodDescriptor yX1_record.desc).map (fun d => d.parameters.length) = some 1 := by decide +kernel
set_option maxHeartbeats 4000000 in
set_option maxRecDepth 100000 in
theorem c_X1_record (cI cB : ClassId) (h a : Nat) (B : Nat → Nat → Nat) (hs : List Bk) (A : Nat → Nat) (nr nw : Nat) (S : Bk)  : Ct cI cB yX1_record wsX1_record { frames := 5, cells := 0, slots := 0, locals := 107 } [.ref h, .ref (A 0)] [hiM cI cB h a B hs, bookM cI A nr nw S] (dn [hiM cI cB h a B (rec4 hs (cpB 30 20 S)), bookM cI A nr nw S]) := by
  refine ct_of (cc := cX1_record) (maxL := 2) (ret := none) (by decide) rfl (Nat.le_of_ble_eq_true rfl) [(0, .ref h), (1, .ref (A 0))] rfl ?_
  intro X hI hB K E
  subst hI
  subst hB
  have iX1 : ∀ w ∈ u_ws RX1 TX1 2, w ∈ wsX1_record := by decide +kernel
  refine v_ohi 0 rfl (fun f G hr => ?_)
  try dsimp only [Nat.reduceAdd, nf_rep1, nf_rep0, nf_d0, nf_t0, nf_s0, nf_ac, nf_an, nf_d1, nf_t1, nf_s1, nf_d2, nf_t2, nf_s2, nf_d3, nf_t3, nf_s3, nf_d4, nf_t4, nf_s4, nf_d5, nf_t5, nf_s5, nf_d6, nf_t6, nf_s6, nf_d7, nf_t7, nf_s7, nf_d8, nf_t8, nf_s8, nf_d9, nf_t9, nf_s9, nf_d10, nf_t10, nf_s10, nf_d11, nf_t11, nf_s11, nf_d12, nf_t12, nf_s12, nf_d13, nf_t13, nf_s13, nf_d14, nf_t14, nf_s14, nf_d15, nf_t15, nf_s15, nf_d16, nf_t16, nf_s16, nf_d17, nf_t17, nf_s17, nf_d18, nf_t18, nf_s18, nf_d19, nf_t19, nf_s19, nf_d20, nf_t20, nf_s20]
  have hl0 := hr.1
  refine v_aload_n K dX1_record_0 rfl ?_
  refine v_get K 0 rfl hasF_c rfl iX1 1 (by decide) rfl (by decide +kernel) rfl dX1_record_1 ?_
  refine v_aload_n K dX1_record_4 rfl ?_
  refine v_get K 0 rfl hasF_c rfl iX1 0 (by decide) rfl (by decide +kernel) rfl dX1_record_5 ?_
  refine v_alenq K 1 rfl dX1_record_8 ?_
  refine v_ic_lt K 16 dX1_record_9 (by decide) (fun c9 => ?_) (fun c9 => ?_)
  · obtain ⟨hs2, hH⟩ : ∃ q, q = hs := ⟨_, rfl⟩
    rw [← hH] at hr
    rw [← hH]
    obtain ⟨hl, π, h1, h2, h3⟩ := hr
    have hn4 : hs2.length < 4 := by rw [hH]; rw [nI_ltI (by omega) (by decide)] at c9; exact c9
    have hq := (h1 _ hn4).1
    refine v_aload_n K dX1_record_16 rfl ?_
    refine v_get K 0 rfl hasF_c rfl iX1 1 (by decide) rfl (by decide +kernel) rfl dX1_record_17 ?_
    refine v_if_lt K 70 dX1_record_20 (by decide) (fun c20 => ?_) (fun c20 => ?_)
    · exact absurd c20 (nI_pos (by omega))
    · refine v_aload_n K dX1_record_23 rfl ?_
      refine v_get K 0 rfl hasF_c rfl iX1 1 (by decide) rfl (by decide +kernel) rfl dX1_record_24 ?_
      refine v_aload_n K dX1_record_27 rfl ?_
      refine v_get K 0 rfl hasF_c rfl iX1 0 (by decide) rfl (by decide +kernel) rfl dX1_record_28 ?_
      refine v_alenq K 1 rfl dX1_record_31 ?_
      refine v_ic_ge K 70 dX1_record_32 (by decide) (fun c32 => ?_) (fun c32 => ?_)
      · exact absurd c32 (nI_ge hn4 (by decide))
      · refine v_aload_n K dX1_record_35 rfl ?_
        refine v_get K 0 rfl hasF_c rfl iX1 0 (by decide) rfl (by decide +kernel) rfl dX1_record_36 ?_
        refine v_aload_n K dX1_record_39 rfl ?_
        refine v_get K 0 rfl hasF_c rfl iX1 1 (by decide) rfl (by decide +kernel) rfl dX1_record_40 ?_
        refine v_aald (b := B (π hs2.length) 0) K 1 rfl ?ix43_1 ?ab43_1 dX1_record_43 ?_
        case ix43_1 => exact vp_in_nI hn4 (by decide)
        case ab43_1 => rw [nI_clamp (by omega)]; exact (h1 _ hn4).2
        refine v_ifnull K dX1_record_44 ?_
        refine v_aload_n K dX1_record_47 rfl ?_
        refine v_get K 0 rfl hasF_c rfl iX1 0 (by decide) rfl (by decide +kernel) rfl dX1_record_48 ?_
        refine v_aload_n K dX1_record_51 rfl ?_
        refine v_get K 0 rfl hasF_c rfl iX1 1 (by decide) rfl (by decide +kernel) rfl dX1_record_52 ?_
        refine v_aald (b := B (π hs2.length) 0) K 1 rfl ?ix55_2 ?ab55_2 dX1_record_55 ?_
        case ix55_2 => exact vp_in_nI hn4 (by decide)
        case ab55_2 => rw [nI_clamp (by omega)]; exact (h1 _ hn4).2
        refine v_aload_n K dX1_record_56 rfl ?_
        refine v_callVv K [2 + π hs2.length, 6] (c_X0_copyFrom (XI X) (XB X) (B (π hs2.length)) 30 20 (G (π hs2.length)) A nr nw S) (pk_q hq) gX1_record_X0_copyFrom rfl rfl hd_X0_copyFrom ⟨rfl, rfl⟩ ⟨by decide, by decide⟩ (2 + π hs2.length) (at_q hq) bookF rfl (nd_q hq).1 (Nat.le_of_ble_eq_true rfl) ⟨Nat.zero_le _, Nat.zero_le _⟩ rfl dX1_record_57 ?_
        try dsimp only [Nat.reduceAdd, nf_d1, nf_d0]
        rw [rep_q hq]
        refine v_aload_n K dX1_record_60 rfl ?_
        refine v_dup K dX1_record_61 rfl ?_
        refine v_get K 0 rfl hasF_c rfl iX1 1 (by decide) rfl (by decide +kernel) rfl dX1_record_62 ?_
        refine v_iconst K (1) dX1_record_65 (by decide) ?_
        refine v_iadd K dX1_record_66 ?_
        rw [nI_1]
        refine v_put K 0 rfl rfl iX1 tyX1 tyX1_ok nmX1 1 (by decide) rfl (by decide +kernel) rfl rfl (Nat.le_of_ble_eq_true rfl) dX1_record_67 ?_
        try dsimp only [Nat.reduceAdd, nf_rep1, nf_rep0, nf_d0, nf_t0, nf_s0, nf_ac, nf_an, nf_d1, nf_t1, nf_s1, nf_d2, nf_t2, nf_s2, nf_d3, nf_t3, nf_s3, nf_d4, nf_t4, nf_s4, nf_d5, nf_t5, nf_s5, nf_d6, nf_t6, nf_s6, nf_d7, nf_t7, nf_s7, nf_d8, nf_t8, nf_s8, nf_d9, nf_t9, nf_s9, nf_d10, nf_t10, nf_s10, nf_d11, nf_t11, nf_s11, nf_d12, nf_t12, nf_s12, nf_d13, nf_t13, nf_s13, nf_d14, nf_t14, nf_s14, nf_d15, nf_t15, nf_s15, nf_d16, nf_t16, nf_s16, nf_d17, nf_t17, nf_s17, nf_d18, nf_t18, nf_s18, nf_d19, nf_t19, nf_s19, nf_d20, nf_t20, nf_s20]
        refine v_chi 0 (hs2 ++ [cpB 30 20 S]) (fun q => if q = π hs2.length then cpB 30 20 S else G q) rfl (hrel_add hn4 h1 h2 h3) (by rw [List.length_append, List.length_singleton]) rfl rfl rfl rfl ?_
        refine v_ret K E dX1_record_70 ?_ rfl
        have hz : rec4 hs (cpB 30 20 S) = hs2 ++ [cpB 30 20 S] := by unfold rec4; rw [if_neg (by rw [← hH]; omega), ← hH]
        exact ⟨rfl, by rw [hz] <;> rfl⟩
  · refine v_chi 0 hs G rfl hr rfl rfl rfl rfl rfl ?_
    refine v_aload_n K dX1_record_12 rfl ?_
    refine v_callVv K [0] (c_X1_dropOldest (XI X) (XB X) _ _ _ _ ) rfl gX1_record_X1_dropOldest rfl rfl hd_X1_dropOldest ⟨rfl, rfl⟩ ⟨by decide, by decide⟩ 0 rfl hiF rfl (by decide) (Nat.le_of_ble_eq_true rfl) ⟨Nat.zero_le _, Nat.zero_le _⟩ rfl dX1_record_13 ?_
    refine v_ohi 0 rfl (fun f G hr => ?_)
    obtain ⟨hs2, hH⟩ : ∃ q, q = hs.drop 1 := ⟨_, rfl⟩
    rw [← hH] at hr
    rw [← hH]
    obtain ⟨hl, π, h1, h2, h3⟩ := hr
    have hn4 : hs2.length < 4 := by rw [hH, List.length_drop]; rw [nI_ltI (by omega) (by decide)] at c9; omega
    have hq := (h1 _ hn4).1
    try dsimp only [Nat.reduceAdd, nf_rep1, nf_rep0, nf_d0, nf_t0, nf_s0, nf_ac, nf_an, nf_d1, nf_t1, nf_s1, nf_d2, nf_t2, nf_s2, nf_d3, nf_t3, nf_s3, nf_d4, nf_t4, nf_s4, nf_d5, nf_t5, nf_s5, nf_d6, nf_t6, nf_s6, nf_d7, nf_t7, nf_s7, nf_d8, nf_t8, nf_s8, nf_d9, nf_t9, nf_s9, nf_d10, nf_t10, nf_s10, nf_d11, nf_t11, nf_s11, nf_d12, nf_t12, nf_s12, nf_d13, nf_t13, nf_s13, nf_d14, nf_t14, nf_s14, nf_d15, nf_t15, nf_s15, nf_d16, nf_t16, nf_s16, nf_d17, nf_t17, nf_s17, nf_d18, nf_t18, nf_s18, nf_d19, nf_t19, nf_s19, nf_d20, nf_t20, nf_s20]
    refine v_aload_n K dX1_record_16 rfl ?_
    refine v_get K 0 rfl hasF_c rfl iX1 1 (by decide) rfl (by decide +kernel) rfl dX1_record_17 ?_
    refine v_if_lt K 70 dX1_record_20 (by decide) (fun c20 => ?_) (fun c20 => ?_)
    · exact absurd c20 (nI_pos (by omega))
    · refine v_aload_n K dX1_record_23 rfl ?_
      refine v_get K 0 rfl hasF_c rfl iX1 1 (by decide) rfl (by decide +kernel) rfl dX1_record_24 ?_
      refine v_aload_n K dX1_record_27 rfl ?_
      refine v_get K 0 rfl hasF_c rfl iX1 0 (by decide) rfl (by decide +kernel) rfl dX1_record_28 ?_
      refine v_alenq K 1 rfl dX1_record_31 ?_
      refine v_ic_ge K 70 dX1_record_32 (by decide) (fun c32 => ?_) (fun c32 => ?_)
      · exact absurd c32 (nI_ge hn4 (by decide))
      · refine v_aload_n K dX1_record_35 rfl ?_
        refine v_get K 0 rfl hasF_c rfl iX1 0 (by decide) rfl (by decide +kernel) rfl dX1_record_36 ?_
        refine v_aload_n K dX1_record_39 rfl ?_
        refine v_get K 0 rfl hasF_c rfl iX1 1 (by decide) rfl (by decide +kernel) rfl dX1_record_40 ?_
        refine v_aald (b := B (π hs2.length) 0) K 1 rfl ?ix43_4 ?ab43_4 dX1_record_43 ?_
        case ix43_4 => exact vp_in_nI hn4 (by decide)
        case ab43_4 => rw [nI_clamp (by omega)]; exact (h1 _ hn4).2
        refine v_ifnull K dX1_record_44 ?_
        refine v_aload_n K dX1_record_47 rfl ?_
        refine v_get K 0 rfl hasF_c rfl iX1 0 (by decide) rfl (by decide +kernel) rfl dX1_record_48 ?_
        refine v_aload_n K dX1_record_51 rfl ?_
        refine v_get K 0 rfl hasF_c rfl iX1 1 (by decide) rfl (by decide +kernel) rfl dX1_record_52 ?_
        refine v_aald (b := B (π hs2.length) 0) K 1 rfl ?ix55_5 ?ab55_5 dX1_record_55 ?_
        case ix55_5 => exact vp_in_nI hn4 (by decide)
        case ab55_5 => rw [nI_clamp (by omega)]; exact (h1 _ hn4).2
        refine v_aload_n K dX1_record_56 rfl ?_
        refine v_callVv K [2 + π hs2.length, 6] (c_X0_copyFrom (XI X) (XB X) (B (π hs2.length)) 30 20 (G (π hs2.length)) A nr nw S) (pk_q hq) gX1_record_X0_copyFrom rfl rfl hd_X0_copyFrom ⟨rfl, rfl⟩ ⟨by decide, by decide⟩ (2 + π hs2.length) (at_q hq) bookF rfl (nd_q hq).1 (Nat.le_of_ble_eq_true rfl) ⟨Nat.zero_le _, Nat.zero_le _⟩ rfl dX1_record_57 ?_
        try dsimp only [Nat.reduceAdd, nf_d1, nf_d0]
        rw [rep_q hq]
        refine v_aload_n K dX1_record_60 rfl ?_
        refine v_dup K dX1_record_61 rfl ?_
        refine v_get K 0 rfl hasF_c rfl iX1 1 (by decide) rfl (by decide +kernel) rfl dX1_record_62 ?_
        refine v_iconst K (1) dX1_record_65 (by decide) ?_
        refine v_iadd K dX1_record_66 ?_
        rw [nI_1]
        refine v_put K 0 rfl rfl iX1 tyX1 tyX1_ok nmX1 1 (by decide) rfl (by decide +kernel) rfl rfl (Nat.le_of_ble_eq_true rfl) dX1_record_67 ?_
        try dsimp only [Nat.reduceAdd, nf_rep1, nf_rep0, nf_d0, nf_t0, nf_s0, nf_ac, nf_an, nf_d1, nf_t1, nf_s1, nf_d2, nf_t2, nf_s2, nf_d3, nf_t3, nf_s3, nf_d4, nf_t4, nf_s4, nf_d5, nf_t5, nf_s5, nf_d6, nf_t6, nf_s6, nf_d7, nf_t7, nf_s7, nf_d8, nf_t8, nf_s8, nf_d9, nf_t9, nf_s9, nf_d10, nf_t10, nf_s10, nf_d11, nf_t11, nf_s11, nf_d12, nf_t12, nf_s12, nf_d13, nf_t13, nf_s13, nf_d14, nf_t14, nf_s14, nf_d15, nf_t15, nf_s15, nf_d16, nf_t16, nf_s16, nf_d17, nf_t17, nf_s17, nf_d18, nf_t18, nf_s18, nf_d19, nf_t19, nf_s19, nf_d20, nf_t20, nf_s20]
        refine v_chi 0 (hs2 ++ [cpB 30 20 S]) (fun q => if q = π hs2.length then cpB 30 20 S else G q) rfl (hrel_add hn4 h1 h2 h3) (by rw [List.length_append, List.length_singleton]) rfl rfl rfl rfl ?_
        refine v_ret K E dX1_record_70 ?_ rfl
        have hz : rec4 hs (cpB 30 20 S) = hs2 ++ [cpB 30 20 S] := by unfold rec4; rw [if_pos (by rw [nI_ltI (by omega) (by decide)] at c9; omega), ← hH]
        exact ⟨rfl, by rw [hz] <;> rfl⟩

theorem hd_X1_bringBack : yX1_bringBack.cls = RX1 ∧ yX1_bringBack.cls ≠ "java/lang/invoke/MethodHandle" ∧ yX1_bringBack.cls ≠ "java/lang/invoke/VarHandle" ∧ (parseMethodDescriptor yX1_bringBack.desc).map (fun d => d.parameters.length) = some 1 := by decide +kernel
set_option maxHeartbeats 4000000 in
set_option maxRecDepth 100000 in
theorem c_X1_bringBack (cI cB : ClassId) (h a : Nat) (B : Nat → Nat → Nat) (hs : List Bk) (A : Nat → Nat) (nr nw : Nat) (S : Bk) (h0 : 1 ≤ hs.length) : Ct cI cB yX1_bringBack wsX1_bringBack { frames := 5, cells := 0, slots := 0, locals := 107 } [.ref h, .ref (A 0)] [hiM cI cB h a B hs, bookM cI A nr nw S] (dn [hiM cI cB h a B hs.dropLast, bookM cI A nr nw (cpB nr nw (hs.getD (hs.length - 1) bk0))]) := by
  refine ct_of (cc := cX1_bringBack) (maxL := 3) (ret := none) (by decide) rfl (Nat.le_of_ble_eq_true rfl) [(0, .ref h), (1, .ref (A 0))] rfl ?_
  intro X hI hB K E
  subst hI
  subst hB
  have iX1 : ∀ w ∈ u_ws RX1 TX1 2, w ∈ wsX1_bringBack := by decide +kernel
  refine v_ohi 0 rfl (fun f G hr => ?_)
  try dsimp only [Nat.reduceAdd, nf_rep1, nf_rep0, nf_d0, nf_t0, nf_s0, nf_ac, nf_an, nf_d1, nf_t1, nf_s1, nf_d2, nf_t2, nf_s2, nf_d3, nf_t3, nf_s3, nf_d4, nf_t4, nf_s4, nf_d5, nf_t5, nf_s5, nf_d6, nf_t6, nf_s6, nf_d7, nf_t7, nf_s7, nf_d8, nf_t8, nf_s8, nf_d9, nf_t9, nf_s9, nf_d10, nf_t10, nf_s10, nf_d11, nf_t11, nf_s11, nf_d12, nf_t12, nf_s12, nf_d13, nf_t13, nf_s13, nf_d14, nf_t14, nf_s14, nf_d15, nf_t15, nf_s15, nf_d16, nf_t16, nf_s16, nf_d17, nf_t17, nf_s17, nf_d18, nf_t18, nf_s18, nf_d19, nf_t19, nf_s19, nf_d20, nf_t20, nf_s20]
  have hr0 := hr
  obtain ⟨hl, π, h1, h2, h3⟩ := hr
  have hn4 : hs.length - 1 < 4 := by omega
  have hq := (h1 _ hn4).1
  refine v_aload_n K dX1_bringBack_0 rfl ?_
  refine v_get K 0 rfl hasF_c rfl iX1 1 (by decide) rfl (by decide +kernel) rfl dX1_bringBack_1 ?_
  refine v_iconst K (1) dX1_bringBack_4 (by decide) ?_
  refine v_isub K dX1_bringBack_5 ?_
  rw [sub1 h0]
  refine v_istore_n K dX1_bringBack_6 (by decide) ?_
  refine v_iload_n K dX1_bringBack_7 rfl ?_
  refine v_if_lt K 44 dX1_bringBack_8 (by decide) (fun c8 => ?_) (fun c8 => ?_)
  · exact absurd c8 (nI_pos (by omega))
  · refine v_iload_n K dX1_bringBack_11 rfl ?_
    refine v_aload_n K dX1_bringBack_12 rfl ?_
    refine v_get K 0 rfl hasF_c rfl iX1 0 (by decide) rfl (by decide +kernel) rfl dX1_bringBack_13 ?_
    refine v_alenq K 1 rfl dX1_bringBack_16 ?_
    refine v_ic_ge K 44 dX1_bringBack_17 (by decide) (fun c17 => ?_) (fun c17 => ?_)
    · exact absurd c17 (nI_ge hn4 (by decide))
    · refine v_aload_n K dX1_bringBack_20 rfl ?_
      refine v_get K 0 rfl hasF_c rfl iX1 0 (by decide) rfl (by decide +kernel) rfl dX1_bringBack_21 ?_
      refine v_iload_n K dX1_bringBack_24 rfl ?_
      refine v_aald (b := B (π (hs.length - 1)) 0) K 1 rfl ?ix25_1 ?ab25_1 dX1_bringBack_25 ?_
      case ix25_1 => exact vp_in_nI hn4 (by decide)
      case ab25_1 => rw [nI_clamp (by omega)]; exact (h1 _ hn4).2
      refine v_ifnull K dX1_bringBack_26 ?_
      refine v_aload_n K dX1_bringBack_29 rfl ?_
      refine v_aload_n K dX1_bringBack_30 rfl ?_
      refine v_get K 0 rfl hasF_c rfl iX1 0 (by decide) rfl (by decide +kernel) rfl dX1_bringBack_31 ?_
      refine v_iload_n K dX1_bringBack_34 rfl ?_
      refine v_aald (b := B (π (hs.length - 1)) 0) K 1 rfl ?ix35_2 ?ab35_2 dX1_bringBack_35 ?_
      case ix35_2 => exact vp_in_nI hn4 (by decide)
      case ab35_2 => rw [nI_clamp (by omega)]; exact (h1 _ hn4).2
      refine v_callVv K [6, 2 + π (hs.length - 1)] (c_X0_copyFrom (XI X) (XB X) A nr nw S (B (π (hs.length - 1))) 30 20 (G (π (hs.length - 1)))) (pk_q2 hq) gX1_bringBack_X0_copyFrom rfl rfl hd_X0_copyFrom ⟨rfl, rfl⟩ ⟨by decide, by decide⟩ 6 rfl bookF rfl (nd_q hq).2 (Nat.le_of_ble_eq_true rfl) ⟨Nat.zero_le _, Nat.zero_le _⟩ rfl dX1_bringBack_36 ?_
      try dsimp only [Nat.reduceAdd, nf_d1, nf_d0]
      rw [rep_q2 hq]
      refine v_aload_n K dX1_bringBack_39 rfl ?_
      refine v_iload_n K dX1_bringBack_40 rfl ?_
      refine v_put K 0 rfl rfl iX1 tyX1 tyX1_ok nmX1 1 (by decide) rfl (by decide +kernel) rfl rfl (Nat.le_of_ble_eq_true rfl) dX1_bringBack_41 ?_
      try dsimp only [Nat.reduceAdd, nf_rep1, nf_rep0, nf_d0, nf_t0, nf_s0, nf_ac, nf_an, nf_d1, nf_t1, nf_s1, nf_d2, nf_t2, nf_s2, nf_d3, nf_t3, nf_s3, nf_d4, nf_t4, nf_s4, nf_d5, nf_t5, nf_s5, nf_d6, nf_t6, nf_s6, nf_d7, nf_t7, nf_s7, nf_d8, nf_t8, nf_s8, nf_d9, nf_t9, nf_s9, nf_d10, nf_t10, nf_s10, nf_d11, nf_t11, nf_s11, nf_d12, nf_t12, nf_s12, nf_d13, nf_t13, nf_s13, nf_d14, nf_t14, nf_s14, nf_d15, nf_t15, nf_s15, nf_d16, nf_t16, nf_s16, nf_d17, nf_t17, nf_s17, nf_d18, nf_t18, nf_s18, nf_d19, nf_t19, nf_s19, nf_d20, nf_t20, nf_s20]
      refine v_chi 0 hs.dropLast G rfl (hrel_drop hr0) (by rw [List.length_dropLast]) rfl rfl rfl rfl ?_
      refine v_ret K E dX1_bringBack_44 ?_ rfl
      exact ⟨rfl, by rw [h3 _ (by omega)] <;> rfl⟩
