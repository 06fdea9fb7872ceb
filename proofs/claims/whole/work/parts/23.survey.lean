theorem hd_X6_addUses : yX6_addUses.cls = RX6 ∧ yX6_addUses.cls ≠ "java/lang/invoke/MethodHandle" ∧ yX6_addUses.cls ≠ "java/lang/invoke/VarHandle" ∧ (parseMethodDescriptor yX6_addUses.desc).map (fun d => d.parameters.length) = some 1 := by decide +kernel
set_option maxHeartbeats 4000000 in
set_option maxRecDepth 100000 in
theorem c_X6_addUses (cI cB : ClassId) (so f1 f2 f3 f4 ur f6 f7 ua : Nat) (ru : List Int32) (r a cap : Nat) (us : List Int32)  : Ct cI cB yX6_addUses wsX6_addUses { frames := 2, cells := 0, slots := 0, locals := 43 } [.ref so, .ref r] [cM so (.inr (6, [.ref f1, .ref f2, .ref f3, .ref f4, .ref ur, .ref f6, .ref f7])), rowM cI ur ua 30 ru, rowM cI r a cap us] (dn [cM so (.inr (6, [.ref f1, .ref f2, .ref f3, .ref f4, .ref ur, .ref f6, .ref f7])), rowM cI ur ua 30 (incL ru us), rowM cI r a cap us]) := by
  refine ct_of (cc := cX6_addUses) (maxL := 3) (ret := none) (by decide) rfl (Nat.le_of_ble_eq_true rfl) [(0, .ref so), (1, .ref r)] rfl ?_
  intro X hI hB K E
  subst hI
  subst hB
  have iX6 : ∀ w ∈ u_ws RX6 TX6 7, w ∈ wsX6_addUses := by decide +kernel
  refine v_rowlen 2 rfl (fun hX => ?_)
  have lp : ∀ k, k ≤ us.length → ∀ (x : Int32) (zs : List Int32), x = nI k → incL zs (us.drop k) = incL ru us → V X 0 0 2 [(0, .ref so), (1, .ref r), (2, .int x)] [] [cM so (.inr (6, [.ref f1, .ref f2, .ref f3, .ref f4, .ref ur, .ref f6, .ref f7])), rowM (XI X) ur ua 30 zs, rowM (XI X) r a cap us] := by
    refine loop_up us.length ?_
    intro k hk ih x zs hx hy
    subst hx
    refine v_iload_n K dX6_addUses_2 rfl ?_
    refine v_aload_n K dX6_addUses_3 rfl ?_
    refine v_callVi K [2] (c_X3_size (XI X) (XB X) _ _ _ _ ) rfl gX6_addUses_X3_size rfl rfl hd_X3_size ⟨rfl, rfl⟩ ⟨by decide, by decide⟩ 2 rfl rowF rfl (by decide) (Nat.le_of_ble_eq_true rfl) ⟨Nat.zero_le _, Nat.zero_le _⟩ rfl dX6_addUses_4 ?_
    refine v_ic_ge K 28 dX6_addUses_7 (by decide) (fun c7 => ?_) (fun c7 => ?_)
    · refine v_ret K E dX6_addUses_28 ?_ rfl
      exact ⟨rfl, by rw [← hy, up_end rfl hX hk c7, List.drop_length] <;> rfl⟩
    · refine v_aload_n K dX6_addUses_10 rfl ?_
      refine v_get K 0 rfl hasF_c rfl iX6 4 (by decide) rfl (by decide +kernel) rfl dX6_addUses_11 ?_
      refine v_aload_n K dX6_addUses_14 rfl ?_
      refine v_iload_n K dX6_addUses_15 rfl ?_
      refine v_callVi K [2] (c_X3_get (XI X) (XB X) _ _ _ _ _ ) rfl gX6_addUses_X3_get rfl rfl hd_X3_get ⟨rfl, rfl⟩ ⟨by decide, by decide⟩ 2 rfl rowF rfl (by decide) (Nat.le_of_ble_eq_true rfl) ⟨Nat.zero_le _, Nat.zero_le _⟩ rfl dX6_addUses_16 ?_
      have hlt := up_lt rfl hX hk c7
      rw [gt_n (by omega)]
      refine v_callVv K [1] (c_X3_increase (XI X) (XB X) _ _ _ _ _ ) rfl gX6_addUses_X3_increase rfl rfl hd_X3_increase ⟨rfl, rfl⟩ ⟨by decide, by decide⟩ 1 rfl rowF rfl (by decide) (Nat.le_of_ble_eq_true rfl) ⟨Nat.zero_le _, Nat.zero_le _⟩ rfl dX6_addUses_19 ?_
      refine v_iinc K dX6_addUses_22 rfl (by decide) iinc_1 ?_
      refine v_goto K 2 dX6_addUses_25 (by decide) ?_
      exact v_j (ih hlt _ _ (nI_1 k) (by rw [← hy]; exact (incL_step hlt).symm)) rfl rfl rfl
  refine v_iconst K (0) dX6_addUses_0 (by decide) ?_
  refine v_istore_n K dX6_addUses_1 (by decide) ?_
  exact v_j (lp 0 (Nat.zero_le _) 0 ru rfl rfl) rfl rfl rfl

theorem hd_X6_renew : yX6_renew.cls = RX6 ∧ yX6_renew.cls ≠ "java/lang/invoke/MethodHandle" ∧ yX6_renew.cls ≠ "java/lang/invoke/VarHandle" ∧ (parseMethodDescriptor yX6_renew.desc).map (fun d => d.parameters.length) = some 1 := by decide +kernel
set_option maxHeartbeats 4000000 in
set_option maxRecDepth 100000 in
theorem c_X6_renew (cI cB : ClassId) (B : Nat → Nat) (v : Sv) (A : Nat → Nat) (nr nw : Nat) (S : Bk)  : Ct cI cB yX6_renew wsX6_renew { frames := 5, cells := 0, slots := 0, locals := 120 } [.ref (B 0), .ref (A 0)] [svM cI B v, bookM cI A nr nw S] (dn [svM cI B (svy S), bookM cI A nr nw S]) := by
  refine ct_of (cc := cX6_renew) (maxL := 3) (ret := none) (by decide) rfl (Nat.le_of_ble_eq_true rfl) [(0, .ref (B 0)), (1, .ref (A 0))] rfl ?_
  intro X hI hB K E
  subst hI
  subst hB
  have iX0 : ∀ w ∈ u_ws RX0 TX0 6, w ∈ wsX6_renew := by decide +kernel
  have iX5 : ∀ w ∈ u_ws RX5 TX5 4, w ∈ wsX6_renew := by decide +kernel
  have iX6 : ∀ w ∈ u_ws RX6 TX6 7, w ∈ wsX6_renew := by decide +kernel
  refine v_obook 1 rfl ?_
  try dsimp only [nf_rep1, nf_rep0, List.set_cons_zero, List.set_cons_succ, List.take_succ_cons, List.take_zero, List.drop_succ_cons, List.drop_zero, List.cons_append, List.nil_append]
  refine v_rowsrl 6 rfl (fun hE => ?_)
  obtain ⟨C0, hC0⟩ := hE
  have hN := rl_N hC0
  refine v_rowsrl 2 rfl (fun hE => ?_)
  obtain ⟨C1, hC1⟩ := hE
  have hN1 := rl_N hC1
  refine v_cbook  1 rfl ?_
  have lp : ∀ k, k ≤ S.2.2.2.2.1.length → ∀ (x : Int32) (T : T4) (w : List Int32), x = nI k → V X 0 0 49 [(0, .ref (B 0)), (1, .ref (A 0)), (2, .int x)] [] ([cM (B 0) (.inr (6, [.ref (B 1), .ref (B 6), .ref (B 11), .ref (B 16), .ref (B 18), .ref (B 20), .ref (B 29)])), rowsM (XI X) (B 1) (B 2) (B 3) (B 4) (B 5) 20 12 (svS S k).1, rowsM (XI X) (B 6) (B 7) (B 8) (B 9) (B 10) 20 12 (svS S k).2.1, rowsM (XI X) (B 11) (B 12) (B 13) (B 14) (B 15) 20 25 (svS S k).2.2.1, rowM (XI X) (B 16) (B 17) 20 (svS S k).2.2.2.1, rowM (XI X) (B 18) (B 19) 30 (svS S k).2.2.2.2, spM (XI X) (fun n => B (20 + n)) T, rowM (XI X) (B 29) (B 30) 12 w] ++ [bookM (XI X) A nr nw S]) := by
    refine loop_up S.2.2.2.2.1.length ?_
    intro k hk ih x T w hx
    subst hx
    refine v_iload_n K dX6_renew_49 rfl ?_
    refine v_aload_n K dX6_renew_50 rfl ?_
    refine v_callVi K [8] (c_X0_words (XI X) (XB X) _ _ _ _ ) rfl gX6_renew_X0_words rfl rfl hd_X0_words ⟨rfl, rfl⟩ ⟨by decide, by decide⟩ 8 rfl bookF rfl (by decide) (Nat.le_of_ble_eq_true rfl) ⟨Nat.zero_le _, Nat.zero_le _⟩ rfl dX6_renew_51 ?_
    try dsimp only [nf_rep1, nf_rep0, List.set_cons_zero, List.set_cons_succ, List.take_succ_cons, List.take_zero, List.drop_succ_cons, List.drop_zero, List.cons_append, List.nil_append]
    refine v_ic_ge K 177 dX6_renew_54 (by decide) (fun c54 => ?_) (fun c54 => ?_)
    · refine v_csv  0 rfl ?_
      refine v_ret K E dX6_renew_177 ?_ rfl
      exact ⟨rfl, by rw [up_end rfl hN hk c54] <;> rfl⟩
    · have hlt := up_lt rfl hN hk c54
      refine v_obook 8 rfl ?_
      try dsimp only [nf_rep1, nf_rep0, List.set_cons_zero, List.set_cons_succ, List.take_succ_cons, List.take_zero, List.drop_succ_cons, List.drop_zero, List.cons_append, List.nil_append]
      refine v_aload_n K dX6_renew_57 rfl ?_
      refine v_get K 8 rfl hasF_c rfl iX0 4 (by decide) rfl (by decide +kernel) rfl dX6_renew_58 ?_
      refine v_iload_n K dX6_renew_61 rfl ?_
      refine v_aload_n K dX6_renew_62 rfl ?_
      refine v_get K 0 rfl hasF_c rfl iX6 6 (by decide) rfl (by decide +kernel) rfl dX6_renew_63 ?_
      refine v_callVv K [13, 7] (c_X4_copyTo (XI X) (XB X) _ _ _ _ _ _ _ _ _ _ _ _ _ ) rfl gX6_renew_X4_copyTo rfl rfl hd_X4_copyTo ⟨rfl, rfl⟩ ⟨by decide, by decide⟩ 13 rfl rowsF rfl (by decide) (Nat.le_of_ble_eq_true rfl) ⟨Nat.zero_le _, Nat.zero_le _⟩ rfl dX6_renew_66 ?_
      try dsimp only [nf_rep1, nf_rep0, List.set_cons_zero, List.set_cons_succ, List.take_succ_cons, List.take_zero, List.drop_succ_cons, List.drop_zero, List.cons_append, List.nil_append]
      rw [wd12 hC0 (by omega)]
      refine v_cbook  8 rfl ?_
      try dsimp only [nf_rep1, nf_rep0, List.set_cons_zero, List.set_cons_succ, List.take_succ_cons, List.take_zero, List.drop_succ_cons, List.drop_zero, List.cons_append, List.nil_append]
      refine v_aload_n K dX6_renew_69 rfl ?_
      refine v_get K 0 rfl hasF_c rfl iX6 5 (by decide) rfl (by decide +kernel) rfl dX6_renew_70 ?_
      refine v_aload_n K dX6_renew_73 rfl ?_
      refine v_aload_n K dX6_renew_74 rfl ?_
      refine v_get K 0 rfl hasF_c rfl iX6 6 (by decide) rfl (by decide +kernel) rfl dX6_renew_75 ?_
      refine v_callVv K [6, 8, 7] (c_X5_hear (XI X) (XB X) _ _ _ _ _ _ _ _ _ _ ) rfl gX6_renew_X5_hear rfl rfl hd_X5_hear ⟨rfl, rfl⟩ ⟨by decide, by decide⟩ 6 rfl spF rfl (by decide) (Nat.le_of_ble_eq_true rfl) ⟨Nat.zero_le _, Nat.zero_le _⟩ rfl dX6_renew_78 ?_
      try dsimp only [nf_rep1, nf_rep0, List.set_cons_zero, List.set_cons_succ, List.take_succ_cons, List.take_zero, List.drop_succ_cons, List.drop_zero, List.cons_append, List.nil_append]
      refine v_aload_n K dX6_renew_81 rfl ?_
      refine v_get K 0 rfl hasF_c rfl iX6 5 (by decide) rfl (by decide +kernel) rfl dX6_renew_82 ?_
      refine v_aload_n K dX6_renew_85 rfl ?_
      refine v_aload_n K dX6_renew_86 rfl ?_
      refine v_get K 0 rfl hasF_c rfl iX6 6 (by decide) rfl (by decide +kernel) rfl dX6_renew_87 ?_
      refine v_obook 8 rfl ?_
      try dsimp only [nf_rep1, nf_rep0, List.set_cons_zero, List.set_cons_succ, List.take_succ_cons, List.take_zero, List.drop_succ_cons, List.drop_zero, List.cons_append, List.nil_append]
      refine v_aload_n K dX6_renew_90 rfl ?_
      refine v_get K 8 rfl hasF_c rfl iX0 5 (by decide) rfl (by decide +kernel) rfl dX6_renew_91 ?_
      refine v_iload_n K dX6_renew_94 rfl ?_
      refine v_callVi K [14] (c_X3_get (XI X) (XB X) _ _ _ _ _ ) rfl gX6_renew_X3_get rfl rfl hd_X3_get ⟨rfl, rfl⟩ ⟨by decide, by decide⟩ 14 rfl rowF rfl (by decide) (Nat.le_of_ble_eq_true rfl) ⟨Nat.zero_le _, Nat.zero_le _⟩ rfl dX6_renew_95 ?_
      try dsimp only [nf_rep1, nf_rep0, List.set_cons_zero, List.set_cons_succ, List.take_succ_cons, List.take_zero, List.drop_succ_cons, List.drop_zero, List.cons_append, List.nil_append]
      rw [gt_n (by omega)]
      refine v_cbook  8 rfl ?_
      try dsimp only [nf_rep1, nf_rep0, List.set_cons_zero, List.set_cons_succ, List.take_succ_cons, List.take_zero, List.drop_succ_cons, List.drop_zero, List.cons_append, List.nil_append]
      refine v_callVv K [6, 8, 7] (c_X5_write (XI X) (XB X) _ _ _ _ _ _ _ _ _ _ _ ) rfl gX6_renew_X5_write rfl rfl hd_X5_write ⟨rfl, rfl⟩ ⟨by decide, by decide⟩ 6 rfl spF rfl (by decide) (Nat.le_of_ble_eq_true rfl) ⟨Nat.zero_le _, Nat.zero_le _⟩ rfl dX6_renew_98 ?_
      try dsimp only [nf_rep1, nf_rep0, List.set_cons_zero, List.set_cons_succ, List.take_succ_cons, List.take_zero, List.drop_succ_cons, List.drop_zero, List.cons_append, List.nil_append]
      refine v_osp 6 rfl ?_
      try dsimp only [nf_rep1, nf_rep0, List.set_cons_zero, List.set_cons_succ, List.take_succ_cons, List.take_zero, List.drop_succ_cons, List.drop_zero, List.cons_append, List.nil_append]
      refine v_aload_n K dX6_renew_101 rfl ?_
      refine v_get K 0 rfl hasF_c rfl iX6 0 (by decide) rfl (by decide +kernel) rfl dX6_renew_102 ?_
      refine v_aload_n K dX6_renew_105 rfl ?_
      refine v_get K 0 rfl hasF_c rfl iX6 5 (by decide) rfl (by decide +kernel) rfl dX6_renew_106 ?_
      refine v_get K 6 rfl hasF_c rfl iX5 0 (by decide) rfl (by decide +kernel) rfl dX6_renew_109 ?_
      refine v_callVv K [1, 7] (c_X4_add (XI X) (XB X) _ _ _ _ _ _ _ _ _ _ _ _ ) rfl gX6_renew_X4_add rfl rfl hd_X4_add ⟨rfl, rfl⟩ ⟨by decide, by decide⟩ 1 rfl rowsF rfl (by decide) (Nat.le_of_ble_eq_true rfl) ⟨Nat.zero_le _, Nat.zero_le _⟩ rfl dX6_renew_112 ?_
      try dsimp only [nf_rep1, nf_rep0, List.set_cons_zero, List.set_cons_succ, List.take_succ_cons, List.take_zero, List.drop_succ_cons, List.drop_zero, List.cons_append, List.nil_append]
      refine v_aload_n K dX6_renew_115 rfl ?_
      refine v_get K 0 rfl hasF_c rfl iX6 1 (by decide) rfl (by decide +kernel) rfl dX6_renew_116 ?_
      refine v_aload_n K dX6_renew_119 rfl ?_
      refine v_get K 0 rfl hasF_c rfl iX6 5 (by decide) rfl (by decide +kernel) rfl dX6_renew_120 ?_
      refine v_get K 6 rfl hasF_c rfl iX5 1 (by decide) rfl (by decide +kernel) rfl dX6_renew_123 ?_
      refine v_callVv K [2, 8] (c_X4_add (XI X) (XB X) _ _ _ _ _ _ _ _ _ _ _ _ ) rfl gX6_renew_X4_add rfl rfl hd_X4_add ⟨rfl, rfl⟩ ⟨by decide, by decide⟩ 2 rfl rowsF rfl (by decide) (Nat.le_of_ble_eq_true rfl) ⟨Nat.zero_le _, Nat.zero_le _⟩ rfl dX6_renew_126 ?_
      try dsimp only [nf_rep1, nf_rep0, List.set_cons_zero, List.set_cons_succ, List.take_succ_cons, List.take_zero, List.drop_succ_cons, List.drop_zero, List.cons_append, List.nil_append]
      refine v_aload_n K dX6_renew_129 rfl ?_
      refine v_get K 0 rfl hasF_c rfl iX6 2 (by decide) rfl (by decide +kernel) rfl dX6_renew_130 ?_
      refine v_aload_n K dX6_renew_133 rfl ?_
      refine v_get K 0 rfl hasF_c rfl iX6 5 (by decide) rfl (by decide +kernel) rfl dX6_renew_134 ?_
      refine v_get K 6 rfl hasF_c rfl iX5 3 (by decide) rfl (by decide +kernel) rfl dX6_renew_137 ?_
      refine v_callVv K [3, 10] (c_X4_add (XI X) (XB X) _ _ _ _ _ _ _ _ _ _ _ _ ) rfl gX6_renew_X4_add rfl rfl hd_X4_add ⟨rfl, rfl⟩ ⟨by decide, by decide⟩ 3 rfl rowsF rfl (by decide) (Nat.le_of_ble_eq_true rfl) ⟨Nat.zero_le _, Nat.zero_le _⟩ rfl dX6_renew_140 ?_
      try dsimp only [nf_rep1, nf_rep0, List.set_cons_zero, List.set_cons_succ, List.take_succ_cons, List.take_zero, List.drop_succ_cons, List.drop_zero, List.cons_append, List.nil_append]
      refine v_aload_n K dX6_renew_143 rfl ?_
      refine v_get K 0 rfl hasF_c rfl iX6 3 (by decide) rfl (by decide +kernel) rfl dX6_renew_144 ?_
      refine v_aload_n K dX6_renew_147 rfl ?_
      refine v_get K 0 rfl hasF_c rfl iX6 5 (by decide) rfl (by decide +kernel) rfl dX6_renew_148 ?_
      refine v_get K 6 rfl hasF_c rfl iX5 2 (by decide) rfl (by decide +kernel) rfl dX6_renew_151 ?_
      refine v_callVi K [9] (c_X3_size (XI X) (XB X) _ _ _ _ ) rfl gX6_renew_X3_size rfl rfl hd_X3_size ⟨rfl, rfl⟩ ⟨by decide, by decide⟩ 9 rfl rowF rfl (by decide) (Nat.le_of_ble_eq_true rfl) ⟨Nat.zero_le _, Nat.zero_le _⟩ rfl dX6_renew_154 ?_
      try dsimp only [nf_rep1, nf_rep0, List.set_cons_zero, List.set_cons_succ, List.take_succ_cons, List.take_zero, List.drop_succ_cons, List.drop_zero, List.cons_append, List.nil_append]
      refine v_callVv K [4] (c_X3_add (XI X) (XB X) _ _ _ _ _ ) rfl gX6_renew_X3_add rfl rfl hd_X3_add ⟨rfl, rfl⟩ ⟨by decide, by decide⟩ 4 rfl rowF rfl (by decide) (Nat.le_of_ble_eq_true rfl) ⟨Nat.zero_le _, Nat.zero_le _⟩ rfl dX6_renew_157 ?_
      try dsimp only [nf_rep1, nf_rep0, List.set_cons_zero, List.set_cons_succ, List.take_succ_cons, List.take_zero, List.drop_succ_cons, List.drop_zero, List.cons_append, List.nil_append]
      refine v_aload_n K dX6_renew_160 rfl ?_
      refine v_aload_n K dX6_renew_161 rfl ?_
      refine v_get K 0 rfl hasF_c rfl iX6 5 (by decide) rfl (by decide +kernel) rfl dX6_renew_162 ?_
      refine v_get K 6 rfl hasF_c rfl iX5 2 (by decide) rfl (by decide +kernel) rfl dX6_renew_165 ?_
      refine v_callVv K [0, 5, 9] (c_X6_addUses (XI X) (XB X) _ _ _ _ _ _ _ _ _ _ _ _ _ _ ) rfl gX6_renew_X6_addUses rfl rfl hd_X6_addUses ⟨rfl, rfl⟩ ⟨by decide, by decide⟩ 0 rfl hasF_c rfl (by decide) (Nat.le_of_ble_eq_true rfl) ⟨Nat.zero_le _, Nat.zero_le _⟩ rfl dX6_renew_168 ?_
      try dsimp only [nf_rep1, nf_rep0, List.set_cons_zero, List.set_cons_succ, List.take_succ_cons, List.take_zero, List.drop_succ_cons, List.drop_zero, List.cons_append, List.nil_append]
      refine v_csp (A := fun n => B (20 + n)) 6 rfl ?_
      try dsimp only [nf_rep1, nf_rep0, List.set_cons_zero, List.set_cons_succ, List.take_succ_cons, List.take_zero, List.drop_succ_cons, List.drop_zero, List.cons_append, List.nil_append]
      refine v_iinc K dX6_renew_171 rfl (by decide) iinc_1 ?_
      refine v_goto K 49 dX6_renew_174 (by decide) ?_
      exact v_j (ih hlt _ _ _ (nI_1 k)) rfl rfl rfl
  refine v_osv 0 rfl (fun T w => ?_)
  try dsimp only [nf_rep1, nf_rep0, List.set_cons_zero, List.set_cons_succ, List.take_succ_cons, List.take_zero, List.drop_succ_cons, List.drop_zero, List.cons_append, List.nil_append]
  refine v_aload_n K dX6_renew_0 rfl ?_
  refine v_get K 0 rfl hasF_c rfl iX6 0 (by decide) rfl (by decide +kernel) rfl dX6_renew_1 ?_
  refine v_callVv K [1] (c_X4_clear (XI X) (XB X) _ _ _ _ _ _ _ _ ) rfl gX6_renew_X4_clear rfl rfl hd_X4_clear ⟨rfl, rfl⟩ ⟨by decide, by decide⟩ 1 rfl rowsF rfl (by decide) (Nat.le_of_ble_eq_true rfl) ⟨Nat.zero_le _, Nat.zero_le _⟩ rfl dX6_renew_4 ?_
  try dsimp only [nf_rep1, nf_rep0, List.set_cons_zero, List.set_cons_succ, List.take_succ_cons, List.take_zero, List.drop_succ_cons, List.drop_zero, List.cons_append, List.nil_append]
  refine v_aload_n K dX6_renew_7 rfl ?_
  refine v_get K 0 rfl hasF_c rfl iX6 1 (by decide) rfl (by decide +kernel) rfl dX6_renew_8 ?_
  refine v_callVv K [2] (c_X4_clear (XI X) (XB X) _ _ _ _ _ _ _ _ ) rfl gX6_renew_X4_clear rfl rfl hd_X4_clear ⟨rfl, rfl⟩ ⟨by decide, by decide⟩ 2 rfl rowsF rfl (by decide) (Nat.le_of_ble_eq_true rfl) ⟨Nat.zero_le _, Nat.zero_le _⟩ rfl dX6_renew_11 ?_
  try dsimp only [nf_rep1, nf_rep0, List.set_cons_zero, List.set_cons_succ, List.take_succ_cons, List.take_zero, List.drop_succ_cons, List.drop_zero, List.cons_append, List.nil_append]
  refine v_aload_n K dX6_renew_14 rfl ?_
  refine v_get K 0 rfl hasF_c rfl iX6 2 (by decide) rfl (by decide +kernel) rfl dX6_renew_15 ?_
  refine v_callVv K [3] (c_X4_clear (XI X) (XB X) _ _ _ _ _ _ _ _ ) rfl gX6_renew_X4_clear rfl rfl hd_X4_clear ⟨rfl, rfl⟩ ⟨by decide, by decide⟩ 3 rfl rowsF rfl (by decide) (Nat.le_of_ble_eq_true rfl) ⟨Nat.zero_le _, Nat.zero_le _⟩ rfl dX6_renew_18 ?_
  try dsimp only [nf_rep1, nf_rep0, List.set_cons_zero, List.set_cons_succ, List.take_succ_cons, List.take_zero, List.drop_succ_cons, List.drop_zero, List.cons_append, List.nil_append]
  refine v_aload_n K dX6_renew_21 rfl ?_
  refine v_get K 0 rfl hasF_c rfl iX6 3 (by decide) rfl (by decide +kernel) rfl dX6_renew_22 ?_
  refine v_callVv K [4] (c_X3_clear (XI X) (XB X) _ _ _ _ ) rfl gX6_renew_X3_clear rfl rfl hd_X3_clear ⟨rfl, rfl⟩ ⟨by decide, by decide⟩ 4 rfl rowF rfl (by decide) (Nat.le_of_ble_eq_true rfl) ⟨Nat.zero_le _, Nat.zero_le _⟩ rfl dX6_renew_25 ?_
  try dsimp only [nf_rep1, nf_rep0, List.set_cons_zero, List.set_cons_succ, List.take_succ_cons, List.take_zero, List.drop_succ_cons, List.drop_zero, List.cons_append, List.nil_append]
  refine v_aload_n K dX6_renew_28 rfl ?_
  refine v_get K 0 rfl hasF_c rfl iX6 4 (by decide) rfl (by decide +kernel) rfl dX6_renew_29 ?_
  refine v_callVv K [5] (c_X3_clear (XI X) (XB X) _ _ _ _ ) rfl gX6_renew_X3_clear rfl rfl hd_X3_clear ⟨rfl, rfl⟩ ⟨by decide, by decide⟩ 5 rfl rowF rfl (by decide) (Nat.le_of_ble_eq_true rfl) ⟨Nat.zero_le _, Nat.zero_le _⟩ rfl dX6_renew_32 ?_
  try dsimp only [nf_rep1, nf_rep0, List.set_cons_zero, List.set_cons_succ, List.take_succ_cons, List.take_zero, List.drop_succ_cons, List.drop_zero, List.cons_append, List.nil_append]
  refine v_aload_n K dX6_renew_35 rfl ?_
  refine v_get K 0 rfl hasF_c rfl iX6 4 (by decide) rfl (by decide +kernel) rfl dX6_renew_36 ?_
  refine v_iconst K (0) dX6_renew_39 (by decide) ?_
  refine v_aload_n K dX6_renew_40 rfl ?_
  refine v_callVi K [8] (c_X0_rules (XI X) (XB X) _ _ _ _ ) rfl gX6_renew_X0_rules rfl rfl hd_X0_rules ⟨rfl, rfl⟩ ⟨by decide, by decide⟩ 8 rfl bookF rfl (by decide) (Nat.le_of_ble_eq_true rfl) ⟨Nat.zero_le _, Nat.zero_le _⟩ rfl dX6_renew_41 ?_
  try dsimp only [nf_rep1, nf_rep0, List.set_cons_zero, List.set_cons_succ, List.take_succ_cons, List.take_zero, List.drop_succ_cons, List.drop_zero, List.cons_append, List.nil_append]
  refine v_callVv K [5] (c_X3_addMany (XI X) (XB X) _ _ _ _ _ _ ?hc44_0) rfl gX6_renew_X3_addMany rfl rfl hd_X3_addMany ⟨rfl, rfl⟩ ⟨by decide, by decide⟩ 5 rfl rowF rfl (by decide) (Nat.le_of_ble_eq_true rfl) ⟨Nat.zero_le _, Nat.zero_le _⟩ rfl dX6_renew_44 ?_
  case hc44_0 => exact hN1
  try dsimp only [nf_rep1, nf_rep0, List.set_cons_zero, List.set_cons_succ, List.take_succ_cons, List.take_zero, List.drop_succ_cons, List.drop_zero, List.cons_append, List.nil_append]
  refine v_iconst K (0) dX6_renew_47 (by decide) ?_
  refine v_istore_n K dX6_renew_48 (by decide) ?_
  exact v_j (lp 0 (Nat.zero_le _) 0 _ _ rfl) rfl rfl rfl

theorem hd_X6_comesBack : yX6_comesBack.cls = RX6 ∧ yX6_comesBack.cls ≠ "java/lang/invoke/MethodHandle" ∧ yX6_comesBack.cls ≠ "java/lang/invoke/VarHandle" ∧ (parseMethodDescriptor yX6_comesBack.desc).map (fun d => d.parameters.length) = some 1 := by decide +kernel
set_option maxHeartbeats 4000000 in
set_option maxRecDepth 100000 in
theorem c_X6_comesBack (cI cB : ClassId) (B : Nat → Nat) (v : Sv) (I : Nat) (hI : I < v.2.2.1.length) : Ct cI cB yX6_comesBack wsX6_comesBack { frames := 4, cells := 0, slots := 0, locals := 90 } [.ref (B 0), .int (nI I)] [svM cI B v] (dv (bI (cbk v.2.2.1 I)) [svM cI B v]) := by
  refine ct_of (cc := cX6_comesBack) (maxL := 2) (ret := (some .boolean)) (by decide) rfl (Nat.le_of_ble_eq_true rfl) [(0, .ref (B 0)), (1, .int (nI I))] rfl ?_
  intro X hI hB K E
  subst hI
  subst hB
  have iX6 : ∀ w ∈ u_ws RX6 TX6 7, w ∈ wsX6_comesBack := by decide +kernel
  refine v_osv 0 rfl (fun T w => ?_)
  try dsimp only [nf_rep1, nf_rep0, List.set_cons_zero, List.set_cons_succ, List.take_succ_cons, List.take_zero, List.drop_succ_cons, List.drop_zero, List.cons_append, List.nil_append]
  refine v_aload_n K dX6_comesBack_0 rfl ?_
  refine v_get K 0 rfl hasF_c rfl iX6 2 (by decide) rfl (by decide +kernel) rfl dX6_comesBack_1 ?_
  refine v_iload_n K dX6_comesBack_4 rfl ?_
  refine v_callVi K [3] (c_X4_lowestLike (XI X) (XB X) _ _ _ _ _ _ _ _ _ ?hc5_0) rfl gX6_comesBack_X4_lowestLike rfl rfl hd_X4_lowestLike ⟨rfl, rfl⟩ ⟨by decide, by decide⟩ 3 rfl rowsF rfl (by decide) (Nat.le_of_ble_eq_true rfl) ⟨Nat.zero_le _, Nat.zero_le _⟩ rfl dX6_comesBack_5 ?_
  case hc5_0 => exact hI
  try dsimp only [nf_rep1, nf_rep0, List.set_cons_zero, List.set_cons_succ, List.take_succ_cons, List.take_zero, List.drop_succ_cons, List.drop_zero, List.cons_append, List.nil_append]
  refine v_iload_n K dX6_comesBack_8 rfl ?_
  refine v_ic_ne K 16 dX6_comesBack_9 (by decide) (fun c9 => ?_) (fun c9 => ?_)
  · refine v_iconst K (0) dX6_comesBack_16 (by decide) ?_
    refine v_csv  0 rfl ?_
    refine v_zret K E dX6_comesBack_17 (by first | exact Or.inl rfl | exact Or.inr rfl | exact bI_01 _) ?_ rfl
    exact ⟨by unfold cbk; rw [decide_eq_false c9] <;> rfl, rfl⟩
  · refine v_iconst K (1) dX6_comesBack_12 (by decide) ?_
    refine v_goto K 17 dX6_comesBack_13 (by decide) ?_
    refine v_csv  0 rfl ?_
    refine v_zret K E dX6_comesBack_17 (by first | exact Or.inl rfl | exact Or.inr rfl | exact bI_01 _) ?_ rfl
    exact ⟨by unfold cbk; rw [decide_eq_true c9] <;> rfl, rfl⟩

theorem hd_X6_comingBack : yX6_comingBack.cls = RX6 ∧ yX6_comingBack.cls ≠ "java/lang/invoke/MethodHandle" ∧ yX6_comingBack.cls ≠ "java/lang/invoke/VarHandle" ∧ (parseMethodDescriptor yX6_comingBack.desc).map (fun d => d.parameters.length) = some 0 := by decide +kernel
set_option maxHeartbeats 4000000 in
set_option maxRecDepth 100000 in
theorem c_X6_comingBack (cI cB : ClassId) (B : Nat → Nat) (v : Sv)   : Ct cI cB yX6_comingBack wsX6_comingBack { frames := 5, cells := 0, slots := 0, locals := 111 } [.ref (B 0)] [svM cI B v] (dv (nI (cntR (cbk v.2.2.1) v.2.2.1.length)) [svM cI B v]) := by
  refine ct_of (cc := cX6_comingBack) (maxL := 3) (ret := (some .int)) (by decide) rfl (Nat.le_of_ble_eq_true rfl) [(0, .ref (B 0))] rfl ?_
  intro X hI hB K E
  subst hI
  subst hB
  have iX6 : ∀ w ∈ u_ws RX6 TX6 7, w ∈ wsX6_comingBack := by decide +kernel
  refine v_osv 0 rfl (fun T w => ?_)
  try dsimp only [nf_rep1, nf_rep0, List.set_cons_zero, List.set_cons_succ, List.take_succ_cons, List.take_zero, List.drop_succ_cons, List.drop_zero, List.cons_append, List.nil_append]
  refine v_rowsrl 3 rfl (fun hE => ?_)
  obtain ⟨C0, hC0⟩ := hE
  have hN := rl_N hC0
  refine v_csv  0 rfl ?_
  have lp : ∀ k, k ≤ v.2.2.1.length → ∀ (x n : Int32), x = nI k → n = nI (cntR (cbk v.2.2.1) k) → V X 0 0 4 [(0, .ref (B 0)), (1, .int n), (2, .int x)] [] [svM (XI X) B v] := by
    refine loop_up v.2.2.1.length ?_
    intro k hk ih x n hx hn
    subst hx
    subst hn
    refine v_iload_n K dX6_comingBack_4 rfl ?_
    refine v_osv 0 rfl (fun T w => ?_)
    try dsimp only [nf_rep1, nf_rep0, List.set_cons_zero, List.set_cons_succ, List.take_succ_cons, List.take_zero, List.drop_succ_cons, List.drop_zero, List.cons_append, List.nil_append]
    refine v_aload_n K dX6_comingBack_5 rfl ?_
    refine v_get K 0 rfl hasF_c rfl iX6 2 (by decide) rfl (by decide +kernel) rfl dX6_comingBack_6 ?_
    refine v_callVi K [3] (c_X4_lines (XI X) (XB X) _ _ _ _ _ _ _ _ ) rfl gX6_comingBack_X4_lines rfl rfl hd_X4_lines ⟨rfl, rfl⟩ ⟨by decide, by decide⟩ 3 rfl rowsF rfl (by decide) (Nat.le_of_ble_eq_true rfl) ⟨Nat.zero_le _, Nat.zero_le _⟩ rfl dX6_comingBack_9 ?_
    try dsimp only [nf_rep1, nf_rep0, List.set_cons_zero, List.set_cons_succ, List.take_succ_cons, List.take_zero, List.drop_succ_cons, List.drop_zero, List.cons_append, List.nil_append]
    refine v_ic_ge K 32 dX6_comingBack_12 (by decide) (fun c12 => ?_) (fun c12 => ?_)
    · refine v_csv  0 rfl ?_
      refine v_iload_n K dX6_comingBack_32 rfl ?_
      refine v_iret K E dX6_comingBack_33 ?_ rfl
      exact ⟨by rw [up_end rfl hN hk c12] <;> rfl, rfl⟩
    · have hlt := up_lt rfl hN hk c12
      refine v_csv  0 rfl ?_
      refine v_aload_n K dX6_comingBack_15 rfl ?_
      refine v_iload_n K dX6_comingBack_16 rfl ?_
      refine v_callVi K [0] (c_X6_comesBack (XI X) (XB X) _ _ _ ?hc17_0) rfl gX6_comingBack_X6_comesBack rfl rfl hd_X6_comesBack ⟨rfl, rfl⟩ ⟨by decide, by decide⟩ 0 rfl svF rfl (by decide) (Nat.le_of_ble_eq_true rfl) ⟨Nat.zero_le _, Nat.zero_le _⟩ rfl dX6_comingBack_17 ?_
      case hc17_0 => exact hlt
      refine v_if_eq K 26 dX6_comingBack_20 (by decide) (fun c20 => ?_) (fun c20 => ?_)
      · refine v_iinc K dX6_comingBack_26 rfl (by decide) iinc_1 ?_
        refine v_goto K 4 dX6_comingBack_29 (by decide) ?_
        exact v_j (ih hlt _ _ (nI_1 k) (by rw [cntR_f (p := (cbk v.2.2.1)) (bI_0 c20)])) rfl rfl rfl
      · refine v_iinc K dX6_comingBack_23 rfl (by decide) iinc_1 ?_
        refine v_iinc K dX6_comingBack_26 rfl (by decide) iinc_1 ?_
        refine v_goto K 4 dX6_comingBack_29 (by decide) ?_
        exact v_j (ih hlt _ _ (nI_1 k) (by rw [cntR_t (p := (cbk v.2.2.1)) (bI_1 c20)]; exact nI_1 _)) rfl rfl rfl
  refine v_iconst K (0) dX6_comingBack_0 (by decide) ?_
  refine v_istore_n K dX6_comingBack_1 (by decide) ?_
  refine v_iconst K (0) dX6_comingBack_2 (by decide) ?_
  refine v_istore_n K dX6_comingBack_3 (by decide) ?_
  exact v_j (lp 0 (Nat.zero_le _) 0 0 rfl rfl) rfl rfl rfl

theorem hd_X6_collisions : yX6_collisions.cls = RX6 ∧ yX6_collisions.cls ≠ "java/lang/invoke/MethodHandle" ∧ yX6_collisions.cls ≠ "java/lang/invoke/VarHandle" ∧ (parseMethodDescriptor yX6_collisions.desc).map (fun d => d.parameters.length) = some 0 := by decide +kernel
set_option maxHeartbeats 4000000 in
set_option maxRecDepth 100000 in
theorem c_X6_collisions (cI cB : ClassId) (B : Nat → Nat) (v : Sv)   : Ct cI cB yX6_collisions wsX6_collisions { frames := 4, cells := 0, slots := 0, locals := 91 } [.ref (B 0)] [svM cI B v] (dv (nI (cntR (col v.2.2.1) v.2.2.1.length)) [svM cI B v]) := by
  refine ct_of (cc := cX6_collisions) (maxL := 3) (ret := (some .int)) (by decide) rfl (Nat.le_of_ble_eq_true rfl) [(0, .ref (B 0))] rfl ?_
  intro X hI hB K E
  subst hI
  subst hB
  have iX6 : ∀ w ∈ u_ws RX6 TX6 7, w ∈ wsX6_collisions := by decide +kernel
  refine v_osv 0 rfl (fun T w => ?_)
  try dsimp only [nf_rep1, nf_rep0, List.set_cons_zero, List.set_cons_succ, List.take_succ_cons, List.take_zero, List.drop_succ_cons, List.drop_zero, List.cons_append, List.nil_append]
  refine v_rowsrl 3 rfl (fun hE => ?_)
  obtain ⟨C0, hC0⟩ := hE
  have hN := rl_N hC0
  have lp : ∀ k, k ≤ v.2.2.1.length → ∀ (x n : Int32), x = nI k → n = nI (cntR (col v.2.2.1) k) → V X 0 0 4 [(0, .ref (B 0)), (1, .int n), (2, .int x)] [] [cM (B 0) (.inr (6, [.ref (B 1), .ref (B 6), .ref (B 11), .ref (B 16), .ref (B 18), .ref (B 20), .ref (B 29)])), rowsM (XI X) (B 1) (B 2) (B 3) (B 4) (B 5) 20 12 v.1, rowsM (XI X) (B 6) (B 7) (B 8) (B 9) (B 10) 20 12 v.2.1, rowsM (XI X) (B 11) (B 12) (B 13) (B 14) (B 15) 20 25 v.2.2.1, rowM (XI X) (B 16) (B 17) 20 v.2.2.2.1, rowM (XI X) (B 18) (B 19) 30 v.2.2.2.2, spM (XI X) (fun n => B (20 + n)) T, rowM (XI X) (B 29) (B 30) 12 w] := by
    refine loop_up v.2.2.1.length ?_
    intro k hk ih x n hx hn
    subst hx
    subst hn
    refine v_iload_n K dX6_collisions_4 rfl ?_
    refine v_aload_n K dX6_collisions_5 rfl ?_
    refine v_get K 0 rfl hasF_c rfl iX6 2 (by decide) rfl (by decide +kernel) rfl dX6_collisions_6 ?_
    refine v_callVi K [3] (c_X4_lines (XI X) (XB X) _ _ _ _ _ _ _ _ ) rfl gX6_collisions_X4_lines rfl rfl hd_X4_lines ⟨rfl, rfl⟩ ⟨by decide, by decide⟩ 3 rfl rowsF rfl (by decide) (Nat.le_of_ble_eq_true rfl) ⟨Nat.zero_le _, Nat.zero_le _⟩ rfl dX6_collisions_9 ?_
    try dsimp only [nf_rep1, nf_rep0, List.set_cons_zero, List.set_cons_succ, List.take_succ_cons, List.take_zero, List.drop_succ_cons, List.drop_zero, List.cons_append, List.nil_append]
    refine v_ic_ge K 36 dX6_collisions_12 (by decide) (fun c12 => ?_) (fun c12 => ?_)
    · refine v_csv  0 rfl ?_
      refine v_iload_n K dX6_collisions_36 rfl ?_
      refine v_iret K E dX6_collisions_37 ?_ rfl
      exact ⟨by rw [up_end rfl hN hk c12] <;> rfl, rfl⟩
    · have hlt := up_lt rfl hN hk c12
      refine v_aload_n K dX6_collisions_15 rfl ?_
      refine v_get K 0 rfl hasF_c rfl iX6 2 (by decide) rfl (by decide +kernel) rfl dX6_collisions_16 ?_
      refine v_iload_n K dX6_collisions_19 rfl ?_
      refine v_callVi K [3] (c_X4_countLike (XI X) (XB X) _ _ _ _ _ _ _ _ _ ?hc20_0) rfl gX6_collisions_X4_countLike rfl rfl hd_X4_countLike ⟨rfl, rfl⟩ ⟨by decide, by decide⟩ 3 rfl rowsF rfl (by decide) (Nat.le_of_ble_eq_true rfl) ⟨Nat.zero_le _, Nat.zero_le _⟩ rfl dX6_collisions_20 ?_
      case hc20_0 => exact hlt
      try dsimp only [nf_rep1, nf_rep0, List.set_cons_zero, List.set_cons_succ, List.take_succ_cons, List.take_zero, List.drop_succ_cons, List.drop_zero, List.cons_append, List.nil_append]
      refine v_iconst K (1) dX6_collisions_23 (by decide) ?_
      refine v_ic_le K 30 dX6_collisions_24 (by decide) (fun c24 => ?_) (fun c24 => ?_)
      · refine v_iinc K dX6_collisions_30 rfl (by decide) iinc_1 ?_
        refine v_goto K 4 dX6_collisions_33 (by decide) ?_
        exact v_j (ih hlt _ _ (nI_1 k) (by rw [cntR_f (p := (col v.2.2.1)) (decide_eq_false (fun z => col_le z (Nat.lt_of_le_of_lt cnt_le hN) c24))])) rfl rfl rfl
      · refine v_iinc K dX6_collisions_27 rfl (by decide) iinc_1 ?_
        refine v_iinc K dX6_collisions_30 rfl (by decide) iinc_1 ?_
        refine v_goto K 4 dX6_collisions_33 (by decide) ?_
        exact v_j (ih hlt _ _ (nI_1 k) (by rw [cntR_t (p := (col v.2.2.1)) (decide_eq_true (col_gt (Nat.lt_of_le_of_lt cnt_le hN) c24))]; exact nI_1 _)) rfl rfl rfl
  refine v_iconst K (0) dX6_collisions_0 (by decide) ?_
  refine v_istore_n K dX6_collisions_1 (by decide) ?_
  refine v_iconst K (0) dX6_collisions_2 (by decide) ?_
  refine v_istore_n K dX6_collisions_3 (by decide) ?_
  exact v_j (lp 0 (Nat.zero_le _) 0 0 rfl rfl) rfl rfl rfl

theorem hd_X6_unusedRules : yX6_unusedRules.cls = RX6 ∧ yX6_unusedRules.cls ≠ "java/lang/invoke/MethodHandle" ∧ yX6_unusedRules.cls ≠ "java/lang/invoke/VarHandle" ∧ (parseMethodDescriptor yX6_unusedRules.desc).map (fun d => d.parameters.length) = some 0 := by decide +kernel
set_option maxHeartbeats 4000000 in
set_option maxRecDepth 100000 in
theorem c_X6_unusedRules (cI cB : ClassId) (B : Nat → Nat) (v : Sv)   : Ct cI cB yX6_unusedRules wsX6_unusedRules { frames := 1, cells := 0, slots := 0, locals := 21 } [.ref (B 0)] [svM cI B v] (dv (nI (cntR (unu v.2.2.2.2) v.2.2.2.2.length)) [svM cI B v]) := by
  refine ct_of (cc := cX6_unusedRules) (maxL := 3) (ret := (some .int)) (by decide) rfl (Nat.le_of_ble_eq_true rfl) [(0, .ref (B 0))] rfl ?_
  intro X hI hB K E
  subst hI
  subst hB
  have iX6 : ∀ w ∈ u_ws RX6 TX6 7, w ∈ wsX6_unusedRules := by decide +kernel
  refine v_osv 0 rfl (fun T w => ?_)
  try dsimp only [nf_rep1, nf_rep0, List.set_cons_zero, List.set_cons_succ, List.take_succ_cons, List.take_zero, List.drop_succ_cons, List.drop_zero, List.cons_append, List.nil_append]
  refine v_rowlen 5 rfl (fun hE => ?_)
  have hN := hE
  have lp : ∀ k, k ≤ v.2.2.2.2.length → ∀ (x n : Int32), x = nI k → n = nI (cntR (unu v.2.2.2.2) k) → V X 0 0 4 [(0, .ref (B 0)), (1, .int n), (2, .int x)] [] [cM (B 0) (.inr (6, [.ref (B 1), .ref (B 6), .ref (B 11), .ref (B 16), .ref (B 18), .ref (B 20), .ref (B 29)])), rowsM (XI X) (B 1) (B 2) (B 3) (B 4) (B 5) 20 12 v.1, rowsM (XI X) (B 6) (B 7) (B 8) (B 9) (B 10) 20 12 v.2.1, rowsM (XI X) (B 11) (B 12) (B 13) (B 14) (B 15) 20 25 v.2.2.1, rowM (XI X) (B 16) (B 17) 20 v.2.2.2.1, rowM (XI X) (B 18) (B 19) 30 v.2.2.2.2, spM (XI X) (fun n => B (20 + n)) T, rowM (XI X) (B 29) (B 30) 12 w] := by
    refine loop_up v.2.2.2.2.length ?_
    intro k hk ih x n hx hn
    subst hx
    subst hn
    refine v_iload_n K dX6_unusedRules_4 rfl ?_
    refine v_aload_n K dX6_unusedRules_5 rfl ?_
    refine v_get K 0 rfl hasF_c rfl iX6 4 (by decide) rfl (by decide +kernel) rfl dX6_unusedRules_6 ?_
    refine v_callVi K [5] (c_X3_size (XI X) (XB X) _ _ _ _ ) rfl gX6_unusedRules_X3_size rfl rfl hd_X3_size ⟨rfl, rfl⟩ ⟨by decide, by decide⟩ 5 rfl rowF rfl (by decide) (Nat.le_of_ble_eq_true rfl) ⟨Nat.zero_le _, Nat.zero_le _⟩ rfl dX6_unusedRules_9 ?_
    try dsimp only [nf_rep1, nf_rep0, List.set_cons_zero, List.set_cons_succ, List.take_succ_cons, List.take_zero, List.drop_succ_cons, List.drop_zero, List.cons_append, List.nil_append]
    refine v_ic_ge K 35 dX6_unusedRules_12 (by decide) (fun c12 => ?_) (fun c12 => ?_)
    · refine v_csv  0 rfl ?_
      refine v_iload_n K dX6_unusedRules_35 rfl ?_
      refine v_iret K E dX6_unusedRules_36 ?_ rfl
      exact ⟨by rw [up_end rfl hN hk c12] <;> rfl, rfl⟩
    · have hlt := up_lt rfl hN hk c12
      refine v_aload_n K dX6_unusedRules_15 rfl ?_
      refine v_get K 0 rfl hasF_c rfl iX6 4 (by decide) rfl (by decide +kernel) rfl dX6_unusedRules_16 ?_
      refine v_iload_n K dX6_unusedRules_19 rfl ?_
      refine v_callVi K [5] (c_X3_get (XI X) (XB X) _ _ _ _ _ ) rfl gX6_unusedRules_X3_get rfl rfl hd_X3_get ⟨rfl, rfl⟩ ⟨by decide, by decide⟩ 5 rfl rowF rfl (by decide) (Nat.le_of_ble_eq_true rfl) ⟨Nat.zero_le _, Nat.zero_le _⟩ rfl dX6_unusedRules_20 ?_
      try dsimp only [nf_rep1, nf_rep0, List.set_cons_zero, List.set_cons_succ, List.take_succ_cons, List.take_zero, List.drop_succ_cons, List.drop_zero, List.cons_append, List.nil_append]
      rw [gt_n (by omega)]
      refine v_if_ne K 29 dX6_unusedRules_23 (by decide) (fun c23 => ?_) (fun c23 => ?_)
      · refine v_iinc K dX6_unusedRules_29 rfl (by decide) iinc_1 ?_
        refine v_goto K 4 dX6_unusedRules_32 (by decide) ?_
        exact v_j (ih hlt _ _ (nI_1 k) (by rw [cntR_f (p := (unu v.2.2.2.2)) (decide_eq_false c23)])) rfl rfl rfl
      · refine v_iinc K dX6_unusedRules_26 rfl (by decide) iinc_1 ?_
        refine v_iinc K dX6_unusedRules_29 rfl (by decide) iinc_1 ?_
        refine v_goto K 4 dX6_unusedRules_32 (by decide) ?_
        exact v_j (ih hlt _ _ (nI_1 k) (by rw [cntR_t (p := (unu v.2.2.2.2)) (decide_eq_true c23)]; exact nI_1 _)) rfl rfl rfl
  refine v_iconst K (0) dX6_unusedRules_0 (by decide) ?_
  refine v_istore_n K dX6_unusedRules_1 (by decide) ?_
  refine v_iconst K (0) dX6_unusedRules_2 (by decide) ?_
  refine v_istore_n K dX6_unusedRules_3 (by decide) ?_
  exact v_j (lp 0 (Nat.zero_le _) 0 0 rfl rfl) rfl rfl rfl

theorem hd_X6_differences : yX6_differences.cls = RX6 ∧ yX6_differences.cls ≠ "java/lang/invoke/MethodHandle" ∧ yX6_differences.cls ≠ "java/lang/invoke/VarHandle" ∧ (parseMethodDescriptor yX6_differences.desc).map (fun d => d.parameters.length) = some 1 := by decide +kernel
set_option maxHeartbeats 4000000 in
set_option maxRecDepth 100000 in
theorem c_X6_differences (cI cB : ClassId) (B : Nat → Nat) (v : Sv) (B2 : Nat → Nat) (v2 : Sv) (hE2 : v.2.2.1.length = v2.2.2.1.length) : Ct cI cB yX6_differences wsX6_differences { frames := 3, cells := 0, slots := 0, locals := 68 } [.ref (B 0), .ref (B2 0)] [svM cI B v, svM cI B2 v2] (dv (nI (cntR (dif v.2.2.1 v2.2.2.1) v.2.2.1.length)) [svM cI B v, svM cI B2 v2]) := by
  refine ct_of (cc := cX6_differences) (maxL := 4) (ret := (some .int)) (by decide) rfl (Nat.le_of_ble_eq_true rfl) [(0, .ref (B 0)), (1, .ref (B2 0))] rfl ?_
  intro X hI hB K E
  subst hI
  subst hB
  have iX6 : ∀ w ∈ u_ws RX6 TX6 7, w ∈ wsX6_differences := by decide +kernel
  refine v_osv 0 rfl (fun T w => ?_)
  try dsimp only [nf_rep1, nf_rep0, List.set_cons_zero, List.set_cons_succ, List.take_succ_cons, List.take_zero, List.drop_succ_cons, List.drop_zero, List.cons_append, List.nil_append]
  refine v_osv 8 rfl (fun T2 w2 => ?_)
  try dsimp only [nf_rep1, nf_rep0, List.set_cons_zero, List.set_cons_succ, List.take_succ_cons, List.take_zero, List.drop_succ_cons, List.drop_zero, List.cons_append, List.nil_append]
  refine v_rowsrl 3 rfl (fun hE => ?_)
  obtain ⟨C0, hC0⟩ := hE
  have hN := rl_N hC0
  have lp : ∀ k, k ≤ v.2.2.1.length → ∀ (x n : Int32), x = nI k → n = nI (cntR (dif v.2.2.1 v2.2.2.1) k) → V X 0 0 4 [(0, .ref (B 0)), (1, .ref (B2 0)), (2, .int n), (3, .int x)] [] ([cM (B 0) (.inr (6, [.ref (B 1), .ref (B 6), .ref (B 11), .ref (B 16), .ref (B 18), .ref (B 20), .ref (B 29)])), rowsM (XI X) (B 1) (B 2) (B 3) (B 4) (B 5) 20 12 v.1, rowsM (XI X) (B 6) (B 7) (B 8) (B 9) (B 10) 20 12 v.2.1, rowsM (XI X) (B 11) (B 12) (B 13) (B 14) (B 15) 20 25 v.2.2.1, rowM (XI X) (B 16) (B 17) 20 v.2.2.2.1, rowM (XI X) (B 18) (B 19) 30 v.2.2.2.2, spM (XI X) (fun n => B (20 + n)) T, rowM (XI X) (B 29) (B 30) 12 w] ++ [cM (B2 0) (.inr (6, [.ref (B2 1), .ref (B2 6), .ref (B2 11), .ref (B2 16), .ref (B2 18), .ref (B2 20), .ref (B2 29)])), rowsM (XI X) (B2 1) (B2 2) (B2 3) (B2 4) (B2 5) 20 12 v2.1, rowsM (XI X) (B2 6) (B2 7) (B2 8) (B2 9) (B2 10) 20 12 v2.2.1, rowsM (XI X) (B2 11) (B2 12) (B2 13) (B2 14) (B2 15) 20 25 v2.2.2.1, rowM (XI X) (B2 16) (B2 17) 20 v2.2.2.2.1, rowM (XI X) (B2 18) (B2 19) 30 v2.2.2.2.2, spM (XI X) (fun n => B2 (20 + n)) T2, rowM (XI X) (B2 29) (B2 30) 12 w2]) := by
    refine loop_up v.2.2.1.length ?_
    intro k hk ih x n hx hn
    subst hx
    subst hn
    refine v_iload_n K dX6_differences_4 rfl ?_
    refine v_aload_n K dX6_differences_5 rfl ?_
    refine v_get K 0 rfl hasF_c rfl iX6 2 (by decide) rfl (by decide +kernel) rfl dX6_differences_6 ?_
    refine v_callVi K [3] (c_X4_lines (XI X) (XB X) _ _ _ _ _ _ _ _ ) rfl gX6_differences_X4_lines rfl rfl hd_X4_lines ⟨rfl, rfl⟩ ⟨by decide, by decide⟩ 3 rfl rowsF rfl (by decide) (Nat.le_of_ble_eq_true rfl) ⟨Nat.zero_le _, Nat.zero_le _⟩ rfl dX6_differences_9 ?_
    try dsimp only [nf_rep1, nf_rep0, List.set_cons_zero, List.set_cons_succ, List.take_succ_cons, List.take_zero, List.drop_succ_cons, List.drop_zero, List.cons_append, List.nil_append]
    refine v_ic_ge K 40 dX6_differences_12 (by decide) (fun c12 => ?_) (fun c12 => ?_)
    · refine v_csv  0 rfl ?_
      refine v_csv  1 rfl ?_
      refine v_iload_n K dX6_differences_40 rfl ?_
      refine v_iret K E dX6_differences_41 ?_ rfl
      exact ⟨by rw [up_end rfl hN hk c12] <;> rfl, rfl⟩
    · have hlt := up_lt rfl hN hk c12
      refine v_aload_n K dX6_differences_15 rfl ?_
      refine v_get K 0 rfl hasF_c rfl iX6 2 (by decide) rfl (by decide +kernel) rfl dX6_differences_16 ?_
      refine v_iload_n K dX6_differences_19 rfl ?_
      refine v_aload_n K dX6_differences_20 rfl ?_
      refine v_get K 8 rfl hasF_c rfl iX6 2 (by decide) rfl (by decide +kernel) rfl dX6_differences_21 ?_
      refine v_iload_n K dX6_differences_24 rfl ?_
      refine v_callVi K [3, 11] (c_X4_isLike_ (XI X) (XB X) _ _ _ _ _ _ _ _ _ _ _ _ _ _ _ _ _ _ ?hc25_0 ?hc25_1) rfl gX6_differences_X4_isLike_ rfl rfl hd_X4_isLike_ ⟨rfl, rfl⟩ ⟨by decide, by decide⟩ 3 rfl rowsF rfl (by decide) (Nat.le_of_ble_eq_true rfl) ⟨Nat.zero_le _, Nat.zero_le _⟩ rfl dX6_differences_25 ?_
      case hc25_0 => exact hlt
      case hc25_1 => omega
      try dsimp only [nf_rep1, nf_rep0, List.set_cons_zero, List.set_cons_succ, List.take_succ_cons, List.take_zero, List.drop_succ_cons, List.drop_zero, List.cons_append, List.nil_append]
      refine v_if_ne K 34 dX6_differences_28 (by decide) (fun c28 => ?_) (fun c28 => ?_)
      · refine v_iinc K dX6_differences_34 rfl (by decide) iinc_1 ?_
        refine v_goto K 4 dX6_differences_37 (by decide) ?_
        exact v_j (ih hlt _ _ (nI_1 k) (by rw [cntR_f (p := (dif v.2.2.1 v2.2.2.1)) (by unfold dif; rw [bI_1 c28]; rfl)])) rfl rfl rfl
      · refine v_iinc K dX6_differences_31 rfl (by decide) iinc_1 ?_
        refine v_iinc K dX6_differences_34 rfl (by decide) iinc_1 ?_
        refine v_goto K 4 dX6_differences_37 (by decide) ?_
        exact v_j (ih hlt _ _ (nI_1 k) (by rw [cntR_t (p := (dif v.2.2.1 v2.2.2.1)) (by unfold dif; rw [bI_0 c28]; rfl)]; exact nI_1 _)) rfl rfl rfl
  refine v_iconst K (0) dX6_differences_0 (by decide) ?_
  refine v_istore_n K dX6_differences_1 (by decide) ?_
  refine v_iconst K (0) dX6_differences_2 (by decide) ?_
  refine v_istore_n K dX6_differences_3 (by decide) ?_
  exact v_j (lp 0 (Nat.zero_le _) 0 0 rfl rfl) rfl rfl rfl
