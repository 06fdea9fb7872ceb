set_option maxHeartbeats 4000000 in
set_option maxRecDepth 100000 in
theorem c_X8_readsEntry_f (cI cB : ClassId) (m : Nat → Nat) (hl it sz sl ut ol tw tm mm rl : Int32) (ts : List Int32) (P : Nat) (v : Rw) (hP : P ≤ ts.length) : Ct cI cB yX8_readsEntry wsX8_readsEntry { frames := 3, cells := 0, slots := 0, locals := 69 } [.ref (m 0), .int (bI false)] [moM m hl it sz sl ut ol (nI ts.length) (nI P) tw tm mm rl, arL cI (m 12) 60 ts] (dv (bI (tEntry ts (P, v)).1) [moM m hl it sz sl ut ol (nI ts.length) (nI (tEntry ts (P, v)).2.1) tw tm mm rl, arL cI (m 12) 60 ts]) := by
  refine ct_of (cc := cX8_readsEntry) (maxL := 6) (ret := (some .boolean)) (by decide) rfl (Nat.le_of_ble_eq_true rfl) [(0, .ref (m 0)), (1, .int (bI false))] rfl ?_
  intro X hI hB K E
  subst hI
  subst hB
  have iX8 : ∀ w ∈ u_ws RX8 TX8 28, w ∈ wsX8_readsEntry := by decide +kernel
  refine v_arlen 1 rfl (fun hX => ?_)
  have h60 := hX.1
  refine v_aload_n K dX8_readsEntry_0 rfl ?_
  refine v_get K 0 rfl hasF_c rfl iX8 19 (by decide) rfl (by decide +kernel) rfl dX8_readsEntry_1 ?_
  refine v_istore_n K dX8_readsEntry_4 (by decide) ?_
  refine v_aload_n K dX8_readsEntry_5 rfl ?_
  refine v_bipush K (58) dX8_readsEntry_6 (by decide) ?_
  refine v_callVi K [0, 1] (c_X8_takes (XI X) (XB X) _ _ _ _ _ _ _ _ _ _ _ _ _ _ ?hc8_0_1 ?hc8_1_1) rfl gX8_readsEntry_X8_takes rfl rfl hd_X8_takes ⟨rfl, rfl⟩ ⟨by decide, by decide⟩ 0 rfl hasF_c rfl (by decide) (Nat.le_of_ble_eq_true rfl) ⟨Nat.zero_le _, Nat.zero_le _⟩ rfl dX8_readsEntry_8 ?_
  case hc8_0_1 => exact hP
  case hc8_1_1 => decide
  refine v_if_eq K 86 dX8_readsEntry_11 (by decide) (fun c11 => ?_) (fun c11 => ?_)
  · have h58 := of_decide_eq_false (bI_0 c11)
    rw [tkP_f h58]
    refine v_aload_n K dX8_readsEntry_86 rfl ?_
    refine v_bipush K (65) dX8_readsEntry_87 (by decide) ?_
    refine v_bipush K (90) dX8_readsEntry_89 (by decide) ?_
    refine v_callVi K [0, 1] (c_X8_isHere (XI X) (XB X) _ _ _ _ _ _ _ _ _ _ _ _ _ _ _ ?hc91_0_2 ?hc91_1_2) rfl gX8_readsEntry_X8_isHere rfl rfl hd_X8_isHere ⟨rfl, rfl⟩ ⟨by decide, by decide⟩ 0 rfl hasF_c rfl (by decide) (Nat.le_of_ble_eq_true rfl) ⟨Nat.zero_le _, Nat.zero_le _⟩ rfl dX8_readsEntry_91 ?_
    case hc91_0_2 => exact hP
    case hc91_1_2 => decide
    rw [isH_sm]
    refine v_if_eq K 161 dX8_readsEntry_94 (by decide) (fun c94 => ?_) (fun c94 => ?_)
    · have hcap := bI_0 c94
      refine v_aload_n K dX8_readsEntry_161 rfl ?_
      refine v_iconst K (4) dX8_readsEntry_162 (by decide) ?_
      refine v_callVi K [0, 1] (c_X8_passes (XI X) (XB X) _ _ _ _ _ _ _ _ _ _ _ _ _ 4 ?hc163_0_3 ?hc163_1_3) rfl gX8_readsEntry_X8_passes rfl rfl hd_X8_passes ⟨rfl, rfl⟩ ⟨by decide, by decide⟩ 0 rfl hasF_c rfl (by decide) (Nat.le_of_ble_eq_true rfl) ⟨Nat.zero_le _, Nat.zero_le _⟩ rfl dX8_readsEntry_163 ?_
      case hc163_0_3 => exact hP
      case hc163_1_3 => decide
      have hl4 := tlF_len 4 (ts.drop P)
      have htl := tl_le (m := 4) hP
      refine v_istore_n K dX8_readsEntry_166 (by decide) ?_
      refine v_iload_n K dX8_readsEntry_167 rfl ?_
      refine v_if_eq K 202 dX8_readsEntry_168 (by decide) (fun c168 => ?_) (fun c168 => ?_)
      · have hz := nI_z (by omega) c168
        refine v_iconst K (0) dX8_readsEntry_202 (by decide) ?_
        refine v_zret K E dX8_readsEntry_203 (by first | exact Or.inl rfl | exact Or.inr rfl | exact bI_01 _) ?_ rfl
        have e := tR_0 (v := v) h58 hcap hz
        exact ⟨by rw [e.1] <;> rfl, by rw [e.2] <;> rfl⟩
      · have h0 : ¬ (tlF 4 (ts.drop P)).length = 0 := fun z => c168 (congrArg nI z)
        refine v_aload_n K dX8_readsEntry_171 rfl ?_
        refine v_bipush K (61) dX8_readsEntry_172 (by decide) ?_
        refine v_callVi K [0, 1] (c_X8_takes (XI X) (XB X) _ _ _ _ _ _ _ _ _ _ _ _ _ _ ?hc174_0_4 ?hc174_1_4) rfl gX8_readsEntry_X8_takes rfl rfl hd_X8_takes ⟨rfl, rfl⟩ ⟨by decide, by decide⟩ 0 rfl hasF_c rfl (by decide) (Nat.le_of_ble_eq_true rfl) ⟨Nat.zero_le _, Nat.zero_le _⟩ rfl dX8_readsEntry_174 ?_
        case hc174_0_4 => exact htl
        case hc174_1_4 => decide
        refine v_if_eq K 202 dX8_readsEntry_177 (by decide) (fun c177 => ?_) (fun c177 => ?_)
        · have h61 := of_decide_eq_false (bI_0 c177)
          rw [tkP_f h61]
          refine v_iconst K (0) dX8_readsEntry_202 (by decide) ?_
          refine v_zret K E dX8_readsEntry_203 (by first | exact Or.inl rfl | exact Or.inr rfl | exact bI_01 _) ?_ rfl
          have e := tR_1 (v := v) h58 hcap h0 h61
          exact ⟨by rw [e.1] <;> rfl, by rw [e.2] <;> rfl⟩
        · have h61 := of_decide_eq_true (bI_1 c177)
          have hQ : (P + (tlF 4 (ts.drop P)).length + 1) ≤ ts.length := at_lt (ts := ts) (p := P + (tlF 4 (ts.drop P)).length) (by rw [h61]; decide)
          rw [tkP_t h61]
          have l231 : ∀ s2 : Int32, sndOk (ts.getD (P + (tlF 4 (ts.drop P)).length + 1) (-5)) = true → V X 0 0 231 [(0, .ref (m 0)), (1, .int (bI false)), (2, .int (nI P)), (3, .int (nI (tlF 4 (ts.drop P)).length))] [.int s2] [moM m hl it sz sl ut ol (nI ts.length) (nI (P + (tlF 4 (ts.drop P)).length + 1)) tw tm mm rl, arL (XI X) (m 12) 60 ts] := by
            intro s2 hok
            have hlt := snd_at hok
            have e := tR_3 (v := v) h58 hcap h0 h61 hok
            have l291 : V X 0 0 291 [(0, .ref (m 0)), (1, .int (bI false)), (2, .int (nI P)), (3, .int (nI (tlF 4 (ts.drop P)).length)), (4, .int s2), (5, .int (sdOf (ts.getD ((P + (tlF 4 (ts.drop P)).length + 1) + 1) (-5))))] [] [moM m hl it sz sl ut ol (nI ts.length) (nI (sdP ts ((P + (tlF 4 (ts.drop P)).length + 1) + 1))) tw tm mm rl, arL (XI X) (m 12) 60 ts] := by
              refine v_iload_n K dX8_readsEntry_291 rfl ?_
              refine v_if_eq K 305 dX8_readsEntry_292 (by decide) (fun c292 => ?_) (fun c292 => absurd c292 (fun z => z rfl))
              refine v_iconst K (1) dX8_readsEntry_305 (by decide) ?_
              refine v_zret K E dX8_readsEntry_306 (by first | exact Or.inl rfl | exact Or.inr rfl | exact bI_01 _) ?_ rfl
              exact ⟨by rw [e] <;> rfl, by rw [e] <;> rfl⟩
            have l270 : V X 0 0 270 [(0, .ref (m 0)), (1, .int (bI false)), (2, .int (nI P)), (3, .int (nI (tlF 4 (ts.drop P)).length)), (4, .int s2)] [.int (sdOf (ts.getD ((P + (tlF 4 (ts.drop P)).length + 1) + 1) (-5)))] [moM m hl it sz sl ut ol (nI ts.length) (nI ((P + (tlF 4 (ts.drop P)).length + 1) + 1)) tw tm mm rl, arL (XI X) (m 12) 60 ts] := by
              refine v_istore K dX8_readsEntry_270 (by decide) ?_
              refine v_aload_n K dX8_readsEntry_272 rfl ?_
              refine v_dup K dX8_readsEntry_273 rfl ?_
              refine v_get K 0 rfl hasF_c rfl iX8 19 (by decide) rfl (by decide +kernel) rfl dX8_readsEntry_274 ?_
              refine v_iload K dX8_readsEntry_277 rfl ?_
              refine v_if_le K 286 dX8_readsEntry_279 (by decide) (fun c279 => ?_) (fun c279 => ?_)
              · refine v_iconst K (0) dX8_readsEntry_286 (by decide) ?_
                refine v_iadd K dX8_readsEntry_287 ?_
                refine v_put K 0 rfl rfl iX8 tyX8 tyX8_ok nmX8 19 (by decide) rfl (by decide +kernel) rfl rfl (Nat.le_of_ble_eq_true rfl) dX8_readsEntry_288 ?_
                exact v_j l291 rfl rfl (by rw [sdP_0 c279, Int32.add_zero] <;> rfl)
              · refine v_iconst K (1) dX8_readsEntry_282 (by decide) ?_
                refine v_goto K 287 dX8_readsEntry_283 (by decide) ?_
                refine v_iadd K dX8_readsEntry_287 ?_
                refine v_put K 0 rfl rfl iX8 tyX8 tyX8_ok nmX8 19 (by decide) rfl (by decide +kernel) rfl rfl (Nat.le_of_ble_eq_true rfl) dX8_readsEntry_288 ?_
                exact v_j l291 rfl rfl (by rw [sdP_1 c279, nI_1] <;> rfl)
            refine v_istore K dX8_readsEntry_231 (by decide) ?_
            refine v_aload_n K dX8_readsEntry_233 rfl ?_
            refine v_dup K dX8_readsEntry_234 rfl ?_
            refine v_get K 0 rfl hasF_c rfl iX8 19 (by decide) rfl (by decide +kernel) rfl dX8_readsEntry_235 ?_
            refine v_iconst K (1) dX8_readsEntry_238 (by decide) ?_
            refine v_iadd K dX8_readsEntry_239 ?_
            refine v_put K 0 rfl rfl iX8 tyX8 tyX8_ok nmX8 19 (by decide) rfl (by decide +kernel) rfl rfl (Nat.le_of_ble_eq_true rfl) dX8_readsEntry_240 ?_
            rw [nI_1]
            refine v_aload_n K dX8_readsEntry_243 rfl ?_
            refine v_get K 0 rfl hasF_c rfl iX8 19 (by decide) rfl (by decide +kernel) rfl dX8_readsEntry_244 ?_
            refine v_aload_n K dX8_readsEntry_247 rfl ?_
            refine v_get K 0 rfl hasF_c rfl iX8 18 (by decide) rfl (by decide +kernel) rfl dX8_readsEntry_248 ?_
            refine v_ic_ge K 269 dX8_readsEntry_251 (by decide) (fun c251 => ?_) (fun c251 => ?_)
            · refine v_iconst K (0) dX8_readsEntry_269 (by decide) ?_
              have ho : ts.length ≤ (P + (tlF 4 (ts.drop P)).length + 1) + 1 := by rw [nI_leI (by omega) (by omega)] at c251; exact c251
              rw [gd_out ho] at l270
              exact v_j l270 rfl rfl rfl
            · have hl5 : (P + (tlF 4 (ts.drop P)).length + 1) + 1 < ts.length := nI_gt (by omega) (by omega) c251
              refine v_aload_n K dX8_readsEntry_254 rfl ?_
              refine v_get K 0 rfl hasF_c rfl iX8 17 (by decide) rfl (by decide +kernel) rfl dX8_readsEntry_255 ?_
              refine v_aload_n K dX8_readsEntry_258 rfl ?_
              refine v_get K 0 rfl hasF_c rfl iX8 19 (by decide) rfl (by decide +kernel) rfl dX8_readsEntry_259 ?_
              refine v_lald K 1 rfl ((P + (tlF 4 (ts.drop P)).length + 1) + 1) ?hx262_5 ?ix262_5 dX8_readsEntry_262 ?_
              case hx262_5 => exact rfl
              case ix262_5 => exact hl5
              refine v_callSi K [] (c_X8_sideOf (XI X) (XB X) _ ) rfl gX8_readsEntry_X8_sideOf rfl rfl hd_X8_sideOf ⟨rfl, rfl⟩ ⟨by decide, by decide⟩ (by decide) (Nat.le_of_ble_eq_true rfl) ⟨Nat.zero_le _, Nat.zero_le _⟩ rfl dX8_readsEntry_263 ?_
              refine v_goto K 270 dX8_readsEntry_266 (by decide) ?_
              exact v_j l270 rfl rfl rfl
          refine v_aload_n K dX8_readsEntry_180 rfl ?_
          refine v_bipush K (65) dX8_readsEntry_181 (by decide) ?_
          refine v_bipush K (90) dX8_readsEntry_183 (by decide) ?_
          refine v_callVi K [0, 1] (c_X8_isHere (XI X) (XB X) _ _ _ _ _ _ _ _ _ _ _ _ _ _ _ ?hc185_0_7 ?hc185_1_7) rfl gX8_readsEntry_X8_isHere rfl rfl hd_X8_isHere ⟨rfl, rfl⟩ ⟨by decide, by decide⟩ 0 rfl hasF_c rfl (by decide) (Nat.le_of_ble_eq_true rfl) ⟨Nat.zero_le _, Nat.zero_le _⟩ rfl dX8_readsEntry_185 ?_
          case hc185_0_7 => exact hQ
          case hc185_1_7 => decide
          rw [isH_sm]
          refine v_if_ne K 204 dX8_readsEntry_188 (by decide) (fun c188 => ?_) (fun c188 => ?_)
          · have hcc := bI_1 c188
            have hlt := snd_at (sok_c hcc)
            have hn95 := cpt_95 hcc
            refine v_aload_n K dX8_readsEntry_204 rfl ?_
            refine v_get K 0 rfl hasF_c rfl iX8 17 (by decide) rfl (by decide +kernel) rfl dX8_readsEntry_205 ?_
            refine v_aload_n K dX8_readsEntry_208 rfl ?_
            refine v_get K 0 rfl hasF_c rfl iX8 19 (by decide) rfl (by decide +kernel) rfl dX8_readsEntry_209 ?_
            refine v_lald K 1 rfl ((P + (tlF 4 (ts.drop P)).length + 1)) ?hx212_8 ?ix212_8 dX8_readsEntry_212 ?_
            case hx212_8 => exact rfl
            case ix212_8 => exact hlt
            refine v_bipush K (95) dX8_readsEntry_213 (by decide) ?_
            refine v_ic_ne K 222 dX8_readsEntry_215 (by decide) (fun c215 => ?_) (fun c215 => absurd c215 (hn95))
            refine v_aload_n K dX8_readsEntry_222 rfl ?_
            refine v_get K 0 rfl hasF_c rfl iX8 17 (by decide) rfl (by decide +kernel) rfl dX8_readsEntry_223 ?_
            refine v_aload_n K dX8_readsEntry_226 rfl ?_
            refine v_get K 0 rfl hasF_c rfl iX8 19 (by decide) rfl (by decide +kernel) rfl dX8_readsEntry_227 ?_
            refine v_lald K 1 rfl ((P + (tlF 4 (ts.drop P)).length + 1)) ?hx230_9 ?ix230_9 dX8_readsEntry_230 ?_
            case hx230_9 => exact rfl
            case ix230_9 => exact hlt
            exact v_j (l231 _ (sok_c hcc)) rfl rfl rfl
          · refine v_aload_n K dX8_readsEntry_191 rfl ?_
            refine v_bipush K (95) dX8_readsEntry_192 (by decide) ?_
            refine v_bipush K (95) dX8_readsEntry_194 (by decide) ?_
            refine v_callVi K [0, 1] (c_X8_isHere (XI X) (XB X) _ _ _ _ _ _ _ _ _ _ _ _ _ _ _ ?hc196_0_10 ?hc196_1_10) rfl gX8_readsEntry_X8_isHere rfl rfl hd_X8_isHere ⟨rfl, rfl⟩ ⟨by decide, by decide⟩ 0 rfl hasF_c rfl (by decide) (Nat.le_of_ble_eq_true rfl) ⟨Nat.zero_le _, Nat.zero_le _⟩ rfl dX8_readsEntry_196 ?_
            case hc196_0_10 => exact hQ
            case hc196_1_10 => decide
            rw [isH_eq]
            refine v_if_ne K 204 dX8_readsEntry_199 (by decide) (fun c199 => ?_) (fun c199 => ?_)
            · have h95 := of_decide_eq_true (bI_1 c199)
              have hlt := snd_at (sok_u h95)
              refine v_aload_n K dX8_readsEntry_204 rfl ?_
              refine v_get K 0 rfl hasF_c rfl iX8 17 (by decide) rfl (by decide +kernel) rfl dX8_readsEntry_205 ?_
              refine v_aload_n K dX8_readsEntry_208 rfl ?_
              refine v_get K 0 rfl hasF_c rfl iX8 19 (by decide) rfl (by decide +kernel) rfl dX8_readsEntry_209 ?_
              refine v_lald K 1 rfl ((P + (tlF 4 (ts.drop P)).length + 1)) ?hx212_11 ?ix212_11 dX8_readsEntry_212 ?_
              case hx212_11 => exact rfl
              case ix212_11 => exact hlt
              refine v_bipush K (95) dX8_readsEntry_213 (by decide) ?_
              refine v_ic_ne K 222 dX8_readsEntry_215 (by decide) (fun c215 => False.elim (c215 h95)) (fun c215 => ?_)
              refine v_iconst K (-1) dX8_readsEntry_218 (by decide) ?_
              refine v_goto K 231 dX8_readsEntry_219 (by decide) ?_
              exact v_j (l231 _ (sok_u h95)) rfl rfl rfl
            · refine v_iconst K (0) dX8_readsEntry_202 (by decide) ?_
              refine v_zret K E dX8_readsEntry_203 (by first | exact Or.inl rfl | exact Or.inr rfl | exact bI_01 _) ?_ rfl
              have e := tR_2 (v := v) h58 hcap h0 h61 (sok_n (bI_0 c188) (of_decide_eq_false (bI_0 c199)))
              exact ⟨by rw [e.1] <;> rfl, by rw [e.2] <;> rfl⟩
    · have hcap := bI_1 c94
      have hPl : P < ts.length := snd_at (sok_c hcap)
      have hP1 : P + 1 ≤ ts.length := hPl
      refine v_aload_n K dX8_readsEntry_97 rfl ?_
      refine v_dup K dX8_readsEntry_98 rfl ?_
      refine v_get K 0 rfl hasF_c rfl iX8 19 (by decide) rfl (by decide +kernel) rfl dX8_readsEntry_99 ?_
      refine v_iconst K (1) dX8_readsEntry_102 (by decide) ?_
      refine v_iadd K dX8_readsEntry_103 ?_
      refine v_put K 0 rfl rfl iX8 tyX8 tyX8_ok nmX8 19 (by decide) rfl (by decide +kernel) rfl rfl (Nat.le_of_ble_eq_true rfl) dX8_readsEntry_104 ?_
      rw [nI_1]
      refine v_aload_n K dX8_readsEntry_107 rfl ?_
      refine v_bipush K (61) dX8_readsEntry_108 (by decide) ?_
      refine v_callVi K [0, 1] (c_X8_takes (XI X) (XB X) _ _ _ _ _ _ _ _ _ _ _ _ _ _ ?hc110_0_12 ?hc110_1_12) rfl gX8_readsEntry_X8_takes rfl rfl hd_X8_takes ⟨rfl, rfl⟩ ⟨by decide, by decide⟩ 0 rfl hasF_c rfl (by decide) (Nat.le_of_ble_eq_true rfl) ⟨Nat.zero_le _, Nat.zero_le _⟩ rfl dX8_readsEntry_110 ?_
      case hc110_0_12 => exact hP1
      case hc110_1_12 => decide
      refine v_if_eq K 124 dX8_readsEntry_113 (by decide) (fun c113 => ?_) (fun c113 => ?_)
      · have h61 := of_decide_eq_false (bI_0 c113)
        rw [tkP_f h61]
        refine v_iconst K (0) dX8_readsEntry_124 (by decide) ?_
        refine v_istore_n K dX8_readsEntry_125 (by decide) ?_
        refine v_iload_n K dX8_readsEntry_126 rfl ?_
        refine v_if_le K 151 dX8_readsEntry_127 (by decide) (fun _ => ?_) (fun c => absurd (by decide) c)
        refine v_iload_n K dX8_readsEntry_151 rfl ?_
        refine v_if_le K 159 dX8_readsEntry_152 (by decide) (fun _ => ?_) (fun c => absurd (by decide) c)
        refine v_iconst K (0) dX8_readsEntry_159 (by decide) ?_
        refine v_zret K E dX8_readsEntry_160 (by first | exact Or.inl rfl | exact Or.inr rfl | exact bI_01 _) ?_ rfl
        have e := tS_0 (v := v) h58 hcap h61
        exact ⟨by rw [e.1] <;> rfl, by rw [e.2] <;> rfl⟩
      · have h61 := of_decide_eq_true (bI_1 c113)
        have hP2 : P + 2 ≤ ts.length := at_lt (ts := ts) (p := P + 1) (by rw [h61]; decide)
        rw [tkP_t h61]
        refine v_aload_n K dX8_readsEntry_116 rfl ?_
        refine v_iconst K (2) dX8_readsEntry_117 (by decide) ?_
        refine v_callVi K [0, 1] (c_X8_passes (XI X) (XB X) _ _ _ _ _ _ _ _ _ _ _ _ _ 2 ?hc118_0_13 ?hc118_1_13) rfl gX8_readsEntry_X8_passes rfl rfl hd_X8_passes ⟨rfl, rfl⟩ ⟨by decide, by decide⟩ 0 rfl hasF_c rfl (by decide) (Nat.le_of_ble_eq_true rfl) ⟨Nat.zero_le _, Nat.zero_le _⟩ rfl dX8_readsEntry_118 ?_
        case hc118_0_13 => exact hP2
        case hc118_1_13 => decide
        refine v_goto K 125 dX8_readsEntry_121 (by decide) ?_
        have hl2 := tlF_len 2 (ts.drop (P + 2))
        have htl := tl_le (m := 2) hP2
        by_cases h0 : (tlF 2 (ts.drop (P + 2))).length = 0
        · skip
          refine v_istore_n K dX8_readsEntry_125 (by decide) ?_
          refine v_iload_n K dX8_readsEntry_126 rfl ?_
          refine v_if_le K 151 dX8_readsEntry_127 (by decide) (fun c127 => ?_) (fun c127 => False.elim (c127 (by rw [h0]; decide)))
          refine v_iload_n K dX8_readsEntry_151 rfl ?_
          refine v_if_le K 159 dX8_readsEntry_152 (by decide) (fun c152 => ?_) (fun c152 => False.elim (c152 (by rw [h0]; decide)))
          refine v_iconst K (0) dX8_readsEntry_159 (by decide) ?_
          refine v_zret K E dX8_readsEntry_160 (by first | exact Or.inl rfl | exact Or.inr rfl | exact bI_01 _) ?_ rfl
          have e := tS_1 (v := v) h58 hcap h61 h0
          exact ⟨by rw [e.1] <;> rfl, by rw [e.2] <;> rfl⟩
        · skip
          have hpos : ¬ nI (tlF 2 (ts.drop (P + 2))).length ≤ 0 := nI_nle (Nat.pos_of_ne_zero h0) (by omega)
          have e := tS_2 (v := v) h58 hcap h61 h0
          refine v_istore_n K dX8_readsEntry_125 (by decide) ?_
          refine v_iload_n K dX8_readsEntry_126 rfl ?_
          refine v_if_le K 151 dX8_readsEntry_127 (by decide) (fun c127 => False.elim (hpos c127)) (fun c127 => ?_)
          refine v_iload_n K dX8_readsEntry_130 rfl ?_
          refine v_if_eq K 151 dX8_readsEntry_131 (by decide) (fun c131 => ?_) (fun c131 => absurd c131 (fun z => z rfl))
          refine v_iload_n K dX8_readsEntry_151 rfl ?_
          refine v_if_le K 159 dX8_readsEntry_152 (by decide) (fun c152 => False.elim (hpos c152)) (fun c152 => ?_)
          refine v_iconst K (1) dX8_readsEntry_155 (by decide) ?_
          refine v_goto K 160 dX8_readsEntry_156 (by decide) ?_
          refine v_zret K E dX8_readsEntry_160 (by first | exact Or.inl rfl | exact Or.inr rfl | exact bI_01 _) ?_ rfl
          exact ⟨by rw [e] <;> rfl, by rw [e] <;> rfl⟩
  · have h58 := of_decide_eq_true (bI_1 c11)
    have hPl : P < ts.length := at_lt (by rw [h58]; decide)
    have hP1 : P + 1 ≤ ts.length := hPl
    rw [tkP_t h58]
    refine v_aload_n K dX8_readsEntry_14 rfl ?_
    refine v_bipush K (12) dX8_readsEntry_15 (by decide) ?_
    refine v_callVi K [0, 1] (c_X8_passes (XI X) (XB X) _ _ _ _ _ _ _ _ _ _ _ _ _ 12 ?hc17_0_14 ?hc17_1_14) rfl gX8_readsEntry_X8_passes rfl rfl hd_X8_passes ⟨rfl, rfl⟩ ⟨by decide, by decide⟩ 0 rfl hasF_c rfl (by decide) (Nat.le_of_ble_eq_true rfl) ⟨Nat.zero_le _, Nat.zero_le _⟩ rfl dX8_readsEntry_17 ?_
    case hc17_0_14 => exact hP1
    case hc17_1_14 => decide
    refine v_istore_n K dX8_readsEntry_20 (by decide) ?_
    have hl12 := tlF_len 12 (ts.drop (P + 1))
    have htl := tl_le (m := 12) hP1
    by_cases h0 : (tlF 12 (ts.drop (P + 1))).length = 0
    · skip
      refine v_iload_n K dX8_readsEntry_21 rfl ?_
      refine v_if_le K 38 dX8_readsEntry_22 (by decide) (fun c22 => ?_) (fun c22 => False.elim (c22 (by rw [h0]; decide)))
      refine v_iload_n K dX8_readsEntry_38 rfl ?_
      refine v_if_le K 55 dX8_readsEntry_39 (by decide) (fun c39 => ?_) (fun c39 => False.elim (c39 (by rw [h0]; decide)))
      refine v_iconst K (0) dX8_readsEntry_55 (by decide) ?_
      refine v_istore K dX8_readsEntry_56 (by decide) ?_
      refine v_iload_n K dX8_readsEntry_58 rfl ?_
      refine v_if_le K 76 dX8_readsEntry_59 (by decide) (fun c59 => ?_) (fun c59 => False.elim (c59 (by rw [h0]; decide)))
      refine v_iload_n K dX8_readsEntry_76 rfl ?_
      refine v_if_le K 84 dX8_readsEntry_77 (by decide) (fun c77 => ?_) (fun c77 => False.elim (c77 (by rw [h0]; decide)))
      refine v_iconst K (0) dX8_readsEntry_84 (by decide) ?_
      refine v_zret K E dX8_readsEntry_85 (by first | exact Or.inl rfl | exact Or.inr rfl | exact bI_01 _) ?_ rfl
      have e := tW_0 (v := v) h58 h0
      exact ⟨by rw [e.1] <;> rfl, by rw [e.2] <;> rfl⟩
    · skip
      have hpos : ¬ nI (tlF 12 (ts.drop (P + 1))).length ≤ 0 := nI_nle (Nat.pos_of_ne_zero h0) (by omega)
      have l56 : ∀ (kd : Int32) (P2 : Nat), tEntry ts (P, v) = (true, (P2, 1, v.2.1, v.2.2.1, kd, (tlF 12 (ts.drop (P + 1))))) → V X 0 0 56 [(0, .ref (m 0)), (1, .int (bI false)), (2, .int (nI P)), (3, .int (nI (tlF 12 (ts.drop (P + 1))).length))] [.int kd] [moM m hl it sz sl ut ol (nI ts.length) (nI P2) tw tm mm rl, arL (XI X) (m 12) 60 ts] := by
        intro kd P2 e
        refine v_istore K dX8_readsEntry_56 (by decide) ?_
        refine v_iload_n K dX8_readsEntry_58 rfl ?_
        refine v_if_le K 76 dX8_readsEntry_59 (by decide) (fun c59 => False.elim (hpos c59)) (fun c59 => ?_)
        refine v_iload_n K dX8_readsEntry_62 rfl ?_
        refine v_if_eq K 76 dX8_readsEntry_63 (by decide) (fun c63 => ?_) (fun c63 => absurd c63 (fun z => z rfl))
        refine v_iload_n K dX8_readsEntry_76 rfl ?_
        refine v_if_le K 84 dX8_readsEntry_77 (by decide) (fun c77 => False.elim (hpos c77)) (fun c77 => ?_)
        refine v_iconst K (1) dX8_readsEntry_80 (by decide) ?_
        refine v_goto K 85 dX8_readsEntry_81 (by decide) ?_
        refine v_zret K E dX8_readsEntry_85 (by first | exact Or.inl rfl | exact Or.inr rfl | exact bI_01 _) ?_ rfl
        exact ⟨by rw [e] <;> rfl, by rw [e] <;> rfl⟩
      refine v_iload_n K dX8_readsEntry_21 rfl ?_
      refine v_if_le K 38 dX8_readsEntry_22 (by decide) (fun c22 => False.elim (hpos c22)) (fun c22 => ?_)
      refine v_aload_n K dX8_readsEntry_25 rfl ?_
      refine v_bipush K (33) dX8_readsEntry_26 (by decide) ?_
      refine v_callVi K [0, 1] (c_X8_takes (XI X) (XB X) _ _ _ _ _ _ _ _ _ _ _ _ _ _ ?hc28_0_15 ?hc28_1_15) rfl gX8_readsEntry_X8_takes rfl rfl hd_X8_takes ⟨rfl, rfl⟩ ⟨by decide, by decide⟩ 0 rfl hasF_c rfl (by decide) (Nat.le_of_ble_eq_true rfl) ⟨Nat.zero_le _, Nat.zero_le _⟩ rfl dX8_readsEntry_28 ?_
      case hc28_0_15 => exact htl
      case hc28_1_15 => decide
      refine v_if_eq K 38 dX8_readsEntry_31 (by decide) (fun c31 => ?_) (fun c31 => ?_)
      · refine v_iload_n K dX8_readsEntry_38 rfl ?_
        refine v_if_le K 55 dX8_readsEntry_39 (by decide) (fun c39 => False.elim (hpos c39)) (fun c39 => ?_)
        have h33 := of_decide_eq_false (bI_0 c31)
        rw [tkP_f h33]
        refine v_aload_n K dX8_readsEntry_42 rfl ?_
        refine v_bipush K (39) dX8_readsEntry_43 (by decide) ?_
        refine v_callVi K [0, 1] (c_X8_takes (XI X) (XB X) _ _ _ _ _ _ _ _ _ _ _ _ _ _ ?hc45_0_16 ?hc45_1_16) rfl gX8_readsEntry_X8_takes rfl rfl hd_X8_takes ⟨rfl, rfl⟩ ⟨by decide, by decide⟩ 0 rfl hasF_c rfl (by decide) (Nat.le_of_ble_eq_true rfl) ⟨Nat.zero_le _, Nat.zero_le _⟩ rfl dX8_readsEntry_45 ?_
        case hc45_0_16 => exact htl
        case hc45_1_16 => decide
        refine v_if_eq K 55 dX8_readsEntry_48 (by decide) (fun c48 => ?_) (fun c48 => ?_)
        · have h39 := of_decide_eq_false (bI_0 c48)
          rw [tkP_f h39]
          refine v_iconst K (0) dX8_readsEntry_55 (by decide) ?_
          exact v_j (l56 0 _ (tW_3 h58 h0 h33 h39)) rfl rfl rfl
        · have h39 := of_decide_eq_true (bI_1 c48)
          rw [tkP_t h39]
          refine v_iconst K (2) dX8_readsEntry_51 (by decide) ?_
          refine v_goto K 56 dX8_readsEntry_52 (by decide) ?_
          exact v_j (l56 2 _ (tW_2 h58 h0 h33 h39)) rfl rfl rfl
      · have h33 := of_decide_eq_true (bI_1 c31)
        rw [tkP_t h33]
        refine v_iconst K (1) dX8_readsEntry_34 (by decide) ?_
        refine v_goto K 56 dX8_readsEntry_35 (by decide) ?_
        exact v_j (l56 1 _ (tW_1 h58 h0 h33)) rfl rfl rfl

theorem hd_X8_faultOfEntries : yX8_faultOfEntries.cls = RX8 ∧ yX8_faultOfEntries.cls ≠ "java/lang/invoke/MethodHandle" ∧ yX8_faultOfEntries.cls ≠ "java/lang/invoke/VarHandle" ∧ (parseMethodDescriptor yX8_faultOfEntries.desc).map (fun d => d.parameters.length) = some 0 := by decide +kernel
set_option maxHeartbeats 4000000 in
set_option maxRecDepth 100000 in
theorem c_X8_faultOfEntries (cI cB : ClassId) (m : Nat → Nat) (hl it sz sl ut ol sp tw tm mm rl : Int32) (ts : List Int32) (v : Rw) (D : Bk)  : Ct cI cB yX8_faultOfEntries wsX8_faultOfEntries { frames := 4, cells := 0, slots := 0, locals := 94 } [.ref (m 0)] [moM m hl it sz sl ut ol (nI ts.length) sp tw tm mm rl, arL cI (m 12) 60 ts] (fun ov M => ov = some (.int (feR ts (reF ts 60 (0, v) D true 0))) ∧ ∃ sp : Int32, M = [moM m hl it sz sl ut ol (nI ts.length) sp tw tm mm rl, arL cI (m 12) 60 ts]) := by
  refine ct_of (cc := cX8_faultOfEntries) (maxL := 2) (ret := (some .int)) (by decide) rfl (Nat.le_of_ble_eq_true rfl) [(0, .ref (m 0))] rfl ?_
  intro X hI hB K E
  subst hI
  subst hB
  have iX8 : ∀ w ∈ u_ws RX8 TX8 28, w ∈ wsX8_faultOfEntries := by decide +kernel
  refine v_arlen 1 rfl (fun hX => ?_)
  obtain ⟨R, hR0⟩ : ∃ R, reF ts 60 (0, v) D true 0 = R := ⟨_, rfl⟩
  have lp : ∀ (d n P : Nat) (v : Rw) (D : Bk) (nw : Bool) (cnt : Nat), ts.length - P = d → P ≤ ts.length → ts.length + 1 ≤ P + 2 * n → reF ts n (P, v) D nw cnt = R → V X 0 0 11 [(0, .ref (m 0))] [] [moM m hl it sz sl ut ol (nI ts.length) (nI P) tw tm mm rl, arL (XI X) (m 12) 60 ts] := by
    intro d
    induction d using Nat.strongRecOn with | _ d ih => ?_
    intro n P v D nw cnt hd hP hn hR
    have hle := tEnt_le (ts := ts) (S := (P, v)) hP
    refine v_aload_n K dX8_faultOfEntries_11 rfl ?_
    refine v_iconst K (0) dX8_faultOfEntries_12 (by decide) ?_
    refine v_callVi K [0, 1] (c_X8_readsEntry_f (XI X) (XB X) _ _ _ _ _ _ _ _ _ _ _ _ _ v ?hc13_0_1) rfl gX8_faultOfEntries_X8_readsEntry rfl rfl hd_X8_readsEntry ⟨rfl, rfl⟩ ⟨by decide, by decide⟩ 0 rfl hasF_c rfl (by decide) (Nat.le_of_ble_eq_true rfl) ⟨Nat.zero_le _, Nat.zero_le _⟩ rfl dX8_faultOfEntries_13 ?_
    case hc13_0_1 => exact hP
    refine v_if_ne K 24 dX8_faultOfEntries_16 (by decide) (fun c16 => ?_) (fun c16 => ?_)
    · have ht := bI_1 c16
      have hge := tE_ge ht
      refine v_aload_n K dX8_faultOfEntries_24 rfl ?_
      refine v_bipush K (44) dX8_faultOfEntries_25 (by decide) ?_
      refine v_callVi K [0, 1] (c_X8_takes (XI X) (XB X) _ _ _ _ _ _ _ _ _ _ _ _ _ _ ?hc27_0_2 ?hc27_1_2) rfl gX8_faultOfEntries_X8_takes rfl rfl hd_X8_takes ⟨rfl, rfl⟩ ⟨by decide, by decide⟩ 0 rfl hasF_c rfl (by decide) (Nat.le_of_ble_eq_true rfl) ⟨Nat.zero_le _, Nat.zero_le _⟩ rfl dX8_faultOfEntries_27 ?_
      case hc27_0_2 => exact hle
      case hc27_1_2 => decide
      refine v_istore_n K dX8_faultOfEntries_30 (by decide) ?_
      refine v_goto K 7 dX8_faultOfEntries_31 (by decide) ?_
      refine v_iload_n K dX8_faultOfEntries_7 rfl ?_
      refine v_if_eq K 34 dX8_faultOfEntries_8 (by decide) (fun c8 => ?_) (fun c8 => ?_)
      · have h44 : ¬ ts.getD (tEntry ts (P, v)).2.1 (-5) = 44 := of_decide_eq_false (bI_0 c8)
        have e := re_2 hP hn hR ht h44
        rw [tkP_f h44]
        refine v_aload_n K dX8_faultOfEntries_34 rfl ?_
        refine v_get K 0 rfl hasF_c rfl iX8 19 (by decide) rfl (by decide +kernel) rfl dX8_faultOfEntries_35 ?_
        refine v_aload_n K dX8_faultOfEntries_38 rfl ?_
        refine v_get K 0 rfl hasF_c rfl iX8 18 (by decide) rfl (by decide +kernel) rfl dX8_faultOfEntries_39 ?_
        refine v_ic_ne K 50 dX8_faultOfEntries_42 (by decide) (fun c42 => ?_) (fun c42 => ?_)
        · refine v_aload_n K dX8_faultOfEntries_50 rfl ?_
          refine v_get K 0 rfl hasF_c rfl iX8 19 (by decide) rfl (by decide +kernel) rfl dX8_faultOfEntries_51 ?_
          refine v_iret K E dX8_faultOfEntries_54 ?_ rfl
          exact ⟨by rw [hR0, e]; unfold feR; rw [if_neg (fun z => c42 (congrArg nI (Nat.le_antisymm hle z.2)))] <;> rfl, _, rfl⟩
        · refine v_bipush K (-5) dX8_faultOfEntries_45 (by decide) ?_
          refine v_goto K 54 dX8_faultOfEntries_47 (by decide) ?_
          refine v_iret K E dX8_faultOfEntries_54 ?_ rfl
          exact ⟨by rw [hR0, e]; unfold feR; rw [if_pos ⟨rfl, Nat.le_of_eq ((nI_eq (by omega) (by omega)).mp c42).symm⟩] <;> rfl, _, rfl⟩
      · have h44 : ts.getD (tEntry ts (P, v)).2.1 (-5) = 44 := of_decide_eq_true (bI_1 c8)
        obtain ⟨n2, hn2, hR2⟩ := re_1 hP hn hR ht h44
        have hlt : (tEntry ts (P, v)).2.1 < ts.length := at_lt (by rw [h44]; decide)
        exact v_j (ih (ts.length - ((tEntry ts (P, v)).2.1 + 1)) (by omega) n2 ((tEntry ts (P, v)).2.1 + 1) _ _ _ _ rfl (by omega) (by omega) hR2) rfl rfl (by rw [tkP_t h44] <;> rfl)
    · refine v_aload_n K dX8_faultOfEntries_19 rfl ?_
      refine v_get K 0 rfl hasF_c rfl iX8 19 (by decide) rfl (by decide +kernel) rfl dX8_faultOfEntries_20 ?_
      refine v_iret K E dX8_faultOfEntries_23 ?_ rfl
      have ht := bI_0 c16
      have e := re_0 hP hn hR ht
      exact ⟨by rw [hR0, e]; unfold feR; rw [if_neg (fun z => Bool.false_ne_true z.1)] <;> rfl, _, rfl⟩
  refine v_aload_n K dX8_faultOfEntries_0 rfl ?_
  refine v_iconst K (0) dX8_faultOfEntries_1 (by decide) ?_
  refine v_put K 0 rfl rfl iX8 tyX8 tyX8_ok nmX8 19 (by decide) rfl (by decide +kernel) rfl rfl (Nat.le_of_ble_eq_true rfl) dX8_faultOfEntries_2 ?_
  refine v_iconst K (1) dX8_faultOfEntries_5 (by decide) ?_
  refine v_istore_n K dX8_faultOfEntries_6 (by decide) ?_
  refine v_iload_n K dX8_faultOfEntries_7 rfl ?_
  refine v_if_eq K 34 dX8_faultOfEntries_8 (by decide) (fun c => absurd c (by decide)) (fun _ => ?_)
  exact v_j (lp _ 60 0 v D true 0 rfl (Nat.zero_le _) (by omega) hR0) rfl rfl rfl

theorem hd_X8_readEntries : yX8_readEntries.cls = RX8 ∧ yX8_readEntries.cls ≠ "java/lang/invoke/MethodHandle" ∧ yX8_readEntries.cls ≠ "java/lang/invoke/VarHandle" ∧ (parseMethodDescriptor yX8_readEntries.desc).map (fun d => d.parameters.length) = some 0 := by decide +kernel
set_option maxHeartbeats 4000000 in
set_option maxRecDepth 100000 in
theorem c_X8_readEntries (cI cB : ClassId) (m : Nat → Nat) (it sz sl ut ol sp tw tm mm rl : Int32) (S : Bk) (hs : List Bk) (f0 g h q : Nat → Int32) (ts : List Int32) (v : Rw) (hA : allR S f0) (hH : histR hs h) : Ct cI cB yX8_readEntries wsX8_readEntries { frames := 5, cells := 0, slots := 0, locals := 115 } [.ref (m 0)] [moM m (nI hs.length) it sz sl ut ol (nI ts.length) sp tw tm mm rl, arF cI (m 1) 570 f0, arL cI (m 12) 60 ts, arF cI (m 13) 60 q, arF cI (m 2) 570 g, arF cI (m 3) 2280 h] (fun ov M => ov = some (.int (rdT S hs ts (reF ts 60 (0, v) (cpB 60 50 S) true 0)).1) ∧ ∃ (sp tw tm mm : Int32) (f g h q : Nat → Int32), allR (rdT S hs ts (reF ts 60 (0, v) (cpB 60 50 S) true 0)).2.1 f ∧ histR (rdT S hs ts (reF ts 60 (0, v) (cpB 60 50 S) true 0)).2.2 h ∧ M = [moM m (nI (rdT S hs ts (reF ts 60 (0, v) (cpB 60 50 S) true 0)).2.2.length) it sz sl ut ol (nI ts.length) sp tw tm mm rl, arF cI (m 1) 570 f, arL cI (m 12) 60 ts, arF cI (m 13) 60 q, arF cI (m 2) 570 g, arF cI (m 3) 2280 h]) := by
  refine ct_of (cc := cX8_readEntries) (maxL := 4) (ret := (some .int)) (by decide) rfl (Nat.le_of_ble_eq_true rfl) [(0, .ref (m 0))] rfl ?_
  intro X hI hB K E
  subst hI
  subst hB
  have iX8 : ∀ w ∈ u_ws RX8 TX8 28, w ∈ wsX8_readEntries := by decide +kernel
  have hw := hA.1
  refine v_arlen 2 rfl (fun hX => ?_)
  obtain ⟨R, hR0⟩ : ∃ R, reF ts 60 (0, v) (cpB 60 50 S) true 0 = R := ⟨_, rfl⟩
  have hRl : R.2.1.1 ≤ ts.length := by rw [← hR0]; exact reF_le 60 _ _ _ _ (Nat.zero_le _)
  have hRd : R.2.2.1.1.length ≤ 60 ∧ R.2.2.1.2.2.2.2.1.length ≤ 50 := by rw [← hR0]; exact reF_len 60 _ _ _ _ (by rw [cpB_wf hw 60 50 (by decide) (by decide)]; have := hw.1; omega) (by rw [cpB_wf hw 60 50 (by decide) (by decide)]; have := hw.2.2.2.2.1; omega)
  refine v_aload_n K dX8_readEntries_0 rfl ?_
  refine v_callV K [0, 2] (c_X8_faultOfEntries (XI X) (XB X) _ _ _ _ _ _ _ _ _ _ _ _ _ v (cpB 60 50 S) ) rfl gX8_readEntries_X8_faultOfEntries rfl rfl hd_X8_faultOfEntries ⟨rfl, rfl⟩ ⟨by decide, by decide⟩ 0 rfl hasF_c rfl (by decide) (Nat.le_of_ble_eq_true rfl) ⟨Nat.zero_le _, Nat.zero_le _⟩ rfl dX8_readEntries_1 ?_
  try dsimp only [Nat.reduceAdd, nf_rep1, nf_rep0, nf_d0, nf_t0, nf_s0, nf_ac, nf_an, nf_d1, nf_t1, nf_s1, nf_d2, nf_t2, nf_s2, nf_d3, nf_t3, nf_s3, nf_d4, nf_t4, nf_s4, nf_d5, nf_t5, nf_s5, nf_d6, nf_t6, nf_s6, nf_d7, nf_t7, nf_s7, nf_d8, nf_t8, nf_s8, nf_d9, nf_t9, nf_s9, nf_d10, nf_t10, nf_s10, nf_d11, nf_t11, nf_s11, nf_d12, nf_t12, nf_s12, nf_d13, nf_t13, nf_s13, nf_d14, nf_t14, nf_s14, nf_d15, nf_t15, nf_s15, nf_d16, nf_t16, nf_s16, nf_d17, nf_t17, nf_s17, nf_d18, nf_t18, nf_s18, nf_d19, nf_t19, nf_s19, nf_d20, nf_t20, nf_s20]
  intro ov Mc1 hpo _
  obtain ⟨rfl, sp, rfl⟩ := hpo
  rw [hR0]
  refine v_istore_n K dX8_readEntries_4 (by decide) ?_
  refine v_iload_n K dX8_readEntries_5 rfl ?_
  refine v_bipush K (-5) dX8_readEntries_6 (by decide) ?_
  refine v_ic_eq K 16 dX8_readEntries_8 (by decide) (fun c8 => ?_) (fun c8 => ?_)
  · have h1 := feR_t (ts := ts) (R := R) (by omega) c8
    have l69 : ∀ (Z : Me) (f q : Nat → Int32) (sp : Int32), meR Z ts f q → Rl R.2.2.1 R.2.2.2.1 Z → V X 0 0 69 [(0, .ref (m 0)), (2, .int (nI R.2.2.2.2))] [] [moM m (nI hs.length) it sz sl ut ol (nI ts.length) sp (bI Z.2.2) (bI (tmB Z)) (nI (3 * Z.2.1.length)) rl, arF (XI X) (m 1) 570 f, arL (XI X) (m 12) 60 ts, arF (XI X) (m 13) 60 q, arF (XI X) (m 2) 570 (cpK f0 g 570), arF (XI X) (m 3) 2280 h] := by
      intro Z f q sp hm hRl2
      refine v_aload_n K dX8_readEntries_69 rfl ?_
      refine v_get K 0 rfl hasF_c rfl iX8 20 (by decide) rfl (by decide +kernel) rfl dX8_readEntries_70 ?_
      refine v_if_eq K 85 dX8_readEntries_73 (by decide) (fun c73 => ?_) (fun c73 => ?_)
      · have ht := bI_0 c73
        have hn : R.2.2.2.1 = true := by rw [hRl2.1, ht]; rfl
        refine v_aload_n K dX8_readEntries_85 rfl ?_
        refine v_get K 0 rfl hasF_c rfl iX8 21 (by decide) rfl (by decide +kernel) rfl dX8_readEntries_86 ?_
        refine v_if_eq K 101 dX8_readEntries_89 (by decide) (fun c89 => ?_) (fun c89 => ?_)
        · have hmm := bI_0 c89
          have hDe := Rl_end hm.1.1 hRl2 ht hmm
          have hwf : wfB R.2.2.1 := by rw [hDe]; exact hm.1.1
          have hfit : nI R.2.2.1.1.length ≤ 30 ∧ nI R.2.2.1.2.2.2.2.1.length ≤ 20 := by rw [show (30 : Int32) = nI 30 from rfl, show (20 : Int32) = nI 20 from rfl, nI_leI (by omega) (by omega), nI_leI (by omega) (by omega)]; exact ⟨hwf.1, hwf.2.2.2.2.1⟩
          have e := rdT_y (hs := hs) (S := S) h1 hn hfit
          rw [cpB_wf hwf 30 20 (by decide) (by decide)] at e
          refine v_aload_n K dX8_readEntries_101 rfl ?_
          refine v_iload_n K dX8_readEntries_102 rfl ?_
          refine v_callV K [0, 4, 5] (c_X8_acted (XI X) (XB X) _ _ _ _ _ _ _ _ _ _ _ _ _ S _ _ _ ?hc103_0_2 ?hc103_1_2) rfl gX8_readEntries_X8_acted rfl rfl hd_X8_acted ⟨rfl, rfl⟩ ⟨by decide, by decide⟩ 0 rfl hasF_c rfl (by decide) (Nat.le_of_ble_eq_true rfl) ⟨Nat.zero_le _, Nat.zero_le _⟩ rfl dX8_readEntries_103 ?_
          case hc103_0_2 => exact hH
          case hc103_1_2 => exact allR_cp hA
          try dsimp only [Nat.reduceAdd, nf_rep1, nf_rep0, nf_d0, nf_t0, nf_s0, nf_ac, nf_an, nf_d1, nf_t1, nf_s1, nf_d2, nf_t2, nf_s2, nf_d3, nf_t3, nf_s3, nf_d4, nf_t4, nf_s4, nf_d5, nf_t5, nf_s5, nf_d6, nf_t6, nf_s6, nf_d7, nf_t7, nf_s7, nf_d8, nf_t8, nf_s8, nf_d9, nf_t9, nf_s9, nf_d10, nf_t10, nf_s10, nf_d11, nf_t11, nf_s11, nf_d12, nf_t12, nf_s12, nf_d13, nf_t13, nf_s13, nf_d14, nf_t14, nf_s14, nf_d15, nf_t15, nf_s15, nf_d16, nf_t16, nf_s16, nf_d17, nf_t17, nf_s17, nf_d18, nf_t18, nf_s18, nf_d19, nf_t19, nf_s19, nf_d20, nf_t20, nf_s20]
          intro ov Mc1 hpo _
          obtain ⟨rfl, h2, hH2, rfl⟩ := hpo
          refine v_iret K E dX8_readEntries_106 ?_ rfl
          exact ⟨by rw [hR0, e] <;> rfl, _, _, _, _, f, cpK f0 g 570, h2, q, by rw [hR0, e]; show allR R.2.2.1 _; rw [hDe]; exact hm.1, by rw [hR0, e]; exact hH2, by rw [hR0, e] <;> rfl⟩
        · have hmm := bI_1 c89
          have e := rdT_3 (hs := hs) (S := S) h1 hn (Rl_full hRl2 ht hmm (by omega))
          refine v_aload_n K dX8_readEntries_92 rfl ?_
          refine v_bipush K (-3) dX8_readEntries_93 (by decide) ?_
          refine v_callVi K [0, 1, 4] (c_X8_refused (XI X) (XB X) _ _ _ _ _ _ _ _ _ _ _ _ _ _ _ _ ) rfl gX8_readEntries_X8_refused rfl rfl hd_X8_refused ⟨rfl, rfl⟩ ⟨by decide, by decide⟩ 0 rfl hasF_c rfl (by decide) (Nat.le_of_ble_eq_true rfl) ⟨Nat.zero_le _, Nat.zero_le _⟩ rfl dX8_readEntries_95 ?_
          try dsimp only [Nat.reduceAdd, nf_rep1, nf_rep0, nf_d0, nf_t0, nf_s0, nf_ac, nf_an, nf_d1, nf_t1, nf_s1, nf_d2, nf_t2, nf_s2, nf_d3, nf_t3, nf_s3, nf_d4, nf_t4, nf_s4, nf_d5, nf_t5, nf_s5, nf_d6, nf_t6, nf_s6, nf_d7, nf_t7, nf_s7, nf_d8, nf_t8, nf_s8, nf_d9, nf_t9, nf_s9, nf_d10, nf_t10, nf_s10, nf_d11, nf_t11, nf_s11, nf_d12, nf_t12, nf_s12, nf_d13, nf_t13, nf_s13, nf_d14, nf_t14, nf_s14, nf_d15, nf_t15, nf_s15, nf_d16, nf_t16, nf_s16, nf_d17, nf_t17, nf_s17, nf_d18, nf_t18, nf_s18, nf_d19, nf_t19, nf_s19, nf_d20, nf_t20, nf_s20]
          refine v_goto K 106 dX8_readEntries_98 (by decide) ?_
          refine v_iret K E dX8_readEntries_106 ?_ rfl
          exact ⟨by rw [hR0, e] <;> rfl, _, _, _, _, cpK (cpK f0 g 570) f 570, cpK f0 g 570, h, q, by rw [hR0, e]; exact allR_cp (allR_cp hA), by rw [hR0, e]; exact hH, by rw [hR0, e] <;> rfl⟩
      · have ht := bI_1 c73
        have hn : R.2.2.2.1 = false := by rw [hRl2.1, ht]; rfl
        refine v_aload_n K dX8_readEntries_76 rfl ?_
        refine v_bipush K (-4) dX8_readEntries_77 (by decide) ?_
        refine v_callVi K [0, 1, 4] (c_X8_refused (XI X) (XB X) _ _ _ _ _ _ _ _ _ _ _ _ _ _ _ _ ) rfl gX8_readEntries_X8_refused rfl rfl hd_X8_refused ⟨rfl, rfl⟩ ⟨by decide, by decide⟩ 0 rfl hasF_c rfl (by decide) (Nat.le_of_ble_eq_true rfl) ⟨Nat.zero_le _, Nat.zero_le _⟩ rfl dX8_readEntries_79 ?_
        try dsimp only [Nat.reduceAdd, nf_rep1, nf_rep0, nf_d0, nf_t0, nf_s0, nf_ac, nf_an, nf_d1, nf_t1, nf_s1, nf_d2, nf_t2, nf_s2, nf_d3, nf_t3, nf_s3, nf_d4, nf_t4, nf_s4, nf_d5, nf_t5, nf_s5, nf_d6, nf_t6, nf_s6, nf_d7, nf_t7, nf_s7, nf_d8, nf_t8, nf_s8, nf_d9, nf_t9, nf_s9, nf_d10, nf_t10, nf_s10, nf_d11, nf_t11, nf_s11, nf_d12, nf_t12, nf_s12, nf_d13, nf_t13, nf_s13, nf_d14, nf_t14, nf_s14, nf_d15, nf_t15, nf_s15, nf_d16, nf_t16, nf_s16, nf_d17, nf_t17, nf_s17, nf_d18, nf_t18, nf_s18, nf_d19, nf_t19, nf_s19, nf_d20, nf_t20, nf_s20]
        refine v_goto K 106 dX8_readEntries_82 (by decide) ?_
        refine v_iret K E dX8_readEntries_106 ?_ rfl
        have e := rdT_4 (hs := hs) (S := S) h1 hn
        exact ⟨by rw [hR0, e] <;> rfl, _, _, _, _, cpK (cpK f0 g 570) f 570, cpK f0 g 570, h, q, by rw [hR0, e]; exact allR_cp (allR_cp hA), by rw [hR0, e]; exact hH, by rw [hR0, e] <;> rfl⟩
    have lp : ∀ (d n P : Nat) (v : Rw) (D : Bk) (nw : Bool) (cnt : Nat) (Z : Me) (f q : Nat → Int32), ts.length - P = d → P ≤ ts.length → ts.length + 1 ≤ P + 2 * n → reF ts n (P, v) D nw cnt = R → meR Z ts f q → Rl D nw Z → 3 * Z.2.1.length ≤ P → V X 0 0 48 [(0, .ref (m 0)), (2, .int (nI cnt))] [] [moM m (nI hs.length) it sz sl ut ol (nI ts.length) (nI P) (bI Z.2.2) (bI (tmB Z)) (nI (3 * Z.2.1.length)) rl, arF (XI X) (m 1) 570 f, arL (XI X) (m 12) 60 ts, arF (XI X) (m 13) 60 q, arF (XI X) (m 2) 570 (cpK f0 g 570), arF (XI X) (m 3) 2280 h] := by
      intro d
      induction d using Nat.strongRecOn with | _ d ih => ?_
      intro n P v D nw cnt Z f q hd hP hn hR hm hRl2 hB
      have hle := tEnt_le (ts := ts) (S := (P, v)) hP
      have ht : (tEntry ts (P, v)).1 = true := by
        cases hz : (tEntry ts (P, v)).1 with
        | true => rfl
        | false =>
          have e := re_0 hP hn hR hz
          have h2 := h1.1
          rw [e] at h2
          exact absurd h2 Bool.false_ne_true
      have hge := tE_ge ht
      have h60 := hX.1
      have hst := Rl_step hm.1.1 (by omega) ht hRl2
      have hnx : nxE true Z P (tEntry ts (P, v)) = adE Z P (tEntry ts (P, v)).2 := by
        unfold nxE
        rw [ht]
        rfl
      have hlB : (adE Z P (tEntry ts (P, v)).2).2.1.length ≤ Z.2.1.length + 1 := adE_len
      refine v_aload_n K dX8_readEntries_48 rfl ?_
      refine v_iconst K (1) dX8_readEntries_49 (by decide) ?_
      refine v_callV K [0, 1, 2, 3] (c_X8_readsEntry (XI X) (XB X) _ _ _ _ _ _ _ _ Z _ _ _ _ v true ?hc50_0_5 ?hc50_1_5 ?hc50_2_5) rfl gX8_readEntries_X8_readsEntry rfl rfl hd_X8_readsEntry ⟨rfl, rfl⟩ ⟨by decide, by decide⟩ 0 rfl hasF_c rfl (by decide) (Nat.le_of_ble_eq_true rfl) ⟨Nat.zero_le _, Nat.zero_le _⟩ rfl dX8_readEntries_50 ?_
      case hc50_0_5 => exact hm
      case hc50_1_5 => exact hP
      case hc50_2_5 => exact fun _ => hB
      try dsimp only [Nat.reduceAdd, nf_rep1, nf_rep0, nf_d0, nf_t0, nf_s0, nf_ac, nf_an, nf_d1, nf_t1, nf_s1, nf_d2, nf_t2, nf_s2, nf_d3, nf_t3, nf_s3, nf_d4, nf_t4, nf_s4, nf_d5, nf_t5, nf_s5, nf_d6, nf_t6, nf_s6, nf_d7, nf_t7, nf_s7, nf_d8, nf_t8, nf_s8, nf_d9, nf_t9, nf_s9, nf_d10, nf_t10, nf_s10, nf_d11, nf_t11, nf_s11, nf_d12, nf_t12, nf_s12, nf_d13, nf_t13, nf_s13, nf_d14, nf_t14, nf_s14, nf_d15, nf_t15, nf_s15, nf_d16, nf_t16, nf_s16, nf_d17, nf_t17, nf_s17, nf_d18, nf_t18, nf_s18, nf_d19, nf_t19, nf_s19, nf_d20, nf_t20, nf_s20]
      intro ov Mc1 hpo _
      obtain ⟨rfl, f2, q2, hm2, rfl⟩ := hpo
      rw [hnx] at hm2 ⊢
      refine v_if_eq K 69 dX8_readEntries_53 (by decide) (fun c53 => False.elim (absurd c53 (by rw [ht]; decide))) (fun c53 => ?_)
      refine v_iinc K dX8_readEntries_56 rfl (by decide) iinc_1 ?_
      refine v_aload_n K dX8_readEntries_59 rfl ?_
      refine v_bipush K (44) dX8_readEntries_60 (by decide) ?_
      refine v_callVi K [0, 2] (c_X8_takes (XI X) (XB X) _ _ _ _ _ _ _ _ _ _ _ _ _ _ ?hc62_0_6 ?hc62_1_6) rfl gX8_readEntries_X8_takes rfl rfl hd_X8_takes ⟨rfl, rfl⟩ ⟨by decide, by decide⟩ 0 rfl hasF_c rfl (by decide) (Nat.le_of_ble_eq_true rfl) ⟨Nat.zero_le _, Nat.zero_le _⟩ rfl dX8_readEntries_62 ?_
      case hc62_0_6 => exact hle
      case hc62_1_6 => decide
      try dsimp only [Nat.reduceAdd, nf_rep1, nf_rep0, nf_d0, nf_t0, nf_s0, nf_ac, nf_an, nf_d1, nf_t1, nf_s1, nf_d2, nf_t2, nf_s2, nf_d3, nf_t3, nf_s3, nf_d4, nf_t4, nf_s4, nf_d5, nf_t5, nf_s5, nf_d6, nf_t6, nf_s6, nf_d7, nf_t7, nf_s7, nf_d8, nf_t8, nf_s8, nf_d9, nf_t9, nf_s9, nf_d10, nf_t10, nf_s10, nf_d11, nf_t11, nf_s11, nf_d12, nf_t12, nf_s12, nf_d13, nf_t13, nf_s13, nf_d14, nf_t14, nf_s14, nf_d15, nf_t15, nf_s15, nf_d16, nf_t16, nf_s16, nf_d17, nf_t17, nf_s17, nf_d18, nf_t18, nf_s18, nf_d19, nf_t19, nf_s19, nf_d20, nf_t20, nf_s20]
      refine v_istore_n K dX8_readEntries_65 (by decide) ?_
      refine v_goto K 44 dX8_readEntries_66 (by decide) ?_
      refine v_iload_n K dX8_readEntries_44 rfl ?_
      refine v_if_eq K 69 dX8_readEntries_45 (by decide) (fun c45 => ?_) (fun c45 => ?_)
      · have h44 : ¬ ts.getD (tEntry ts (P, v)).2.1 (-5) = 44 := of_decide_eq_false (bI_0 c45)
        have e := re_2 hP hn hR ht h44
        exact v_j (l69 _ f2 q2 _ hm2 (by rw [e]; exact hst)) (by rw [e]; show _ = [_, some (Value.int (nI (cnt + 1)))]; rw [← nI_1] <;> rfl) rfl rfl
      · have h44 : ts.getD (tEntry ts (P, v)).2.1 (-5) = 44 := of_decide_eq_true (bI_1 c45)
        obtain ⟨n2, hn2, hR2⟩ := re_1 hP hn hR ht h44
        have hlt : (tEntry ts (P, v)).2.1 < ts.length := at_lt (by rw [h44]; decide)
        exact v_j (ih (ts.length - ((tEntry ts (P, v)).2.1 + 1)) (by omega) n2 ((tEntry ts (P, v)).2.1 + 1) _ _ _ _ _ f2 q2 rfl (by omega) (by omega) hR2 hm2 hst (by omega)) (by rw [← nI_1] <;> rfl) rfl (by rw [tkP_t h44] <;> rfl)
    refine v_aload_n K dX8_readEntries_16 rfl ?_
    refine v_callVv K [0, 1, 4] (c_X8_remember (XI X) (XB X) _ _ _ _ _ _ _ _ _ _ _ _ _ _ _ ) rfl gX8_readEntries_X8_remember rfl rfl hd_X8_remember ⟨rfl, rfl⟩ ⟨by decide, by decide⟩ 0 rfl hasF_c rfl (by decide) (Nat.le_of_ble_eq_true rfl) ⟨Nat.zero_le _, Nat.zero_le _⟩ rfl dX8_readEntries_17 ?_
    try dsimp only [Nat.reduceAdd, nf_rep1, nf_rep0, nf_d0, nf_t0, nf_s0, nf_ac, nf_an, nf_d1, nf_t1, nf_s1, nf_d2, nf_t2, nf_s2, nf_d3, nf_t3, nf_s3, nf_d4, nf_t4, nf_s4, nf_d5, nf_t5, nf_s5, nf_d6, nf_t6, nf_s6, nf_d7, nf_t7, nf_s7, nf_d8, nf_t8, nf_s8, nf_d9, nf_t9, nf_s9, nf_d10, nf_t10, nf_s10, nf_d11, nf_t11, nf_s11, nf_d12, nf_t12, nf_s12, nf_d13, nf_t13, nf_s13, nf_d14, nf_t14, nf_s14, nf_d15, nf_t15, nf_s15, nf_d16, nf_t16, nf_s16, nf_d17, nf_t17, nf_s17, nf_d18, nf_t18, nf_s18, nf_d19, nf_t19, nf_s19, nf_d20, nf_t20, nf_s20]
    refine v_aload_n K dX8_readEntries_20 rfl ?_
    refine v_iconst K (0) dX8_readEntries_21 (by decide) ?_
    refine v_put K 0 rfl rfl iX8 tyX8 tyX8_ok nmX8 19 (by decide) rfl (by decide +kernel) rfl rfl (Nat.le_of_ble_eq_true rfl) dX8_readEntries_22 ?_
    try dsimp only [Nat.reduceAdd, nf_rep1, nf_rep0, nf_d0, nf_t0, nf_s0, nf_ac, nf_an, nf_d1, nf_t1, nf_s1, nf_d2, nf_t2, nf_s2, nf_d3, nf_t3, nf_s3, nf_d4, nf_t4, nf_s4, nf_d5, nf_t5, nf_s5, nf_d6, nf_t6, nf_s6, nf_d7, nf_t7, nf_s7, nf_d8, nf_t8, nf_s8, nf_d9, nf_t9, nf_s9, nf_d10, nf_t10, nf_s10, nf_d11, nf_t11, nf_s11, nf_d12, nf_t12, nf_s12, nf_d13, nf_t13, nf_s13, nf_d14, nf_t14, nf_s14, nf_d15, nf_t15, nf_s15, nf_d16, nf_t16, nf_s16, nf_d17, nf_t17, nf_s17, nf_d18, nf_t18, nf_s18, nf_d19, nf_t19, nf_s19, nf_d20, nf_t20, nf_s20]
    refine v_aload_n K dX8_readEntries_25 rfl ?_
    refine v_iconst K (0) dX8_readEntries_26 (by decide) ?_
    refine v_put K 0 rfl rfl iX8 tyX8 tyX8_ok nmX8 20 (by decide) rfl (by decide +kernel) rfl rfl (Nat.le_of_ble_eq_true rfl) dX8_readEntries_27 ?_
    try dsimp only [Nat.reduceAdd, nf_rep1, nf_rep0, nf_d0, nf_t0, nf_s0, nf_ac, nf_an, nf_d1, nf_t1, nf_s1, nf_d2, nf_t2, nf_s2, nf_d3, nf_t3, nf_s3, nf_d4, nf_t4, nf_s4, nf_d5, nf_t5, nf_s5, nf_d6, nf_t6, nf_s6, nf_d7, nf_t7, nf_s7, nf_d8, nf_t8, nf_s8, nf_d9, nf_t9, nf_s9, nf_d10, nf_t10, nf_s10, nf_d11, nf_t11, nf_s11, nf_d12, nf_t12, nf_s12, nf_d13, nf_t13, nf_s13, nf_d14, nf_t14, nf_s14, nf_d15, nf_t15, nf_s15, nf_d16, nf_t16, nf_s16, nf_d17, nf_t17, nf_s17, nf_d18, nf_t18, nf_s18, nf_d19, nf_t19, nf_s19, nf_d20, nf_t20, nf_s20]
    refine v_aload_n K dX8_readEntries_30 rfl ?_
    refine v_iconst K (0) dX8_readEntries_31 (by decide) ?_
    refine v_put K 0 rfl rfl iX8 tyX8 tyX8_ok nmX8 21 (by decide) rfl (by decide +kernel) rfl rfl (Nat.le_of_ble_eq_true rfl) dX8_readEntries_32 ?_
    try dsimp only [Nat.reduceAdd, nf_rep1, nf_rep0, nf_d0, nf_t0, nf_s0, nf_ac, nf_an, nf_d1, nf_t1, nf_s1, nf_d2, nf_t2, nf_s2, nf_d3, nf_t3, nf_s3, nf_d4, nf_t4, nf_s4, nf_d5, nf_t5, nf_s5, nf_d6, nf_t6, nf_s6, nf_d7, nf_t7, nf_s7, nf_d8, nf_t8, nf_s8, nf_d9, nf_t9, nf_s9, nf_d10, nf_t10, nf_s10, nf_d11, nf_t11, nf_s11, nf_d12, nf_t12, nf_s12, nf_d13, nf_t13, nf_s13, nf_d14, nf_t14, nf_s14, nf_d15, nf_t15, nf_s15, nf_d16, nf_t16, nf_s16, nf_d17, nf_t17, nf_s17, nf_d18, nf_t18, nf_s18, nf_d19, nf_t19, nf_s19, nf_d20, nf_t20, nf_s20]
    refine v_aload_n K dX8_readEntries_35 rfl ?_
    refine v_iconst K (0) dX8_readEntries_36 (by decide) ?_
    refine v_put K 0 rfl rfl iX8 tyX8 tyX8_ok nmX8 23 (by decide) rfl (by decide +kernel) rfl rfl (Nat.le_of_ble_eq_true rfl) dX8_readEntries_37 ?_
    try dsimp only [Nat.reduceAdd, nf_rep1, nf_rep0, nf_d0, nf_t0, nf_s0, nf_ac, nf_an, nf_d1, nf_t1, nf_s1, nf_d2, nf_t2, nf_s2, nf_d3, nf_t3, nf_s3, nf_d4, nf_t4, nf_s4, nf_d5, nf_t5, nf_s5, nf_d6, nf_t6, nf_s6, nf_d7, nf_t7, nf_s7, nf_d8, nf_t8, nf_s8, nf_d9, nf_t9, nf_s9, nf_d10, nf_t10, nf_s10, nf_d11, nf_t11, nf_s11, nf_d12, nf_t12, nf_s12, nf_d13, nf_t13, nf_s13, nf_d14, nf_t14, nf_s14, nf_d15, nf_t15, nf_s15, nf_d16, nf_t16, nf_s16, nf_d17, nf_t17, nf_s17, nf_d18, nf_t18, nf_s18, nf_d19, nf_t19, nf_s19, nf_d20, nf_t20, nf_s20]
    refine v_iconst K (0) dX8_readEntries_40 (by decide) ?_
    refine v_istore_n K dX8_readEntries_41 (by decide) ?_
    refine v_iconst K (1) dX8_readEntries_42 (by decide) ?_
    refine v_istore_n K dX8_readEntries_43 (by decide) ?_
    refine v_iload_n K dX8_readEntries_44 rfl ?_
    refine v_if_eq K 69 dX8_readEntries_45 (by decide) (fun c => absurd c (by decide)) (fun _ => ?_)
    exact v_j (lp _ 60 0 v _ true 0 (S, [], false) _ q rfl (Nat.zero_le _) (by omega) hR0 ⟨hA, fun i hi => absurd hi (Nat.not_lt_zero i)⟩ (Rl_0 hw) (Nat.le_refl _)) rfl rfl rfl
  · refine v_bipush K (-100) dX8_readEntries_11 (by decide) ?_
    refine v_iload_n K dX8_readEntries_13 rfl ?_
    refine v_isub K dX8_readEntries_14 ?_
    refine v_iret K E dX8_readEntries_15 ?_ rfl
    obtain ⟨hf, hv⟩ := feR_f (ts := ts) (R := R) (by omega) c8
    have e := rdT_f (S := S) (hs := hs) hf
    exact ⟨by rw [hR0, e, hv] <;> rfl, _, _, _, _, f0, g, h, q, by rw [hR0, e]; exact hA, by rw [hR0, e]; exact hH, by rw [hR0, e] <;> rfl⟩
