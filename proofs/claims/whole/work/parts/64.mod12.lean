theorem hd_X8_readsEntry : yX8_readsEntry.cls = RX8 ∧ yX8_readsEntry.cls ≠ "java/lang/invoke/MethodHandle" ∧ yX8_readsEntry.cls ≠ "java/lang/invoke/VarHandle" ∧ (parseMethodDescriptor yX8_readsEntry.desc).map (fun d => d.parameters.length) = some 1 := by decide +kernel
set_option maxHeartbeats 4000000 in
set_option maxRecDepth 100000 in
theorem c_X8_readsEntry (cI cB : ClassId) (m : Nat → Nat) (hl it sz sl ut ol rl : Int32) (Z : Me) (f q : Nat → Int32) (ts : List Int32) (P : Nat) (v : Rw) (ad : Bool) (hm : meR Z ts f q) (hP : P ≤ ts.length) (hB : ad = true → 3 * Z.2.1.length ≤ P) : Ct cI cB yX8_readsEntry wsX8_readsEntry { frames := 3, cells := 0, slots := 0, locals := 69 } [.ref (m 0), .int (bI ad)] [moM m hl it sz sl ut ol (nI ts.length) (nI P) (bI Z.2.2) (bI (tmB Z)) (nI (3 * Z.2.1.length)) rl, arF cI (m 1) 570 f, arL cI (m 12) 60 ts, arF cI (m 13) 60 q] (fun ov M => ov = some (.int (bI (tEntry ts (P, v)).1)) ∧ ∃ f q : Nat → Int32, meR (nxE ad Z P (tEntry ts (P, v))) ts f q ∧ M = [moM m hl it sz sl ut ol (nI ts.length) (nI (tEntry ts (P, v)).2.1) (bI (nxE ad Z P (tEntry ts (P, v))).2.2) (bI (tmB (nxE ad Z P (tEntry ts (P, v))))) (nI (3 * (nxE ad Z P (tEntry ts (P, v))).2.1.length)) rl, arF cI (m 1) 570 f, arL cI (m 12) 60 ts, arF cI (m 13) 60 q]) := by
  refine ct_of (cc := cX8_readsEntry) (maxL := 6) (ret := (some .boolean)) (by decide) rfl (Nat.le_of_ble_eq_true rfl) [(0, .ref (m 0)), (1, .int (bI ad))] rfl ?_
  intro X hI hB K E
  subst hI
  subst hB
  have iX8 : ∀ w ∈ u_ws RX8 TX8 28, w ∈ wsX8_readsEntry := by decide +kernel
  have hA := hm.1
  refine v_arlen 2 rfl (fun hX => ?_)
  have h60 := hX.1
  refine v_aload_n K dX8_readsEntry_0 rfl ?_
  refine v_get K 0 rfl hasF_c rfl iX8 19 (by decide) rfl (by decide +kernel) rfl dX8_readsEntry_1 ?_
  refine v_istore_n K dX8_readsEntry_4 (by decide) ?_
  refine v_aload_n K dX8_readsEntry_5 rfl ?_
  refine v_bipush K (58) dX8_readsEntry_6 (by decide) ?_
  refine v_callVi K [0, 2] (c_X8_takes (XI X) (XB X) _ _ _ _ _ _ _ _ _ _ _ _ _ _ ?hc8_0_1 ?hc8_1_1) rfl gX8_readsEntry_X8_takes rfl rfl hd_X8_takes ⟨rfl, rfl⟩ ⟨by decide, by decide⟩ 0 rfl hasF_c rfl (by decide) (Nat.le_of_ble_eq_true rfl) ⟨Nat.zero_le _, Nat.zero_le _⟩ rfl dX8_readsEntry_8 ?_
  case hc8_0_1 => exact hP
  case hc8_1_1 => decide
  refine v_if_eq K 86 dX8_readsEntry_11 (by decide) (fun c11 => ?_) (fun c11 => ?_)
  · have h58 := of_decide_eq_false (bI_0 c11)
    rw [tkP_f h58]
    refine v_aload_n K dX8_readsEntry_86 rfl ?_
    refine v_bipush K (65) dX8_readsEntry_87 (by decide) ?_
    refine v_bipush K (90) dX8_readsEntry_89 (by decide) ?_
    refine v_callVi K [0, 2] (c_X8_isHere (XI X) (XB X) _ _ _ _ _ _ _ _ _ _ _ _ _ _ _ ?hc91_0_2 ?hc91_1_2) rfl gX8_readsEntry_X8_isHere rfl rfl hd_X8_isHere ⟨rfl, rfl⟩ ⟨by decide, by decide⟩ 0 rfl hasF_c rfl (by decide) (Nat.le_of_ble_eq_true rfl) ⟨Nat.zero_le _, Nat.zero_le _⟩ rfl dX8_readsEntry_91 ?_
    case hc91_0_2 => exact hP
    case hc91_1_2 => decide
    rw [isH_sm]
    refine v_if_eq K 161 dX8_readsEntry_94 (by decide) (fun c94 => ?_) (fun c94 => ?_)
    · have hcap := bI_0 c94
      refine v_aload_n K dX8_readsEntry_161 rfl ?_
      refine v_iconst K (4) dX8_readsEntry_162 (by decide) ?_
      refine v_callVi K [0, 2] (c_X8_passes (XI X) (XB X) _ _ _ _ _ _ _ _ _ _ _ _ _ 4 ?hc163_0_3 ?hc163_1_3) rfl gX8_readsEntry_X8_passes rfl rfl hd_X8_passes ⟨rfl, rfl⟩ ⟨by decide, by decide⟩ 0 rfl hasF_c rfl (by decide) (Nat.le_of_ble_eq_true rfl) ⟨Nat.zero_le _, Nat.zero_le _⟩ rfl dX8_readsEntry_163 ?_
      case hc163_0_3 => exact hP
      case hc163_1_3 => decide
      have hl4 := tlF_len 4 (ts.drop P)
      have hpc := pcT_tl (M := 4) hP
      have hlow := tlF_low 4 (ts.drop P)
      have htl := tl_le (m := 4) hP
      refine v_istore_n K dX8_readsEntry_166 (by decide) ?_
      refine v_iload_n K dX8_readsEntry_167 rfl ?_
      refine v_if_eq K 202 dX8_readsEntry_168 (by decide) (fun c168 => ?_) (fun c168 => ?_)
      · have hz := nI_z (by omega) c168
        refine v_iconst K (0) dX8_readsEntry_202 (by decide) ?_
        refine v_zret K E dX8_readsEntry_203 (by first | exact Or.inl rfl | exact Or.inr rfl | exact bI_01 _) ?_ rfl
        have e := tR_0 (v := v) h58 hcap hz
        exact ⟨by rw [e.1] <;> rfl, f, q, by rw [nxE_n e.1]; exact hm, by rw [nxE_n e.1, e.2] <;> rfl⟩
      · have h0 : ¬ (tlF 4 (ts.drop P)).length = 0 := fun z => c168 (congrArg nI z)
        refine v_aload_n K dX8_readsEntry_171 rfl ?_
        refine v_bipush K (61) dX8_readsEntry_172 (by decide) ?_
        refine v_callVi K [0, 2] (c_X8_takes (XI X) (XB X) _ _ _ _ _ _ _ _ _ _ _ _ _ _ ?hc174_0_4 ?hc174_1_4) rfl gX8_readsEntry_X8_takes rfl rfl hd_X8_takes ⟨rfl, rfl⟩ ⟨by decide, by decide⟩ 0 rfl hasF_c rfl (by decide) (Nat.le_of_ble_eq_true rfl) ⟨Nat.zero_le _, Nat.zero_le _⟩ rfl dX8_readsEntry_174 ?_
        case hc174_0_4 => exact htl
        case hc174_1_4 => decide
        refine v_if_eq K 202 dX8_readsEntry_177 (by decide) (fun c177 => ?_) (fun c177 => ?_)
        · have h61 := of_decide_eq_false (bI_0 c177)
          rw [tkP_f h61]
          refine v_iconst K (0) dX8_readsEntry_202 (by decide) ?_
          refine v_zret K E dX8_readsEntry_203 (by first | exact Or.inl rfl | exact Or.inr rfl | exact bI_01 _) ?_ rfl
          have e := tR_1 (v := v) h58 hcap h0 h61
          exact ⟨by rw [e.1] <;> rfl, f, q, by rw [nxE_n e.1]; exact hm, by rw [nxE_n e.1, e.2] <;> rfl⟩
        · have h61 := of_decide_eq_true (bI_1 c177)
          have hQ : (P + (tlF 4 (ts.drop P)).length + 1) ≤ ts.length := at_lt (ts := ts) (p := P + (tlF 4 (ts.drop P)).length) (by rw [h61]; decide)
          rw [tkP_t h61]
          have l231 : ∀ s2 : Int32, s2 = (if ts.getD (P + (tlF 4 (ts.drop P)).length + 1) (-5) = 95 then 0 else ts.getD (P + (tlF 4 (ts.drop P)).length + 1) (-5)) → (s2 = 0 ∨ (65 ≤ s2 ∧ s2 ≤ 90)) → sndOk (ts.getD (P + (tlF 4 (ts.drop P)).length + 1) (-5)) = true → V X 0 0 231 [(0, .ref (m 0)), (1, .int (bI ad)), (2, .int (nI P)), (3, .int (nI (tlF 4 (ts.drop P)).length))] [.int (sgn0 s2)] [moM m hl it sz sl ut ol (nI ts.length) (nI (P + (tlF 4 (ts.drop P)).length + 1)) (bI Z.2.2) (bI (tmB Z)) (nI (3 * Z.2.1.length)) rl, arF (XI X) (m 1) 570 f, arL (XI X) (m 12) 60 ts, arF (XI X) (m 13) 60 q] := by
            intro s2 hs2 hs3 hok
            have hlt := snd_at hok
            have e := tR_3 (v := v) h58 hcap h0 h61 hok
            rw [← hs2] at e
            have l291 : V X 0 0 291 [(0, .ref (m 0)), (1, .int (bI ad)), (2, .int (nI P)), (3, .int (nI (tlF 4 (ts.drop P)).length)), (4, .int (sgn0 s2)), (5, .int (sdOf (ts.getD ((P + (tlF 4 (ts.drop P)).length + 1) + 1) (-5))))] [] [moM m hl it sz sl ut ol (nI ts.length) (nI (sdP ts ((P + (tlF 4 (ts.drop P)).length + 1) + 1))) (bI Z.2.2) (bI (tmB Z)) (nI (3 * Z.2.1.length)) rl, arF (XI X) (m 1) 570 f, arL (XI X) (m 12) 60 ts, arF (XI X) (m 13) 60 q] := by
              refine v_iload_n K dX8_readsEntry_291 rfl ?_
              refine v_if_eq K 305 dX8_readsEntry_292 (by decide) (fun c292 => ?_) (fun c292 => ?_)
              · refine v_iconst K (1) dX8_readsEntry_305 (by decide) ?_
                refine v_zret K E dX8_readsEntry_306 (by first | exact Or.inl rfl | exact Or.inr rfl | exact bI_01 _) ?_ rfl
                have had := bI_0 c292
                subst had
                exact ⟨by rw [e] <;> rfl, f, q, by rw [nxE_0]; exact hm, by rw [nxE_0, e] <;> rfl⟩
              · have had := bI_1 c292
                refine v_aload_n K dX8_readsEntry_295 rfl ?_
                refine v_iload_n K dX8_readsEntry_296 rfl ?_
                refine v_iload_n K dX8_readsEntry_297 rfl ?_
                refine v_iload K dX8_readsEntry_298 rfl ?_
                refine v_iload K dX8_readsEntry_300 rfl ?_
                refine v_callV K [0, 1, 2, 3] (c_X8_addsRule (XI X) (XB X) _ _ _ _ _ _ _ _ _ Z _ _ _ _ (tlF 4 (ts.drop P)) s2 _ ?hc302_0_5 ?hc302_1_5 ?hc302_2_5 ?hc302_3_5) rfl gX8_readsEntry_X8_addsRule rfl rfl hd_X8_addsRule ⟨rfl, rfl⟩ ⟨by decide, by decide⟩ 0 rfl hasF_c rfl (by decide) (Nat.le_of_ble_eq_true rfl) ⟨Nat.zero_le _, Nat.zero_le _⟩ rfl dX8_readsEntry_302 ?_
                case hc302_0_5 => exact hm
                case hc302_1_5 => exact hpc
                case hc302_2_5 => exact ⟨by omega, hl4.1, hlow, hs3, (sd_in _).1, (sd_in _).2⟩
                case hc302_3_5 => have := hB (bI_1 c292); omega
                intro ov Mc1 hpo _
                obtain ⟨rfl, f2, q2, hm2, rfl⟩ := hpo
                refine v_iconst K (1) dX8_readsEntry_305 (by decide) ?_
                refine v_zret K E dX8_readsEntry_306 (by first | exact Or.inl rfl | exact Or.inr rfl | exact bI_01 _) ?_ rfl
                subst had
                exact ⟨by rw [e] <;> rfl, f2, q2, by rw [e, nxE_r]; exact hm2, by rw [e, nxE_r] <;> rfl⟩
            have l270 : V X 0 0 270 [(0, .ref (m 0)), (1, .int (bI ad)), (2, .int (nI P)), (3, .int (nI (tlF 4 (ts.drop P)).length)), (4, .int (sgn0 s2))] [.int (sdOf (ts.getD ((P + (tlF 4 (ts.drop P)).length + 1) + 1) (-5)))] [moM m hl it sz sl ut ol (nI ts.length) (nI ((P + (tlF 4 (ts.drop P)).length + 1) + 1)) (bI Z.2.2) (bI (tmB Z)) (nI (3 * Z.2.1.length)) rl, arF (XI X) (m 1) 570 f, arL (XI X) (m 12) 60 ts, arF (XI X) (m 13) 60 q] := by
              refine v_istore K dX8_readsEntry_270 (by decide) ?_
              refine v_aload_n K dX8_readsEntry_272 rfl ?_
              refine v_dup K dX8_readsEntry_273 rfl ?_
              refine v_get K 0 rfl hasF_c rfl iX8 19 (by decide) rfl (by decide +kernel) rfl dX8_readsEntry_274 ?_
              refine v_iload K dX8_readsEntry_277 rfl ?_
              refine v_if_le K 286 dX8_readsEntry_279 (by decide) (fun c279 => ?_) (fun c279 => ?_)
              · refine v_iconst K (0) dX8_readsEntry_286 (by decide) ?_
                refine v_iadd K dX8_readsEntry_287 ?_
                refine v_put K 0 rfl rfl iX8 tyX8 tyX8_ok nmX8 19 (by decide) rfl (by decide +kernel) rfl rfl (Nat.le_of_ble_eq_true rfl) dX8_readsEntry_288 ?_
                exact v_j l291 rfl rfl (by rw [sdP_0 c279, Int32.add_zero] <;> rfl)
              · refine v_iconst K (1) dX8_readsEntry_282 (by decide) ?_
                refine v_goto K 287 dX8_readsEntry_283 (by decide) ?_
                refine v_iadd K dX8_readsEntry_287 ?_
                refine v_put K 0 rfl rfl iX8 tyX8 tyX8_ok nmX8 19 (by decide) rfl (by decide +kernel) rfl rfl (Nat.le_of_ble_eq_true rfl) dX8_readsEntry_288 ?_
                exact v_j l291 rfl rfl (by rw [sdP_1 c279, nI_1] <;> rfl)
            refine v_istore K dX8_readsEntry_231 (by decide) ?_
            refine v_aload_n K dX8_readsEntry_233 rfl ?_
            refine v_dup K dX8_readsEntry_234 rfl ?_
            refine v_get K 0 rfl hasF_c rfl iX8 19 (by decide) rfl (by decide +kernel) rfl dX8_readsEntry_235 ?_
            refine v_iconst K (1) dX8_readsEntry_238 (by decide) ?_
            refine v_iadd K dX8_readsEntry_239 ?_
            refine v_put K 0 rfl rfl iX8 tyX8 tyX8_ok nmX8 19 (by decide) rfl (by decide +kernel) rfl rfl (Nat.le_of_ble_eq_true rfl) dX8_readsEntry_240 ?_
            rw [nI_1]
            refine v_aload_n K dX8_readsEntry_243 rfl ?_
            refine v_get K 0 rfl hasF_c rfl iX8 19 (by decide) rfl (by decide +kernel) rfl dX8_readsEntry_244 ?_
            refine v_aload_n K dX8_readsEntry_247 rfl ?_
            refine v_get K 0 rfl hasF_c rfl iX8 18 (by decide) rfl (by decide +kernel) rfl dX8_readsEntry_248 ?_
            refine v_ic_ge K 269 dX8_readsEntry_251 (by decide) (fun c251 => ?_) (fun c251 => ?_)
            · refine v_iconst K (0) dX8_readsEntry_269 (by decide) ?_
              have ho : ts.length ≤ (P + (tlF 4 (ts.drop P)).length + 1) + 1 := by rw [nI_leI (by omega) (by omega)] at c251; exact c251
              rw [gd_out ho] at l270
              exact v_j l270 rfl rfl rfl
            · have hl5 : (P + (tlF 4 (ts.drop P)).length + 1) + 1 < ts.length := nI_gt (by omega) (by omega) c251
              refine v_aload_n K dX8_readsEntry_254 rfl ?_
              refine v_get K 0 rfl hasF_c rfl iX8 17 (by decide) rfl (by decide +kernel) rfl dX8_readsEntry_255 ?_
              refine v_aload_n K dX8_readsEntry_258 rfl ?_
              refine v_get K 0 rfl hasF_c rfl iX8 19 (by decide) rfl (by decide +kernel) rfl dX8_readsEntry_259 ?_
              refine v_lald K 2 rfl ((P + (tlF 4 (ts.drop P)).length + 1) + 1) ?hx262_6 ?ix262_6 dX8_readsEntry_262 ?_
              case hx262_6 => exact rfl
              case ix262_6 => exact hl5
              refine v_callSi K [] (c_X8_sideOf (XI X) (XB X) _ ) rfl gX8_readsEntry_X8_sideOf rfl rfl hd_X8_sideOf ⟨rfl, rfl⟩ ⟨by decide, by decide⟩ (by decide) (Nat.le_of_ble_eq_true rfl) ⟨Nat.zero_le _, Nat.zero_le _⟩ rfl dX8_readsEntry_263 ?_
              refine v_goto K 270 dX8_readsEntry_266 (by decide) ?_
              exact v_j l270 rfl rfl rfl
          refine v_aload_n K dX8_readsEntry_180 rfl ?_
          refine v_bipush K (65) dX8_readsEntry_181 (by decide) ?_
          refine v_bipush K (90) dX8_readsEntry_183 (by decide) ?_
          refine v_callVi K [0, 2] (c_X8_isHere (XI X) (XB X) _ _ _ _ _ _ _ _ _ _ _ _ _ _ _ ?hc185_0_8 ?hc185_1_8) rfl gX8_readsEntry_X8_isHere rfl rfl hd_X8_isHere ⟨rfl, rfl⟩ ⟨by decide, by decide⟩ 0 rfl hasF_c rfl (by decide) (Nat.le_of_ble_eq_true rfl) ⟨Nat.zero_le _, Nat.zero_le _⟩ rfl dX8_readsEntry_185 ?_
          case hc185_0_8 => exact hQ
          case hc185_1_8 => decide
          rw [isH_sm]
          refine v_if_ne K 204 dX8_readsEntry_188 (by decide) (fun c188 => ?_) (fun c188 => ?_)
          · have hcc := bI_1 c188
            have hlt := snd_at (sok_c hcc)
            have hn95 := cpt_95 hcc
            refine v_aload_n K dX8_readsEntry_204 rfl ?_
            refine v_get K 0 rfl hasF_c rfl iX8 17 (by decide) rfl (by decide +kernel) rfl dX8_readsEntry_205 ?_
            refine v_aload_n K dX8_readsEntry_208 rfl ?_
            refine v_get K 0 rfl hasF_c rfl iX8 19 (by decide) rfl (by decide +kernel) rfl dX8_readsEntry_209 ?_
            refine v_lald K 2 rfl ((P + (tlF 4 (ts.drop P)).length + 1)) ?hx212_9 ?ix212_9 dX8_readsEntry_212 ?_
            case hx212_9 => exact rfl
            case ix212_9 => exact hlt
            refine v_bipush K (95) dX8_readsEntry_213 (by decide) ?_
            refine v_ic_ne K 222 dX8_readsEntry_215 (by decide) (fun c215 => ?_) (fun c215 => absurd c215 (hn95))
            refine v_aload_n K dX8_readsEntry_222 rfl ?_
            refine v_get K 0 rfl hasF_c rfl iX8 17 (by decide) rfl (by decide +kernel) rfl dX8_readsEntry_223 ?_
            refine v_aload_n K dX8_readsEntry_226 rfl ?_
            refine v_get K 0 rfl hasF_c rfl iX8 19 (by decide) rfl (by decide +kernel) rfl dX8_readsEntry_227 ?_
            refine v_lald K 2 rfl ((P + (tlF 4 (ts.drop P)).length + 1)) ?hx230_10 ?ix230_10 dX8_readsEntry_230 ?_
            case hx230_10 => exact rfl
            case ix230_10 => exact hlt
            rw [if_neg hn95] at l231
            have l := l231 _ rfl (Or.inr (of_decide_eq_true hcc)) (sok_c hcc)
            rw [sgn0_n (cap_0 hcc)] at l
            exact v_j l rfl rfl rfl
          · refine v_aload_n K dX8_readsEntry_191 rfl ?_
            refine v_bipush K (95) dX8_readsEntry_192 (by decide) ?_
            refine v_bipush K (95) dX8_readsEntry_194 (by decide) ?_
            refine v_callVi K [0, 2] (c_X8_isHere (XI X) (XB X) _ _ _ _ _ _ _ _ _ _ _ _ _ _ _ ?hc196_0_11 ?hc196_1_11) rfl gX8_readsEntry_X8_isHere rfl rfl hd_X8_isHere ⟨rfl, rfl⟩ ⟨by decide, by decide⟩ 0 rfl hasF_c rfl (by decide) (Nat.le_of_ble_eq_true rfl) ⟨Nat.zero_le _, Nat.zero_le _⟩ rfl dX8_readsEntry_196 ?_
            case hc196_0_11 => exact hQ
            case hc196_1_11 => decide
            rw [isH_eq]
            refine v_if_ne K 204 dX8_readsEntry_199 (by decide) (fun c199 => ?_) (fun c199 => ?_)
            · have h95 := of_decide_eq_true (bI_1 c199)
              have hlt := snd_at (sok_u h95)
              refine v_aload_n K dX8_readsEntry_204 rfl ?_
              refine v_get K 0 rfl hasF_c rfl iX8 17 (by decide) rfl (by decide +kernel) rfl dX8_readsEntry_205 ?_
              refine v_aload_n K dX8_readsEntry_208 rfl ?_
              refine v_get K 0 rfl hasF_c rfl iX8 19 (by decide) rfl (by decide +kernel) rfl dX8_readsEntry_209 ?_
              refine v_lald K 2 rfl ((P + (tlF 4 (ts.drop P)).length + 1)) ?hx212_12 ?ix212_12 dX8_readsEntry_212 ?_
              case hx212_12 => exact rfl
              case ix212_12 => exact hlt
              refine v_bipush K (95) dX8_readsEntry_213 (by decide) ?_
              refine v_ic_ne K 222 dX8_readsEntry_215 (by decide) (fun c215 => False.elim (c215 h95)) (fun c215 => ?_)
              refine v_iconst K (-1) dX8_readsEntry_218 (by decide) ?_
              refine v_goto K 231 dX8_readsEntry_219 (by decide) ?_
              rw [if_pos h95] at l231
              exact v_j (l231 0 rfl (Or.inl rfl) (sok_u h95)) rfl rfl rfl
            · refine v_iconst K (0) dX8_readsEntry_202 (by decide) ?_
              refine v_zret K E dX8_readsEntry_203 (by first | exact Or.inl rfl | exact Or.inr rfl | exact bI_01 _) ?_ rfl
              have e := tR_2 (v := v) h58 hcap h0 h61 (sok_n (bI_0 c188) (of_decide_eq_false (bI_0 c199)))
              exact ⟨by rw [e.1] <;> rfl, f, q, by rw [nxE_n e.1]; exact hm, by rw [nxE_n e.1, e.2] <;> rfl⟩
    · have hcap := bI_1 c94
      have hPl : P < ts.length := snd_at (sok_c hcap)
      have hP1 : P + 1 ≤ ts.length := hPl
      refine v_aload_n K dX8_readsEntry_97 rfl ?_
      refine v_dup K dX8_readsEntry_98 rfl ?_
      refine v_get K 0 rfl hasF_c rfl iX8 19 (by decide) rfl (by decide +kernel) rfl dX8_readsEntry_99 ?_
      refine v_iconst K (1) dX8_readsEntry_102 (by decide) ?_
      refine v_iadd K dX8_readsEntry_103 ?_
      refine v_put K 0 rfl rfl iX8 tyX8 tyX8_ok nmX8 19 (by decide) rfl (by decide +kernel) rfl rfl (Nat.le_of_ble_eq_true rfl) dX8_readsEntry_104 ?_
      rw [nI_1]
      refine v_aload_n K dX8_readsEntry_107 rfl ?_
      refine v_bipush K (61) dX8_readsEntry_108 (by decide) ?_
      refine v_callVi K [0, 2] (c_X8_takes (XI X) (XB X) _ _ _ _ _ _ _ _ _ _ _ _ _ _ ?hc110_0_13 ?hc110_1_13) rfl gX8_readsEntry_X8_takes rfl rfl hd_X8_takes ⟨rfl, rfl⟩ ⟨by decide, by decide⟩ 0 rfl hasF_c rfl (by decide) (Nat.le_of_ble_eq_true rfl) ⟨Nat.zero_le _, Nat.zero_le _⟩ rfl dX8_readsEntry_110 ?_
      case hc110_0_13 => exact hP1
      case hc110_1_13 => decide
      refine v_if_eq K 124 dX8_readsEntry_113 (by decide) (fun c113 => ?_) (fun c113 => ?_)
      · have h61 := of_decide_eq_false (bI_0 c113)
        rw [tkP_f h61]
        refine v_iconst K (0) dX8_readsEntry_124 (by decide) ?_
        refine v_istore_n K dX8_readsEntry_125 (by decide) ?_
        refine v_iload_n K dX8_readsEntry_126 rfl ?_
        refine v_if_le K 151 dX8_readsEntry_127 (by decide) (fun _ => ?_) (fun c => absurd (by decide) c)
        refine v_iload_n K dX8_readsEntry_151 rfl ?_
        refine v_if_le K 159 dX8_readsEntry_152 (by decide) (fun _ => ?_) (fun c => absurd (by decide) c)
        refine v_iconst K (0) dX8_readsEntry_159 (by decide) ?_
        refine v_zret K E dX8_readsEntry_160 (by first | exact Or.inl rfl | exact Or.inr rfl | exact bI_01 _) ?_ rfl
        have e := tS_0 (v := v) h58 hcap h61
        exact ⟨by rw [e.1] <;> rfl, f, q, by rw [nxE_n e.1]; exact hm, by rw [nxE_n e.1, e.2] <;> rfl⟩
      · have h61 := of_decide_eq_true (bI_1 c113)
        have hP2 : P + 2 ≤ ts.length := at_lt (ts := ts) (p := P + 1) (by rw [h61]; decide)
        rw [tkP_t h61]
        refine v_aload_n K dX8_readsEntry_116 rfl ?_
        refine v_iconst K (2) dX8_readsEntry_117 (by decide) ?_
        refine v_callVi K [0, 2] (c_X8_passes (XI X) (XB X) _ _ _ _ _ _ _ _ _ _ _ _ _ 2 ?hc118_0_14 ?hc118_1_14) rfl gX8_readsEntry_X8_passes rfl rfl hd_X8_passes ⟨rfl, rfl⟩ ⟨by decide, by decide⟩ 0 rfl hasF_c rfl (by decide) (Nat.le_of_ble_eq_true rfl) ⟨Nat.zero_le _, Nat.zero_le _⟩ rfl dX8_readsEntry_118 ?_
        case hc118_0_14 => exact hP2
        case hc118_1_14 => decide
        refine v_goto K 125 dX8_readsEntry_121 (by decide) ?_
        have hl2 := tlF_len 2 (ts.drop (P + 2))
        have hpc := pcT_tl (M := 2) hP2
        have hlow := tlF_low 2 (ts.drop (P + 2))
        have htl := tl_le (m := 2) hP2
        by_cases h0 : (tlF 2 (ts.drop (P + 2))).length = 0
        · skip
          refine v_istore_n K dX8_readsEntry_125 (by decide) ?_
          refine v_iload_n K dX8_readsEntry_126 rfl ?_
          refine v_if_le K 151 dX8_readsEntry_127 (by decide) (fun c127 => ?_) (fun c127 => False.elim (c127 (by rw [h0]; decide)))
          refine v_iload_n K dX8_readsEntry_151 rfl ?_
          refine v_if_le K 159 dX8_readsEntry_152 (by decide) (fun c152 => ?_) (fun c152 => False.elim (c152 (by rw [h0]; decide)))
          refine v_iconst K (0) dX8_readsEntry_159 (by decide) ?_
          refine v_zret K E dX8_readsEntry_160 (by first | exact Or.inl rfl | exact Or.inr rfl | exact bI_01 _) ?_ rfl
          have e := tS_1 (v := v) h58 hcap h61 h0
          exact ⟨by rw [e.1] <;> rfl, f, q, by rw [nxE_n e.1]; exact hm, by rw [nxE_n e.1, e.2] <;> rfl⟩
        · skip
          have hpos : ¬ nI (tlF 2 (ts.drop (P + 2))).length ≤ 0 := nI_nle (Nat.pos_of_ne_zero h0) (by omega)
          have e := tS_2 (v := v) h58 hcap h61 h0
          refine v_istore_n K dX8_readsEntry_125 (by decide) ?_
          refine v_iload_n K dX8_readsEntry_126 rfl ?_
          refine v_if_le K 151 dX8_readsEntry_127 (by decide) (fun c127 => False.elim (hpos c127)) (fun c127 => ?_)
          refine v_iload_n K dX8_readsEntry_130 rfl ?_
          refine v_if_eq K 151 dX8_readsEntry_131 (by decide) (fun c131 => ?_) (fun c131 => ?_)
          · refine v_iload_n K dX8_readsEntry_151 rfl ?_
            refine v_if_le K 159 dX8_readsEntry_152 (by decide) (fun c152 => False.elim (hpos c152)) (fun c152 => ?_)
            refine v_iconst K (1) dX8_readsEntry_155 (by decide) ?_
            refine v_goto K 160 dX8_readsEntry_156 (by decide) ?_
            refine v_zret K E dX8_readsEntry_160 (by first | exact Or.inl rfl | exact Or.inr rfl | exact bI_01 _) ?_ rfl
            have had := bI_0 c131
            subst had
            exact ⟨by rw [e] <;> rfl, f, q, by rw [nxE_0]; exact hm, by rw [nxE_0, e] <;> rfl⟩
          · have had := bI_1 c131
            obtain ⟨s, hs, hc1, hc2⟩ := cpt_n (of_decide_eq_true hcap)
            refine v_aload_n K dX8_readsEntry_134 rfl ?_
            refine v_aload_n K dX8_readsEntry_135 rfl ?_
            refine v_get K 0 rfl hasF_c rfl iX8 17 (by decide) rfl (by decide +kernel) rfl dX8_readsEntry_136 ?_
            refine v_iload_n K dX8_readsEntry_139 rfl ?_
            refine v_lald K 2 rfl (P) ?hx140_15 ?ix140_15 dX8_readsEntry_140 ?_
            case hx140_15 => exact rfl
            case ix140_15 => exact hPl
            refine v_bipush K (65) dX8_readsEntry_141 (by decide) ?_
            refine v_isub K dX8_readsEntry_143 ?_
            rw [hc2]
            refine v_iload_n K dX8_readsEntry_144 rfl ?_
            refine v_iconst K (2) dX8_readsEntry_145 (by decide) ?_
            refine v_iadd K dX8_readsEntry_146 ?_
            rw [show nI P + 2 = nI (P + 2) from nI_add P 2]
            refine v_iload_n K dX8_readsEntry_147 rfl ?_
            refine v_callVv K [0, 1, 2] (c_X8_setsSign (XI X) (XB X) _ _ _ _ _ _ _ _ _ _ _ _ _ _ s _ (tlF 2 (ts.drop (P + 2))) ?hc148_0_16 ?hc148_1_16 ?hc148_2_16) rfl gX8_readsEntry_X8_setsSign rfl rfl hd_X8_setsSign ⟨rfl, rfl⟩ ⟨by decide, by decide⟩ 0 rfl hasF_c rfl (by decide) (Nat.le_of_ble_eq_true rfl) ⟨Nat.zero_le _, Nat.zero_le _⟩ rfl dX8_readsEntry_148 ?_
            case hc148_0_16 => exact hs
            case hc148_1_16 => exact ⟨by omega, hl2.1⟩
            case hc148_2_16 => exact hpc
            refine v_iload_n K dX8_readsEntry_151 rfl ?_
            refine v_if_le K 159 dX8_readsEntry_152 (by decide) (fun c152 => False.elim (hpos c152)) (fun c152 => ?_)
            refine v_iconst K (1) dX8_readsEntry_155 (by decide) ?_
            refine v_goto K 160 dX8_readsEntry_156 (by decide) ?_
            refine v_zret K E dX8_readsEntry_160 (by first | exact Or.inl rfl | exact Or.inr rfl | exact bI_01 _) ?_ rfl
            subst had
            have e5 : (nI s).toNatClampNeg = s := nI_clamp (by omega)
            exact ⟨by rw [e] <;> rfl, _, q, by rw [e, nxE_s, hc2, e5]; exact ⟨allR_addG hA hs ⟨by omega, hl2.1, hlow⟩, hm.2⟩, by rw [e, nxE_s] <;> rfl⟩
  · have h58 := of_decide_eq_true (bI_1 c11)
    have hPl : P < ts.length := at_lt (by rw [h58]; decide)
    have hP1 : P + 1 ≤ ts.length := hPl
    rw [tkP_t h58]
    refine v_aload_n K dX8_readsEntry_14 rfl ?_
    refine v_bipush K (12) dX8_readsEntry_15 (by decide) ?_
    refine v_callVi K [0, 2] (c_X8_passes (XI X) (XB X) _ _ _ _ _ _ _ _ _ _ _ _ _ 12 ?hc17_0_17 ?hc17_1_17) rfl gX8_readsEntry_X8_passes rfl rfl hd_X8_passes ⟨rfl, rfl⟩ ⟨by decide, by decide⟩ 0 rfl hasF_c rfl (by decide) (Nat.le_of_ble_eq_true rfl) ⟨Nat.zero_le _, Nat.zero_le _⟩ rfl dX8_readsEntry_17 ?_
    case hc17_0_17 => exact hP1
    case hc17_1_17 => decide
    refine v_istore_n K dX8_readsEntry_20 (by decide) ?_
    have hl12 := tlF_len 12 (ts.drop (P + 1))
    have hpc := pcT_tl (M := 12) hP1
    have hlow := tlF_low 12 (ts.drop (P + 1))
    have htl := tl_le (m := 12) hP1
    by_cases h0 : (tlF 12 (ts.drop (P + 1))).length = 0
    · skip
      refine v_iload_n K dX8_readsEntry_21 rfl ?_
      refine v_if_le K 38 dX8_readsEntry_22 (by decide) (fun c22 => ?_) (fun c22 => False.elim (c22 (by rw [h0]; decide)))
      refine v_iload_n K dX8_readsEntry_38 rfl ?_
      refine v_if_le K 55 dX8_readsEntry_39 (by decide) (fun c39 => ?_) (fun c39 => False.elim (c39 (by rw [h0]; decide)))
      refine v_iconst K (0) dX8_readsEntry_55 (by decide) ?_
      refine v_istore K dX8_readsEntry_56 (by decide) ?_
      refine v_iload_n K dX8_readsEntry_58 rfl ?_
      refine v_if_le K 76 dX8_readsEntry_59 (by decide) (fun c59 => ?_) (fun c59 => False.elim (c59 (by rw [h0]; decide)))
      refine v_iload_n K dX8_readsEntry_76 rfl ?_
      refine v_if_le K 84 dX8_readsEntry_77 (by decide) (fun c77 => ?_) (fun c77 => False.elim (c77 (by rw [h0]; decide)))
      refine v_iconst K (0) dX8_readsEntry_84 (by decide) ?_
      refine v_zret K E dX8_readsEntry_85 (by first | exact Or.inl rfl | exact Or.inr rfl | exact bI_01 _) ?_ rfl
      have e := tW_0 (v := v) h58 h0
      exact ⟨by rw [e.1] <;> rfl, f, q, by rw [nxE_n e.1]; exact hm, by rw [nxE_n e.1, e.2] <;> rfl⟩
    · skip
      have hpos : ¬ nI (tlF 12 (ts.drop (P + 1))).length ≤ 0 := nI_nle (Nat.pos_of_ne_zero h0) (by omega)
      have l56 : ∀ (kd : Int32) (P2 : Nat), 0 ≤ kd ∧ kd ≤ 2 → tEntry ts (P, v) = (true, (P2, 1, v.2.1, v.2.2.1, kd, (tlF 12 (ts.drop (P + 1))))) → V X 0 0 56 [(0, .ref (m 0)), (1, .int (bI ad)), (2, .int (nI P)), (3, .int (nI (tlF 12 (ts.drop (P + 1))).length))] [.int kd] [moM m hl it sz sl ut ol (nI ts.length) (nI P2) (bI Z.2.2) (bI (tmB Z)) (nI (3 * Z.2.1.length)) rl, arF (XI X) (m 1) 570 f, arL (XI X) (m 12) 60 ts, arF (XI X) (m 13) 60 q] := by
        intro kd P2 hk e
        refine v_istore K dX8_readsEntry_56 (by decide) ?_
        refine v_iload_n K dX8_readsEntry_58 rfl ?_
        refine v_if_le K 76 dX8_readsEntry_59 (by decide) (fun c59 => False.elim (hpos c59)) (fun c59 => ?_)
        refine v_iload_n K dX8_readsEntry_62 rfl ?_
        refine v_if_eq K 76 dX8_readsEntry_63 (by decide) (fun c63 => ?_) (fun c63 => ?_)
        · refine v_iload_n K dX8_readsEntry_76 rfl ?_
          refine v_if_le K 84 dX8_readsEntry_77 (by decide) (fun c77 => False.elim (hpos c77)) (fun c77 => ?_)
          refine v_iconst K (1) dX8_readsEntry_80 (by decide) ?_
          refine v_goto K 85 dX8_readsEntry_81 (by decide) ?_
          refine v_zret K E dX8_readsEntry_85 (by first | exact Or.inl rfl | exact Or.inr rfl | exact bI_01 _) ?_ rfl
          have had := bI_0 c63
          subst had
          exact ⟨by rw [e] <;> rfl, f, q, by rw [nxE_0]; exact hm, by rw [nxE_0, e] <;> rfl⟩
        · have had := bI_1 c63
          refine v_aload_n K dX8_readsEntry_66 rfl ?_
          refine v_iload_n K dX8_readsEntry_67 rfl ?_
          refine v_iconst K (1) dX8_readsEntry_68 (by decide) ?_
          refine v_iadd K dX8_readsEntry_69 ?_
          rw [nI_1]
          refine v_iload_n K dX8_readsEntry_70 rfl ?_
          refine v_iload K dX8_readsEntry_71 rfl ?_
          refine v_callV K [0, 1, 2, 3] (c_X8_addsWord (XI X) (XB X) _ _ _ _ _ _ _ _ _ Z _ _ _ _ (tlF 12 (ts.drop (P + 1))) _ ?hc73_0_18 ?hc73_1_18 ?hc73_2_18 ?hc73_3_18) rfl gX8_readsEntry_X8_addsWord rfl rfl hd_X8_addsWord ⟨rfl, rfl⟩ ⟨by decide, by decide⟩ 0 rfl hasF_c rfl (by decide) (Nat.le_of_ble_eq_true rfl) ⟨Nat.zero_le _, Nat.zero_le _⟩ rfl dX8_readsEntry_73 ?_
          case hc73_0_18 => exact hm
          case hc73_1_18 => exact hpc
          case hc73_2_18 => exact ⟨by omega, hl12.1, hlow, hk.1, hk.2⟩
          case hc73_3_18 => have := hB (bI_1 c63); omega
          intro ov Mc1 hpo _
          obtain ⟨rfl, f2, q2, hm2, rfl⟩ := hpo
          refine v_iload_n K dX8_readsEntry_76 rfl ?_
          refine v_if_le K 84 dX8_readsEntry_77 (by decide) (fun c77 => False.elim (hpos c77)) (fun c77 => ?_)
          refine v_iconst K (1) dX8_readsEntry_80 (by decide) ?_
          refine v_goto K 85 dX8_readsEntry_81 (by decide) ?_
          refine v_zret K E dX8_readsEntry_85 (by first | exact Or.inl rfl | exact Or.inr rfl | exact bI_01 _) ?_ rfl
          subst had
          exact ⟨by rw [e] <;> rfl, f2, q2, by rw [e, nxE_w]; exact hm2, by rw [e, nxE_w] <;> rfl⟩
      refine v_iload_n K dX8_readsEntry_21 rfl ?_
      refine v_if_le K 38 dX8_readsEntry_22 (by decide) (fun c22 => False.elim (hpos c22)) (fun c22 => ?_)
      refine v_aload_n K dX8_readsEntry_25 rfl ?_
      refine v_bipush K (33) dX8_readsEntry_26 (by decide) ?_
      refine v_callVi K [0, 2] (c_X8_takes (XI X) (XB X) _ _ _ _ _ _ _ _ _ _ _ _ _ _ ?hc28_0_19 ?hc28_1_19) rfl gX8_readsEntry_X8_takes rfl rfl hd_X8_takes ⟨rfl, rfl⟩ ⟨by decide, by decide⟩ 0 rfl hasF_c rfl (by decide) (Nat.le_of_ble_eq_true rfl) ⟨Nat.zero_le _, Nat.zero_le _⟩ rfl dX8_readsEntry_28 ?_
      case hc28_0_19 => exact htl
      case hc28_1_19 => decide
      refine v_if_eq K 38 dX8_readsEntry_31 (by decide) (fun c31 => ?_) (fun c31 => ?_)
      · refine v_iload_n K dX8_readsEntry_38 rfl ?_
        refine v_if_le K 55 dX8_readsEntry_39 (by decide) (fun c39 => False.elim (hpos c39)) (fun c39 => ?_)
        have h33 := of_decide_eq_false (bI_0 c31)
        rw [tkP_f h33]
        refine v_aload_n K dX8_readsEntry_42 rfl ?_
        refine v_bipush K (39) dX8_readsEntry_43 (by decide) ?_
        refine v_callVi K [0, 2] (c_X8_takes (XI X) (XB X) _ _ _ _ _ _ _ _ _ _ _ _ _ _ ?hc45_0_20 ?hc45_1_20) rfl gX8_readsEntry_X8_takes rfl rfl hd_X8_takes ⟨rfl, rfl⟩ ⟨by decide, by decide⟩ 0 rfl hasF_c rfl (by decide) (Nat.le_of_ble_eq_true rfl) ⟨Nat.zero_le _, Nat.zero_le _⟩ rfl dX8_readsEntry_45 ?_
        case hc45_0_20 => exact htl
        case hc45_1_20 => decide
        refine v_if_eq K 55 dX8_readsEntry_48 (by decide) (fun c48 => ?_) (fun c48 => ?_)
        · have h39 := of_decide_eq_false (bI_0 c48)
          rw [tkP_f h39]
          refine v_iconst K (0) dX8_readsEntry_55 (by decide) ?_
          exact v_j (l56 0 _ (by decide) (tW_3 h58 h0 h33 h39)) rfl rfl rfl
        · have h39 := of_decide_eq_true (bI_1 c48)
          rw [tkP_t h39]
          refine v_iconst K (2) dX8_readsEntry_51 (by decide) ?_
          refine v_goto K 56 dX8_readsEntry_52 (by decide) ?_
          exact v_j (l56 2 _ (by decide) (tW_2 h58 h0 h33 h39)) rfl rfl rfl
      · have h33 := of_decide_eq_true (bI_1 c31)
        rw [tkP_t h33]
        refine v_iconst K (1) dX8_readsEntry_34 (by decide) ?_
        refine v_goto K 56 dX8_readsEntry_35 (by decide) ?_
        exact v_j (l56 1 _ (by decide) (tW_1 h58 h0 h33)) rfl rfl rfl
