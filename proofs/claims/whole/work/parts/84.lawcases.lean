set_option maxHeartbeats 1000000 in
set_option maxRecDepth 100000 in
theorem lc_readEntries {X : Cx} {b L k1 k2 : Nat} {xs0 : Nat → Int32} (K : okx X code 4 RL wsL_law room_1) (E : lwx X b L xs0) {a m : Nat → Nat} {g HB : Nat → Nat → Nat} {o : Ob} {c : Sc} {Mm : List Md} {I : Nat} (hm : mOk (XI X) m o Mm) (hI : I + 4 ≤ L) (hk : k1 ≤ room_1.cells ∧ k2 ≤ room_1.slots) (kk : ∀ (o' : Ob) (c' : Sc) (M' : List Md), mOk (XI X) m o' M' → V X k1 k2 659 [(0, .ref b), (1, .ref (a 0)), (2, .ref (m 0)), (3, .int (nI I))] [] (wl (XI X) (XB X) a g HB o' c' ++ M')) : V X k1 k2 132 [(0, .ref b), (1, .ref (a 0)), (2, .ref (m 0)), (3, .int (nI I))] [] (wl (XI X) (XB X) a g HB o c ++ Mm) := by
  have hL : L ≤ 2048 := E.2.2.2.2.2.2
  obtain ⟨sz, sl, ut, ol, sp, tw, tm, mm, f, kp, h, s, q, xs, rf, sd, us, os, C, N, hd, hn, hok, rfl⟩ := hm
  refine v_aload_n K dL_law_132 rfl ?_
  refine v_lawX K (r := sRead o (c.2.2.1.2.1, c.2.2.1.2.2.1, c.2.2.1.2.2.2.1, c.2.2.1.2.2.2.2, c.2.1)) (k_X7_readEntries (XI X) (XB X) a g HB o c ) gL_law_X7_readEntries rfl rfl hd_X7_readEntries ⟨rfl, rfl⟩ ⟨by decide, by decide⟩ (Nat.le_of_ble_eq_true rfl) hk rfl dL_law_133 (fun c' => ?_)
  refine v_aload_n K dL_law_136 rfl ?_
  refine v_lawM K (r := sRead o (c.2.2.1.2.1, c.2.2.1.2.2.1, c.2.2.1.2.2.2.1, c.2.2.1.2.2.2.2, c.2.1)) (w_X8_readEntries (XI X) (XB X) m o sz sl ut ol sp tw tm mm f kp h s q xs rf sd us os C N hd hn  (c.2.2.1.2.1, c.2.2.1.2.2.1, c.2.2.1.2.2.2.1, c.2.2.1.2.2.2.2, c.2.1) hok) rfl rfl gL_law_X8_readEntries rfl rfl hd_X8_readEntries ⟨rfl, rfl⟩ ⟨by decide, by decide⟩ (Nat.le_of_ble_eq_true rfl) hk rfl dL_law_137 (fun M' hM' => ?_)
  exact v_ic_eq K 659 dL_law_140 (by decide) (fun _ => kk _ c' M' hM') (fun cx => absurd rfl cx)
set_option maxHeartbeats 1000000 in
set_option maxRecDepth 100000 in
theorem lc_removeRule {X : Cx} {b L k1 k2 : Nat} {xs0 : Nat → Int32} (K : okx X code 4 RL wsL_law room_1) (E : lwx X b L xs0) {a m : Nat → Nat} {g HB : Nat → Nat → Nat} {o : Ob} {c : Sc} {Mm : List Md} {I : Nat} (hm : mOk (XI X) m o Mm) (hI : I + 4 ≤ L) (hk : k1 ≤ room_1.cells ∧ k2 ≤ room_1.slots) (kk : ∀ (o' : Ob) (c' : Sc) (M' : List Md), mOk (XI X) m o' M' → V X k1 k2 659 [(0, .ref b), (1, .ref (a 0)), (2, .ref (m 0)), (3, .int (nI I))] [] (wl (XI X) (XB X) a g HB o' c' ++ M')) : V X k1 k2 145 [(0, .ref b), (1, .ref (a 0)), (2, .ref (m 0)), (3, .int (nI I))] [] (wl (XI X) (XB X) a g HB o c ++ Mm) := by
  have hL : L ≤ 2048 := E.2.2.2.2.2.2
  obtain ⟨sz, sl, ut, ol, sp, tw, tm, mm, f, kp, h, s, q, xs, rf, sd, us, os, C, N, hd, hn, hok, rfl⟩ := hm
  refine v_aload_n K dL_law_145 rfl ?_
  refine v_aload_n K dL_law_146 rfl ?_
  refine v_iload_n K dL_law_147 rfl ?_
  refine v_iconst K (1) dL_law_148 (by decide) ?_
  refine v_iadd K dL_law_149 ?_
  refine v_sld K E (lw_q (k := 1) (by omega) hL) dL_law_150 ?_
  refine v_lawX K (r := sRmR o (xs0 (nI I + 1).toNatClampNeg)) (k_X7_removeRule (XI X) (XB X) a g HB o c ((xs0 (nI I + 1).toNatClampNeg))) gL_law_X7_removeRule rfl rfl hd_X7_removeRule ⟨rfl, rfl⟩ ⟨by decide, by decide⟩ (Nat.le_of_ble_eq_true rfl) hk rfl dL_law_151 (fun c' => ?_)
  refine v_aload_n K dL_law_154 rfl ?_
  refine v_aload_n K dL_law_155 rfl ?_
  refine v_iload_n K dL_law_156 rfl ?_
  refine v_iconst K (1) dL_law_157 (by decide) ?_
  refine v_iadd K dL_law_158 ?_
  refine v_sld K E (lw_q (k := 1) (by omega) hL) dL_law_159 ?_
  refine v_lawM K (r := sRmR o (xs0 (nI I + 1).toNatClampNeg)) (w_X8_removeRule (XI X) (XB X) m o sz sl ut ol sp tw tm mm f kp h s q xs rf sd us os C N hd hn ((xs0 (nI I + 1).toNatClampNeg)) hok) rfl rfl gL_law_X8_removeRule rfl rfl hd_X8_removeRule ⟨rfl, rfl⟩ ⟨by decide, by decide⟩ (Nat.le_of_ble_eq_true rfl) hk rfl dL_law_160 (fun M' hM' => ?_)
  exact v_ic_eq K 659 dL_law_163 (by decide) (fun _ => kk _ c' M' hM') (fun cx => absurd rfl cx)
set_option maxHeartbeats 1000000 in
set_option maxRecDepth 100000 in
theorem lc_moveRule {X : Cx} {b L k1 k2 : Nat} {xs0 : Nat → Int32} (K : okx X code 4 RL wsL_law room_1) (E : lwx X b L xs0) {a m : Nat → Nat} {g HB : Nat → Nat → Nat} {o : Ob} {c : Sc} {Mm : List Md} {I : Nat} (hm : mOk (XI X) m o Mm) (hI : I + 4 ≤ L) (hk : k1 ≤ room_1.cells ∧ k2 ≤ room_1.slots) (kk : ∀ (o' : Ob) (c' : Sc) (M' : List Md), mOk (XI X) m o' M' → V X k1 k2 659 [(0, .ref b), (1, .ref (a 0)), (2, .ref (m 0)), (3, .int (nI I))] [] (wl (XI X) (XB X) a g HB o' c' ++ M')) : V X k1 k2 168 [(0, .ref b), (1, .ref (a 0)), (2, .ref (m 0)), (3, .int (nI I))] [] (wl (XI X) (XB X) a g HB o c ++ Mm) := by
  have hL : L ≤ 2048 := E.2.2.2.2.2.2
  obtain ⟨sz, sl, ut, ol, sp, tw, tm, mm, f, kp, h, s, q, xs, rf, sd, us, os, C, N, hd, hn, hok, rfl⟩ := hm
  refine v_aload_n K dL_law_168 rfl ?_
  refine v_aload_n K dL_law_169 rfl ?_
  refine v_iload_n K dL_law_170 rfl ?_
  refine v_iconst K (1) dL_law_171 (by decide) ?_
  refine v_iadd K dL_law_172 ?_
  refine v_sld K E (lw_q (k := 1) (by omega) hL) dL_law_173 ?_
  refine v_aload_n K dL_law_174 rfl ?_
  refine v_iload_n K dL_law_175 rfl ?_
  refine v_iconst K (2) dL_law_176 (by decide) ?_
  refine v_iadd K dL_law_177 ?_
  refine v_sld K E (lw_q (k := 2) (by omega) hL) dL_law_178 ?_
  refine v_lawX K (r := sMvR o (xs0 (nI I + 1).toNatClampNeg) (xs0 (nI I + 2).toNatClampNeg)) (k_X7_moveRule (XI X) (XB X) a g HB o c ((xs0 (nI I + 1).toNatClampNeg)) ((xs0 (nI I + 2).toNatClampNeg))) gL_law_X7_moveRule rfl rfl hd_X7_moveRule ⟨rfl, rfl⟩ ⟨by decide, by decide⟩ (Nat.le_of_ble_eq_true rfl) hk rfl dL_law_179 (fun c' => ?_)
  refine v_aload_n K dL_law_182 rfl ?_
  refine v_aload_n K dL_law_183 rfl ?_
  refine v_iload_n K dL_law_184 rfl ?_
  refine v_iconst K (1) dL_law_185 (by decide) ?_
  refine v_iadd K dL_law_186 ?_
  refine v_sld K E (lw_q (k := 1) (by omega) hL) dL_law_187 ?_
  refine v_aload_n K dL_law_188 rfl ?_
  refine v_iload_n K dL_law_189 rfl ?_
  refine v_iconst K (2) dL_law_190 (by decide) ?_
  refine v_iadd K dL_law_191 ?_
  refine v_sld K E (lw_q (k := 2) (by omega) hL) dL_law_192 ?_
  refine v_lawM K (r := sMvR o (xs0 (nI I + 1).toNatClampNeg) (xs0 (nI I + 2).toNatClampNeg)) (w_X8_moveRule (XI X) (XB X) m o sz sl ut ol sp tw tm mm f kp h s q xs rf sd us os C N hd hn ((xs0 (nI I + 1).toNatClampNeg)) ((xs0 (nI I + 2).toNatClampNeg)) hok) rfl rfl gL_law_X8_moveRule rfl rfl hd_X8_moveRule ⟨rfl, rfl⟩ ⟨by decide, by decide⟩ (Nat.le_of_ble_eq_true rfl) hk rfl dL_law_193 (fun M' hM' => ?_)
  exact v_ic_eq K 659 dL_law_196 (by decide) (fun _ => kk _ c' M' hM') (fun cx => absurd rfl cx)
set_option maxHeartbeats 1000000 in
set_option maxRecDepth 100000 in
theorem lc_removeWord {X : Cx} {b L k1 k2 : Nat} {xs0 : Nat → Int32} (K : okx X code 4 RL wsL_law room_1) (E : lwx X b L xs0) {a m : Nat → Nat} {g HB : Nat → Nat → Nat} {o : Ob} {c : Sc} {Mm : List Md} {I : Nat} (hm : mOk (XI X) m o Mm) (hI : I + 4 ≤ L) (hk : k1 ≤ room_1.cells ∧ k2 ≤ room_1.slots) (kk : ∀ (o' : Ob) (c' : Sc) (M' : List Md), mOk (XI X) m o' M' → V X k1 k2 659 [(0, .ref b), (1, .ref (a 0)), (2, .ref (m 0)), (3, .int (nI I))] [] (wl (XI X) (XB X) a g HB o' c' ++ M')) : V X k1 k2 201 [(0, .ref b), (1, .ref (a 0)), (2, .ref (m 0)), (3, .int (nI I))] [] (wl (XI X) (XB X) a g HB o c ++ Mm) := by
  have hL : L ≤ 2048 := E.2.2.2.2.2.2
  obtain ⟨sz, sl, ut, ol, sp, tw, tm, mm, f, kp, h, s, q, xs, rf, sd, us, os, C, N, hd, hn, hok, rfl⟩ := hm
  refine v_aload_n K dL_law_201 rfl ?_
  refine v_aload_n K dL_law_202 rfl ?_
  refine v_iload_n K dL_law_203 rfl ?_
  refine v_iconst K (1) dL_law_204 (by decide) ?_
  refine v_iadd K dL_law_205 ?_
  refine v_sld K E (lw_q (k := 1) (by omega) hL) dL_law_206 ?_
  refine v_lawX K (r := sRmW o (xs0 (nI I + 1).toNatClampNeg)) (k_X7_removeWord (XI X) (XB X) a g HB o c ((xs0 (nI I + 1).toNatClampNeg))) gL_law_X7_removeWord rfl rfl hd_X7_removeWord ⟨rfl, rfl⟩ ⟨by decide, by decide⟩ (Nat.le_of_ble_eq_true rfl) hk rfl dL_law_207 (fun c' => ?_)
  refine v_aload_n K dL_law_210 rfl ?_
  refine v_aload_n K dL_law_211 rfl ?_
  refine v_iload_n K dL_law_212 rfl ?_
  refine v_iconst K (1) dL_law_213 (by decide) ?_
  refine v_iadd K dL_law_214 ?_
  refine v_sld K E (lw_q (k := 1) (by omega) hL) dL_law_215 ?_
  refine v_lawM K (r := sRmW o (xs0 (nI I + 1).toNatClampNeg)) (w_X8_removeWord (XI X) (XB X) m o sz sl ut ol sp tw tm mm f kp h s q xs rf sd us os C N hd hn ((xs0 (nI I + 1).toNatClampNeg)) hok) rfl rfl gL_law_X8_removeWord rfl rfl hd_X8_removeWord ⟨rfl, rfl⟩ ⟨by decide, by decide⟩ (Nat.le_of_ble_eq_true rfl) hk rfl dL_law_216 (fun M' hM' => ?_)
  exact v_ic_eq K 659 dL_law_219 (by decide) (fun _ => kk _ c' M' hM') (fun cx => absurd rfl cx)
set_option maxHeartbeats 1000000 in
set_option maxRecDepth 100000 in
theorem lc_setKind {X : Cx} {b L k1 k2 : Nat} {xs0 : Nat → Int32} (K : okx X code 4 RL wsL_law room_1) (E : lwx X b L xs0) {a m : Nat → Nat} {g HB : Nat → Nat → Nat} {o : Ob} {c : Sc} {Mm : List Md} {I : Nat} (hm : mOk (XI X) m o Mm) (hI : I + 4 ≤ L) (hk : k1 ≤ room_1.cells ∧ k2 ≤ room_1.slots) (kk : ∀ (o' : Ob) (c' : Sc) (M' : List Md), mOk (XI X) m o' M' → V X k1 k2 659 [(0, .ref b), (1, .ref (a 0)), (2, .ref (m 0)), (3, .int (nI I))] [] (wl (XI X) (XB X) a g HB o' c' ++ M')) : V X k1 k2 224 [(0, .ref b), (1, .ref (a 0)), (2, .ref (m 0)), (3, .int (nI I))] [] (wl (XI X) (XB X) a g HB o c ++ Mm) := by
  have hL : L ≤ 2048 := E.2.2.2.2.2.2
  obtain ⟨sz, sl, ut, ol, sp, tw, tm, mm, f, kp, h, s, q, xs, rf, sd, us, os, C, N, hd, hn, hok, rfl⟩ := hm
  refine v_aload_n K dL_law_224 rfl ?_
  refine v_aload_n K dL_law_225 rfl ?_
  refine v_iload_n K dL_law_226 rfl ?_
  refine v_iconst K (1) dL_law_227 (by decide) ?_
  refine v_iadd K dL_law_228 ?_
  refine v_sld K E (lw_q (k := 1) (by omega) hL) dL_law_229 ?_
  refine v_aload_n K dL_law_230 rfl ?_
  refine v_iload_n K dL_law_231 rfl ?_
  refine v_iconst K (2) dL_law_232 (by decide) ?_
  refine v_iadd K dL_law_233 ?_
  refine v_sld K E (lw_q (k := 2) (by omega) hL) dL_law_234 ?_
  refine v_lawX K (r := sKind o (xs0 (nI I + 1).toNatClampNeg) (xs0 (nI I + 2).toNatClampNeg)) (k_X7_setKind (XI X) (XB X) a g HB o c ((xs0 (nI I + 1).toNatClampNeg)) ((xs0 (nI I + 2).toNatClampNeg))) gL_law_X7_setKind rfl rfl hd_X7_setKind ⟨rfl, rfl⟩ ⟨by decide, by decide⟩ (Nat.le_of_ble_eq_true rfl) hk rfl dL_law_235 (fun c' => ?_)
  refine v_aload_n K dL_law_238 rfl ?_
  refine v_aload_n K dL_law_239 rfl ?_
  refine v_iload_n K dL_law_240 rfl ?_
  refine v_iconst K (1) dL_law_241 (by decide) ?_
  refine v_iadd K dL_law_242 ?_
  refine v_sld K E (lw_q (k := 1) (by omega) hL) dL_law_243 ?_
  refine v_aload_n K dL_law_244 rfl ?_
  refine v_iload_n K dL_law_245 rfl ?_
  refine v_iconst K (2) dL_law_246 (by decide) ?_
  refine v_iadd K dL_law_247 ?_
  refine v_sld K E (lw_q (k := 2) (by omega) hL) dL_law_248 ?_
  refine v_lawM K (r := sKind o (xs0 (nI I + 1).toNatClampNeg) (xs0 (nI I + 2).toNatClampNeg)) (w_X8_setKind (XI X) (XB X) m o sz sl ut ol sp tw tm mm f kp h s q xs rf sd us os C N hd hn ((xs0 (nI I + 1).toNatClampNeg)) ((xs0 (nI I + 2).toNatClampNeg)) hok) rfl rfl gL_law_X8_setKind rfl rfl hd_X8_setKind ⟨rfl, rfl⟩ ⟨by decide, by decide⟩ (Nat.le_of_ble_eq_true rfl) hk rfl dL_law_249 (fun M' hM' => ?_)
  exact v_ic_eq K 659 dL_law_252 (by decide) (fun _ => kk _ c' M' hM') (fun cx => absurd rfl cx)
set_option maxHeartbeats 1000000 in
set_option maxRecDepth 100000 in
theorem lc_markCollisions {X : Cx} {b L k1 k2 : Nat} {xs0 : Nat → Int32} (K : okx X code 4 RL wsL_law room_1) (E : lwx X b L xs0) {a m : Nat → Nat} {g HB : Nat → Nat → Nat} {o : Ob} {c : Sc} {Mm : List Md} {I : Nat} (hm : mOk (XI X) m o Mm) (hI : I + 4 ≤ L) (hk : k1 ≤ room_1.cells ∧ k2 ≤ room_1.slots) (kk : ∀ (o' : Ob) (c' : Sc) (M' : List Md), mOk (XI X) m o' M' → V X k1 k2 659 [(0, .ref b), (1, .ref (a 0)), (2, .ref (m 0)), (3, .int (nI I))] [] (wl (XI X) (XB X) a g HB o' c' ++ M')) : V X k1 k2 257 [(0, .ref b), (1, .ref (a 0)), (2, .ref (m 0)), (3, .int (nI I))] [] (wl (XI X) (XB X) a g HB o c ++ Mm) := by
  have hL : L ≤ 2048 := E.2.2.2.2.2.2
  obtain ⟨sz, sl, ut, ol, sp, tw, tm, mm, f, kp, h, s, q, xs, rf, sd, us, os, C, N, hd, hn, hok, rfl⟩ := hm
  refine v_aload_n K dL_law_257 rfl ?_
  refine v_lawX K (r := sMark o) (k_X7_markCollisions (XI X) (XB X) a g HB o c ) gL_law_X7_markCollisions rfl rfl hd_X7_markCollisions ⟨rfl, rfl⟩ ⟨by decide, by decide⟩ (Nat.le_of_ble_eq_true rfl) hk rfl dL_law_258 (fun c' => ?_)
  refine v_aload_n K dL_law_261 rfl ?_
  refine v_lawM K (r := sMark o) (w_X8_markCollisions (XI X) (XB X) m o sz sl ut ol sp tw tm mm f kp h s q xs rf sd us os C N hd hn  hok) rfl rfl gL_law_X8_markCollisions rfl rfl hd_X8_markCollisions ⟨rfl, rfl⟩ ⟨by decide, by decide⟩ (Nat.le_of_ble_eq_true rfl) hk rfl dL_law_262 (fun M' hM' => ?_)
  exact v_ic_eq K 659 dL_law_265 (by decide) (fun _ => kk _ c' M' hM') (fun cx => absurd rfl cx)
set_option maxHeartbeats 1000000 in
set_option maxRecDepth 100000 in
theorem lc_type {X : Cx} {b L k1 k2 : Nat} {xs0 : Nat → Int32} (K : okx X code 4 RL wsL_law room_1) (E : lwx X b L xs0) {a m : Nat → Nat} {g HB : Nat → Nat → Nat} {o : Ob} {c : Sc} {Mm : List Md} {I : Nat} (hm : mOk (XI X) m o Mm) (hI : I + 4 ≤ L) (hk : k1 ≤ room_1.cells ∧ k2 ≤ room_1.slots) (kk : ∀ (o' : Ob) (c' : Sc) (M' : List Md), mOk (XI X) m o' M' → V X k1 k2 659 [(0, .ref b), (1, .ref (a 0)), (2, .ref (m 0)), (3, .int (nI I))] [] (wl (XI X) (XB X) a g HB o' c' ++ M')) : V X k1 k2 270 [(0, .ref b), (1, .ref (a 0)), (2, .ref (m 0)), (3, .int (nI I))] [] (wl (XI X) (XB X) a g HB o c ++ Mm) := by
  have hL : L ≤ 2048 := E.2.2.2.2.2.2
  obtain ⟨sz, sl, ut, ol, sp, tw, tm, mm, f, kp, h, s, q, xs, rf, sd, us, os, C, N, hd, hn, hok, rfl⟩ := hm
  refine v_aload_n K dL_law_270 rfl ?_
  refine v_aload_n K dL_law_271 rfl ?_
  refine v_iload_n K dL_law_272 rfl ?_
  refine v_iconst K (1) dL_law_273 (by decide) ?_
  refine v_iadd K dL_law_274 ?_
  refine v_sld K E (lw_q (k := 1) (by omega) hL) dL_law_275 ?_
  refine v_i2c K dL_law_276 ?_
  refine v_lawX K (r := sType o ((xs0 (nI I + 1).toNatClampNeg).toUInt32 % 65536).toInt32) (k_X7_type (XI X) (XB X) a g HB o c (((xs0 (nI I + 1).toNatClampNeg).toUInt32 % 65536).toInt32)) gL_law_X7_type rfl rfl hd_X7_type ⟨rfl, rfl⟩ ⟨by decide, by decide⟩ (Nat.le_of_ble_eq_true rfl) hk rfl dL_law_277 (fun c' => ?_)
  refine v_aload_n K dL_law_280 rfl ?_
  refine v_aload_n K dL_law_281 rfl ?_
  refine v_iload_n K dL_law_282 rfl ?_
  refine v_iconst K (1) dL_law_283 (by decide) ?_
  refine v_iadd K dL_law_284 ?_
  refine v_sld K E (lw_q (k := 1) (by omega) hL) dL_law_285 ?_
  refine v_i2c K dL_law_286 ?_
  refine v_lawM K (r := sType o ((xs0 (nI I + 1).toNatClampNeg).toUInt32 % 65536).toInt32) (w_X8_type (XI X) (XB X) m o sz sl ut ol sp tw tm mm f kp h s q xs rf sd us os C N hd hn (((xs0 (nI I + 1).toNatClampNeg).toUInt32 % 65536).toInt32) hok) rfl rfl gL_law_X8_type rfl rfl hd_X8_type ⟨rfl, rfl⟩ ⟨by decide, by decide⟩ (Nat.le_of_ble_eq_true rfl) hk rfl dL_law_287 (fun M' hM' => ?_)
  exact v_ic_eq K 659 dL_law_290 (by decide) (fun _ => kk _ c' M' hM') (fun cx => absurd rfl cx)
set_option maxHeartbeats 1000000 in
set_option maxRecDepth 100000 in
theorem lc_clearText {X : Cx} {b L k1 k2 : Nat} {xs0 : Nat → Int32} (K : okx X code 4 RL wsL_law room_1) (E : lwx X b L xs0) {a m : Nat → Nat} {g HB : Nat → Nat → Nat} {o : Ob} {c : Sc} {Mm : List Md} {I : Nat} (hm : mOk (XI X) m o Mm) (hI : I + 4 ≤ L) (hk : k1 ≤ room_1.cells ∧ k2 ≤ room_1.slots) (kk : ∀ (o' : Ob) (c' : Sc) (M' : List Md), mOk (XI X) m o' M' → V X k1 k2 659 [(0, .ref b), (1, .ref (a 0)), (2, .ref (m 0)), (3, .int (nI I))] [] (wl (XI X) (XB X) a g HB o' c' ++ M')) : V X k1 k2 295 [(0, .ref b), (1, .ref (a 0)), (2, .ref (m 0)), (3, .int (nI I))] [] (wl (XI X) (XB X) a g HB o c ++ Mm) := by
  have hL : L ≤ 2048 := E.2.2.2.2.2.2
  obtain ⟨sz, sl, ut, ol, sp, tw, tm, mm, f, kp, h, s, q, xs, rf, sd, us, os, C, N, hd, hn, hok, rfl⟩ := hm
  refine v_aload_n K dL_law_295 rfl ?_
  refine v_lawX K (r := sClear o) (k_X7_clearText (XI X) (XB X) a g HB o c ) gL_law_X7_clearText rfl rfl hd_X7_clearText ⟨rfl, rfl⟩ ⟨by decide, by decide⟩ (Nat.le_of_ble_eq_true rfl) hk rfl dL_law_296 (fun c' => ?_)
  refine v_aload_n K dL_law_299 rfl ?_
  refine v_lawM K (r := sClear o) (w_X8_clearText (XI X) (XB X) m o sz sl ut ol sp tw tm mm f kp h s q xs rf sd us os C N hd hn  hok) rfl rfl gL_law_X8_clearText rfl rfl hd_X8_clearText ⟨rfl, rfl⟩ ⟨by decide, by decide⟩ (Nat.le_of_ble_eq_true rfl) hk rfl dL_law_300 (fun M' hM' => ?_)
  exact v_ic_eq K 659 dL_law_303 (by decide) (fun _ => kk _ c' M' hM') (fun cx => absurd rfl cx)
set_option maxHeartbeats 1000000 in
set_option maxRecDepth 100000 in
theorem lc_convert {X : Cx} {b L k1 k2 : Nat} {xs0 : Nat → Int32} (K : okx X code 4 RL wsL_law room_1) (E : lwx X b L xs0) {a m : Nat → Nat} {g HB : Nat → Nat → Nat} {o : Ob} {c : Sc} {Mm : List Md} {I : Nat} (hm : mOk (XI X) m o Mm) (hI : I + 4 ≤ L) (hk : k1 ≤ room_1.cells ∧ k2 ≤ room_1.slots) (kk : ∀ (o' : Ob) (c' : Sc) (M' : List Md), mOk (XI X) m o' M' → V X k1 k2 659 [(0, .ref b), (1, .ref (a 0)), (2, .ref (m 0)), (3, .int (nI I))] [] (wl (XI X) (XB X) a g HB o' c' ++ M')) : V X k1 k2 308 [(0, .ref b), (1, .ref (a 0)), (2, .ref (m 0)), (3, .int (nI I))] [] (wl (XI X) (XB X) a g HB o c ++ Mm) := by
  have hL : L ≤ 2048 := E.2.2.2.2.2.2
  obtain ⟨sz, sl, ut, ol, sp, tw, tm, mm, f, kp, h, s, q, xs, rf, sd, us, os, C, N, hd, hn, hok, rfl⟩ := hm
  refine v_aload_n K dL_law_308 rfl ?_
  refine v_aload_n K dL_law_309 rfl ?_
  refine v_iload_n K dL_law_310 rfl ?_
  refine v_iconst K (1) dL_law_311 (by decide) ?_
  refine v_iadd K dL_law_312 ?_
  refine v_sld K E (lw_q (k := 1) (by omega) hL) dL_law_313 ?_
  refine v_if_eq K 321 dL_law_314 (by decide) (fun cz => ?_) (fun cz => ?_)
  · refine v_iconst K (0) dL_law_321 (by decide) ?_
    refine v_lawX K (r := sConv o false) (k_X7_convert (XI X) (XB X) a g HB o c (false)) gL_law_X7_convert rfl rfl hd_X7_convert ⟨rfl, rfl⟩ ⟨by decide, by decide⟩ (Nat.le_of_ble_eq_true rfl) hk rfl dL_law_322 (fun c' => ?_)
    refine v_aload_n K dL_law_325 rfl ?_
    refine v_aload_n K dL_law_326 rfl ?_
    refine v_iload_n K dL_law_327 rfl ?_
    refine v_iconst K (1) dL_law_328 (by decide) ?_
    refine v_iadd K dL_law_329 ?_
    refine v_sld K E (lw_q (k := 1) (by omega) hL) dL_law_330 ?_
    refine v_if_eq K 338 dL_law_331 (by decide) (fun _ => ?_) (fun cy => absurd cz cy)
    refine v_iconst K (0) dL_law_338 (by decide) ?_
    refine v_lawM K (r := sConv o false) (w_X8_convert (XI X) (XB X) m o sz sl ut ol sp tw tm mm f kp h s q xs rf sd us os C N hd hn (false) hok) rfl rfl gL_law_X8_convert rfl rfl hd_X8_convert ⟨rfl, rfl⟩ ⟨by decide, by decide⟩ (Nat.le_of_ble_eq_true rfl) hk rfl dL_law_339 (fun M' hM' => ?_)
    exact v_ic_eq K 659 dL_law_342 (by decide) (fun _ => kk _ c' M' hM') (fun cx => absurd rfl cx)
  · refine v_iconst K (1) dL_law_317 (by decide) ?_
    refine v_goto K 322 dL_law_318 (by decide) ?_
    refine v_lawX K (r := sConv o true) (k_X7_convert (XI X) (XB X) a g HB o c (true)) gL_law_X7_convert rfl rfl hd_X7_convert ⟨rfl, rfl⟩ ⟨by decide, by decide⟩ (Nat.le_of_ble_eq_true rfl) hk rfl dL_law_322 (fun c' => ?_)
    refine v_aload_n K dL_law_325 rfl ?_
    refine v_aload_n K dL_law_326 rfl ?_
    refine v_iload_n K dL_law_327 rfl ?_
    refine v_iconst K (1) dL_law_328 (by decide) ?_
    refine v_iadd K dL_law_329 ?_
    refine v_sld K E (lw_q (k := 1) (by omega) hL) dL_law_330 ?_
    refine v_if_eq K 338 dL_law_331 (by decide) (fun cy => absurd cy cz) (fun _ => ?_)
    refine v_iconst K (1) dL_law_334 (by decide) ?_
    refine v_goto K 339 dL_law_335 (by decide) ?_
    refine v_lawM K (r := sConv o true) (w_X8_convert (XI X) (XB X) m o sz sl ut ol sp tw tm mm f kp h s q xs rf sd us os C N hd hn (true) hok) rfl rfl gL_law_X8_convert rfl rfl hd_X8_convert ⟨rfl, rfl⟩ ⟨by decide, by decide⟩ (Nat.le_of_ble_eq_true rfl) hk rfl dL_law_339 (fun M' hM' => ?_)
    exact v_ic_eq K 659 dL_law_342 (by decide) (fun _ => kk _ c' M' hM') (fun cx => absurd rfl cx)
set_option maxHeartbeats 1000000 in
set_option maxRecDepth 100000 in
theorem lc_takeResult {X : Cx} {b L k1 k2 : Nat} {xs0 : Nat → Int32} (K : okx X code 4 RL wsL_law room_1) (E : lwx X b L xs0) {a m : Nat → Nat} {g HB : Nat → Nat → Nat} {o : Ob} {c : Sc} {Mm : List Md} {I : Nat} (hm : mOk (XI X) m o Mm) (hI : I + 4 ≤ L) (hk : k1 ≤ room_1.cells ∧ k2 ≤ room_1.slots) (kk : ∀ (o' : Ob) (c' : Sc) (M' : List Md), mOk (XI X) m o' M' → V X k1 k2 659 [(0, .ref b), (1, .ref (a 0)), (2, .ref (m 0)), (3, .int (nI I))] [] (wl (XI X) (XB X) a g HB o' c' ++ M')) : V X k1 k2 347 [(0, .ref b), (1, .ref (a 0)), (2, .ref (m 0)), (3, .int (nI I))] [] (wl (XI X) (XB X) a g HB o c ++ Mm) := by
  have hL : L ≤ 2048 := E.2.2.2.2.2.2
  obtain ⟨sz, sl, ut, ol, sp, tw, tm, mm, f, kp, h, s, q, xs, rf, sd, us, os, C, N, hd, hn, hok, rfl⟩ := hm
  refine v_aload_n K dL_law_347 rfl ?_
  refine v_lawX K (r := sTake o) (k_X7_takeResult (XI X) (XB X) a g HB o c ) gL_law_X7_takeResult rfl rfl hd_X7_takeResult ⟨rfl, rfl⟩ ⟨by decide, by decide⟩ (Nat.le_of_ble_eq_true rfl) hk rfl dL_law_348 (fun c' => ?_)
  refine v_aload_n K dL_law_351 rfl ?_
  refine v_lawM K (r := sTake o) (w_X8_takeResult (XI X) (XB X) m o sz sl ut ol sp tw tm mm f kp h s q xs rf sd us os C N hd hn  hok) rfl rfl gL_law_X8_takeResult rfl rfl hd_X8_takeResult ⟨rfl, rfl⟩ ⟨by decide, by decide⟩ (Nat.le_of_ble_eq_true rfl) hk rfl dL_law_352 (fun M' hM' => ?_)
  exact v_ic_eq K 659 dL_law_355 (by decide) (fun _ => kk _ c' M' hM') (fun cx => absurd rfl cx)
set_option maxHeartbeats 1000000 in
set_option maxRecDepth 100000 in
theorem lc_undo {X : Cx} {b L k1 k2 : Nat} {xs0 : Nat → Int32} (K : okx X code 4 RL wsL_law room_1) (E : lwx X b L xs0) {a m : Nat → Nat} {g HB : Nat → Nat → Nat} {o : Ob} {c : Sc} {Mm : List Md} {I : Nat} (hm : mOk (XI X) m o Mm) (hI : I + 4 ≤ L) (hk : k1 ≤ room_1.cells ∧ k2 ≤ room_1.slots) (kk : ∀ (o' : Ob) (c' : Sc) (M' : List Md), mOk (XI X) m o' M' → V X k1 k2 659 [(0, .ref b), (1, .ref (a 0)), (2, .ref (m 0)), (3, .int (nI I))] [] (wl (XI X) (XB X) a g HB o' c' ++ M')) : V X k1 k2 360 [(0, .ref b), (1, .ref (a 0)), (2, .ref (m 0)), (3, .int (nI I))] [] (wl (XI X) (XB X) a g HB o c ++ Mm) := by
  have hL : L ≤ 2048 := E.2.2.2.2.2.2
  obtain ⟨sz, sl, ut, ol, sp, tw, tm, mm, f, kp, h, s, q, xs, rf, sd, us, os, C, N, hd, hn, hok, rfl⟩ := hm
  refine v_aload_n K dL_law_360 rfl ?_
  refine v_lawX K (r := sUndo o) (k_X7_undo (XI X) (XB X) a g HB o c ) gL_law_X7_undo rfl rfl hd_X7_undo ⟨rfl, rfl⟩ ⟨by decide, by decide⟩ (Nat.le_of_ble_eq_true rfl) hk rfl dL_law_361 (fun c' => ?_)
  refine v_aload_n K dL_law_364 rfl ?_
  refine v_lawM K (r := sUndo o) (w_X8_undo (XI X) (XB X) m o sz sl ut ol sp tw tm mm f kp h s q xs rf sd us os C N hd hn  hok) rfl rfl gL_law_X8_undo rfl rfl hd_X8_undo ⟨rfl, rfl⟩ ⟨by decide, by decide⟩ (Nat.le_of_ble_eq_true rfl) hk rfl dL_law_365 (fun M' hM' => ?_)
  exact v_ic_eq K 659 dL_law_368 (by decide) (fun _ => kk _ c' M' hM') (fun cx => absurd rfl cx)
set_option maxHeartbeats 1000000 in
set_option maxRecDepth 100000 in
theorem lc_keep {X : Cx} {b L k1 k2 : Nat} {xs0 : Nat → Int32} (K : okx X code 4 RL wsL_law room_1) (E : lwx X b L xs0) {a m : Nat → Nat} {g HB : Nat → Nat → Nat} {o : Ob} {c : Sc} {Mm : List Md} {I : Nat} (hm : mOk (XI X) m o Mm) (hI : I + 4 ≤ L) (hk : k1 ≤ room_1.cells ∧ k2 ≤ room_1.slots) (kk : ∀ (o' : Ob) (c' : Sc) (M' : List Md), mOk (XI X) m o' M' → V X k1 k2 659 [(0, .ref b), (1, .ref (a 0)), (2, .ref (m 0)), (3, .int (nI I))] [] (wl (XI X) (XB X) a g HB o' c' ++ M')) : V X k1 k2 373 [(0, .ref b), (1, .ref (a 0)), (2, .ref (m 0)), (3, .int (nI I))] [] (wl (XI X) (XB X) a g HB o c ++ Mm) := by
  have hL : L ≤ 2048 := E.2.2.2.2.2.2
  obtain ⟨sz, sl, ut, ol, sp, tw, tm, mm, f, kp, h, s, q, xs, rf, sd, us, os, C, N, hd, hn, hok, rfl⟩ := hm
  refine v_aload_n K dL_law_373 rfl ?_
  refine v_lawX K (r := sKeep o) (k_X7_keep (XI X) (XB X) a g HB o c ) gL_law_X7_keep rfl rfl hd_X7_keep ⟨rfl, rfl⟩ ⟨by decide, by decide⟩ (Nat.le_of_ble_eq_true rfl) hk rfl dL_law_374 (fun c' => ?_)
  refine v_aload_n K dL_law_377 rfl ?_
  refine v_lawM K (r := sKeep o) (w_X8_keep (XI X) (XB X) m o sz sl ut ol sp tw tm mm f kp h s q xs rf sd us os C N hd hn  hok) rfl rfl gL_law_X8_keep rfl rfl hd_X8_keep ⟨rfl, rfl⟩ ⟨by decide, by decide⟩ (Nat.le_of_ble_eq_true rfl) hk rfl dL_law_378 (fun M' hM' => ?_)
  exact v_ic_eq K 659 dL_law_381 (by decide) (fun _ => kk _ c' M' hM') (fun cx => absurd rfl cx)
set_option maxHeartbeats 1000000 in
set_option maxRecDepth 100000 in
theorem lc_restore {X : Cx} {b L k1 k2 : Nat} {xs0 : Nat → Int32} (K : okx X code 4 RL wsL_law room_1) (E : lwx X b L xs0) {a m : Nat → Nat} {g HB : Nat → Nat → Nat} {o : Ob} {c : Sc} {Mm : List Md} {I : Nat} (hm : mOk (XI X) m o Mm) (hI : I + 4 ≤ L) (hk : k1 ≤ room_1.cells ∧ k2 ≤ room_1.slots) (kk : ∀ (o' : Ob) (c' : Sc) (M' : List Md), mOk (XI X) m o' M' → V X k1 k2 659 [(0, .ref b), (1, .ref (a 0)), (2, .ref (m 0)), (3, .int (nI I))] [] (wl (XI X) (XB X) a g HB o' c' ++ M')) : V X k1 k2 386 [(0, .ref b), (1, .ref (a 0)), (2, .ref (m 0)), (3, .int (nI I))] [] (wl (XI X) (XB X) a g HB o c ++ Mm) := by
  have hL : L ≤ 2048 := E.2.2.2.2.2.2
  obtain ⟨sz, sl, ut, ol, sp, tw, tm, mm, f, kp, h, s, q, xs, rf, sd, us, os, C, N, hd, hn, hok, rfl⟩ := hm
  refine v_aload_n K dL_law_386 rfl ?_
  refine v_lawX K (r := sRest o) (k_X7_restore (XI X) (XB X) a g HB o c ) gL_law_X7_restore rfl rfl hd_X7_restore ⟨rfl, rfl⟩ ⟨by decide, by decide⟩ (Nat.le_of_ble_eq_true rfl) hk rfl dL_law_387 (fun c' => ?_)
  refine v_aload_n K dL_law_390 rfl ?_
  refine v_lawM K (r := sRest o) (w_X8_restore (XI X) (XB X) m o sz sl ut ol sp tw tm mm f kp h s q xs rf sd us os C N hd hn  hok) rfl rfl gL_law_X8_restore rfl rfl hd_X8_restore ⟨rfl, rfl⟩ ⟨by decide, by decide⟩ (Nat.le_of_ble_eq_true rfl) hk rfl dL_law_391 (fun M' hM' => ?_)
  exact v_ic_eq K 659 dL_law_394 (by decide) (fun _ => kk _ c' M' hM') (fun cx => absurd rfl cx)
set_option maxHeartbeats 1000000 in
set_option maxRecDepth 100000 in
theorem lc_rule {X : Cx} {b L k1 k2 : Nat} {xs0 : Nat → Int32} (K : okx X code 4 RL wsL_law room_1) (E : lwx X b L xs0) {a m : Nat → Nat} {g HB : Nat → Nat → Nat} {o : Ob} {c : Sc} {Mm : List Md} {I : Nat} (hm : mOk (XI X) m o Mm) (hI : I + 4 ≤ L) (hk : k1 ≤ room_1.cells ∧ k2 ≤ room_1.slots) (kk : ∀ (o' : Ob) (c' : Sc) (M' : List Md), mOk (XI X) m o' M' → V X k1 k2 659 [(0, .ref b), (1, .ref (a 0)), (2, .ref (m 0)), (3, .int (nI I))] [] (wl (XI X) (XB X) a g HB o' c' ++ M')) : V X k1 k2 399 [(0, .ref b), (1, .ref (a 0)), (2, .ref (m 0)), (3, .int (nI I))] [] (wl (XI X) (XB X) a g HB o c ++ Mm) := by
  have hL : L ≤ 2048 := E.2.2.2.2.2.2
  obtain ⟨sz, sl, ut, ol, sp, tw, tm, mm, f, kp, h, s, q, xs, rf, sd, us, os, C, N, hd, hn, hok, rfl⟩ := hm
  refine v_aload_n K dL_law_399 rfl ?_
  refine v_aload_n K dL_law_400 rfl ?_
  refine v_iload_n K dL_law_401 rfl ?_
  refine v_iconst K (1) dL_law_402 (by decide) ?_
  refine v_iadd K dL_law_403 ?_
  refine v_sld K E (lw_q (k := 1) (by omega) hL) dL_law_404 ?_
  refine v_aload_n K dL_law_405 rfl ?_
  refine v_iload_n K dL_law_406 rfl ?_
  refine v_iconst K (2) dL_law_407 (by decide) ?_
  refine v_iadd K dL_law_408 ?_
  refine v_sld K E (lw_q (k := 2) (by omega) hL) dL_law_409 ?_
  refine v_lawX K (r := (vRule o.2.2.1 (xs0 (nI I + 1).toNatClampNeg) (xs0 (nI I + 2).toNatClampNeg), o)) (k_X7_rule (XI X) (XB X) a g HB o c ((xs0 (nI I + 1).toNatClampNeg)) ((xs0 (nI I + 2).toNatClampNeg))) gL_law_X7_rule rfl rfl hd_X7_rule ⟨rfl, rfl⟩ ⟨by decide, by decide⟩ (Nat.le_of_ble_eq_true rfl) hk rfl dL_law_410 (fun c' => ?_)
  refine v_aload_n K dL_law_413 rfl ?_
  refine v_aload_n K dL_law_414 rfl ?_
  refine v_iload_n K dL_law_415 rfl ?_
  refine v_iconst K (1) dL_law_416 (by decide) ?_
  refine v_iadd K dL_law_417 ?_
  refine v_sld K E (lw_q (k := 1) (by omega) hL) dL_law_418 ?_
  refine v_aload_n K dL_law_419 rfl ?_
  refine v_iload_n K dL_law_420 rfl ?_
  refine v_iconst K (2) dL_law_421 (by decide) ?_
  refine v_iadd K dL_law_422 ?_
  refine v_sld K E (lw_q (k := 2) (by omega) hL) dL_law_423 ?_
  refine v_lawM K (r := (vRule o.2.2.1 (xs0 (nI I + 1).toNatClampNeg) (xs0 (nI I + 2).toNatClampNeg), o)) (w_X8_rule (XI X) (XB X) m o sz sl ut ol sp tw tm mm f kp h s q xs rf sd us os C N hd hn ((xs0 (nI I + 1).toNatClampNeg)) ((xs0 (nI I + 2).toNatClampNeg)) hok) rfl rfl gL_law_X8_rule rfl rfl hd_X8_rule ⟨rfl, rfl⟩ ⟨by decide, by decide⟩ (Nat.le_of_ble_eq_true rfl) hk rfl dL_law_424 (fun M' hM' => ?_)
  exact v_ic_eq K 659 dL_law_427 (by decide) (fun _ => kk _ c' M' hM') (fun cx => absurd rfl cx)
set_option maxHeartbeats 1000000 in
set_option maxRecDepth 100000 in
theorem lc_letterOf {X : Cx} {b L k1 k2 : Nat} {xs0 : Nat → Int32} (K : okx X code 4 RL wsL_law room_1) (E : lwx X b L xs0) {a m : Nat → Nat} {g HB : Nat → Nat → Nat} {o : Ob} {c : Sc} {Mm : List Md} {I : Nat} (hm : mOk (XI X) m o Mm) (hI : I + 4 ≤ L) (hk : k1 ≤ room_1.cells ∧ k2 ≤ room_1.slots) (kk : ∀ (o' : Ob) (c' : Sc) (M' : List Md), mOk (XI X) m o' M' → V X k1 k2 659 [(0, .ref b), (1, .ref (a 0)), (2, .ref (m 0)), (3, .int (nI I))] [] (wl (XI X) (XB X) a g HB o' c' ++ M')) : V X k1 k2 432 [(0, .ref b), (1, .ref (a 0)), (2, .ref (m 0)), (3, .int (nI I))] [] (wl (XI X) (XB X) a g HB o c ++ Mm) := by
  have hL : L ≤ 2048 := E.2.2.2.2.2.2
  obtain ⟨sz, sl, ut, ol, sp, tw, tm, mm, f, kp, h, s, q, xs, rf, sd, us, os, C, N, hd, hn, hok, rfl⟩ := hm
  refine v_aload_n K dL_law_432 rfl ?_
  refine v_aload_n K dL_law_433 rfl ?_
  refine v_iload_n K dL_law_434 rfl ?_
  refine v_iconst K (1) dL_law_435 (by decide) ?_
  refine v_iadd K dL_law_436 ?_
  refine v_sld K E (lw_q (k := 1) (by omega) hL) dL_law_437 ?_
  refine v_aload_n K dL_law_438 rfl ?_
  refine v_iload_n K dL_law_439 rfl ?_
  refine v_iconst K (2) dL_law_440 (by decide) ?_
  refine v_iadd K dL_law_441 ?_
  refine v_sld K E (lw_q (k := 2) (by omega) hL) dL_law_442 ?_
  refine v_lawX K (r := (vLetter o.2.2.1 (xs0 (nI I + 1).toNatClampNeg) (xs0 (nI I + 2).toNatClampNeg), o)) (k_X7_letterOf (XI X) (XB X) a g HB o c ((xs0 (nI I + 1).toNatClampNeg)) ((xs0 (nI I + 2).toNatClampNeg))) gL_law_X7_letterOf rfl rfl hd_X7_letterOf ⟨rfl, rfl⟩ ⟨by decide, by decide⟩ (Nat.le_of_ble_eq_true rfl) hk rfl dL_law_443 (fun c' => ?_)
  refine v_aload_n K dL_law_446 rfl ?_
  refine v_aload_n K dL_law_447 rfl ?_
  refine v_iload_n K dL_law_448 rfl ?_
  refine v_iconst K (1) dL_law_449 (by decide) ?_
  refine v_iadd K dL_law_450 ?_
  refine v_sld K E (lw_q (k := 1) (by omega) hL) dL_law_451 ?_
  refine v_aload_n K dL_law_452 rfl ?_
  refine v_iload_n K dL_law_453 rfl ?_
  refine v_iconst K (2) dL_law_454 (by decide) ?_
  refine v_iadd K dL_law_455 ?_
  refine v_sld K E (lw_q (k := 2) (by omega) hL) dL_law_456 ?_
  refine v_lawM K (r := (vLetter o.2.2.1 (xs0 (nI I + 1).toNatClampNeg) (xs0 (nI I + 2).toNatClampNeg), o)) (w_X8_letterOf (XI X) (XB X) m o sz sl ut ol sp tw tm mm f kp h s q xs rf sd us os C N hd hn ((xs0 (nI I + 1).toNatClampNeg)) ((xs0 (nI I + 2).toNatClampNeg)) hok) rfl rfl gL_law_X8_letterOf rfl rfl hd_X8_letterOf ⟨rfl, rfl⟩ ⟨by decide, by decide⟩ (Nat.le_of_ble_eq_true rfl) hk rfl dL_law_457 (fun M' hM' => ?_)
  exact v_ic_eq K 659 dL_law_460 (by decide) (fun _ => kk _ c' M' hM') (fun cx => absurd rfl cx)
set_option maxHeartbeats 1000000 in
set_option maxRecDepth 100000 in
theorem lc_sign {X : Cx} {b L k1 k2 : Nat} {xs0 : Nat → Int32} (K : okx X code 4 RL wsL_law room_1) (E : lwx X b L xs0) {a m : Nat → Nat} {g HB : Nat → Nat → Nat} {o : Ob} {c : Sc} {Mm : List Md} {I : Nat} (hm : mOk (XI X) m o Mm) (hI : I + 4 ≤ L) (hk : k1 ≤ room_1.cells ∧ k2 ≤ room_1.slots) (kk : ∀ (o' : Ob) (c' : Sc) (M' : List Md), mOk (XI X) m o' M' → V X k1 k2 659 [(0, .ref b), (1, .ref (a 0)), (2, .ref (m 0)), (3, .int (nI I))] [] (wl (XI X) (XB X) a g HB o' c' ++ M')) : V X k1 k2 465 [(0, .ref b), (1, .ref (a 0)), (2, .ref (m 0)), (3, .int (nI I))] [] (wl (XI X) (XB X) a g HB o c ++ Mm) := by
  have hL : L ≤ 2048 := E.2.2.2.2.2.2
  obtain ⟨sz, sl, ut, ol, sp, tw, tm, mm, f, kp, h, s, q, xs, rf, sd, us, os, C, N, hd, hn, hok, rfl⟩ := hm
  refine v_aload_n K dL_law_465 rfl ?_
  refine v_aload_n K dL_law_466 rfl ?_
  refine v_iload_n K dL_law_467 rfl ?_
  refine v_iconst K (1) dL_law_468 (by decide) ?_
  refine v_iadd K dL_law_469 ?_
  refine v_sld K E (lw_q (k := 1) (by omega) hL) dL_law_470 ?_
  refine v_i2c K dL_law_471 ?_
  refine v_aload_n K dL_law_472 rfl ?_
  refine v_iload_n K dL_law_473 rfl ?_
  refine v_iconst K (2) dL_law_474 (by decide) ?_
  refine v_iadd K dL_law_475 ?_
  refine v_sld K E (lw_q (k := 2) (by omega) hL) dL_law_476 ?_
  refine v_lawX K (r := (vSign o.2.2.1 ((xs0 (nI I + 1).toNatClampNeg).toUInt32 % 65536).toInt32 (xs0 (nI I + 2).toNatClampNeg), o)) (k_X7_sign (XI X) (XB X) a g HB o c (((xs0 (nI I + 1).toNatClampNeg).toUInt32 % 65536).toInt32) ((xs0 (nI I + 2).toNatClampNeg))) gL_law_X7_sign rfl rfl hd_X7_sign ⟨rfl, rfl⟩ ⟨by decide, by decide⟩ (Nat.le_of_ble_eq_true rfl) hk rfl dL_law_477 (fun c' => ?_)
  refine v_aload_n K dL_law_480 rfl ?_
  refine v_aload_n K dL_law_481 rfl ?_
  refine v_iload_n K dL_law_482 rfl ?_
  refine v_iconst K (1) dL_law_483 (by decide) ?_
  refine v_iadd K dL_law_484 ?_
  refine v_sld K E (lw_q (k := 1) (by omega) hL) dL_law_485 ?_
  refine v_i2c K dL_law_486 ?_
  refine v_aload_n K dL_law_487 rfl ?_
  refine v_iload_n K dL_law_488 rfl ?_
  refine v_iconst K (2) dL_law_489 (by decide) ?_
  refine v_iadd K dL_law_490 ?_
  refine v_sld K E (lw_q (k := 2) (by omega) hL) dL_law_491 ?_
  refine v_lawM K (r := (vSign o.2.2.1 ((xs0 (nI I + 1).toNatClampNeg).toUInt32 % 65536).toInt32 (xs0 (nI I + 2).toNatClampNeg), o)) (w_X8_sign (XI X) (XB X) m o sz sl ut ol sp tw tm mm f kp h s q xs rf sd us os C N hd hn (((xs0 (nI I + 1).toNatClampNeg).toUInt32 % 65536).toInt32) ((xs0 (nI I + 2).toNatClampNeg)) hok) rfl rfl gL_law_X8_sign rfl rfl hd_X8_sign ⟨rfl, rfl⟩ ⟨by decide, by decide⟩ (Nat.le_of_ble_eq_true rfl) hk rfl dL_law_492 (fun M' hM' => ?_)
  exact v_ic_eq K 659 dL_law_495 (by decide) (fun _ => kk _ c' M' hM') (fun cx => absurd rfl cx)
set_option maxHeartbeats 1000000 in
set_option maxRecDepth 100000 in
theorem lc_word {X : Cx} {b L k1 k2 : Nat} {xs0 : Nat → Int32} (K : okx X code 4 RL wsL_law room_1) (E : lwx X b L xs0) {a m : Nat → Nat} {g HB : Nat → Nat → Nat} {o : Ob} {c : Sc} {Mm : List Md} {I : Nat} (hm : mOk (XI X) m o Mm) (hI : I + 4 ≤ L) (hk : k1 ≤ room_1.cells ∧ k2 ≤ room_1.slots) (kk : ∀ (o' : Ob) (c' : Sc) (M' : List Md), mOk (XI X) m o' M' → V X k1 k2 659 [(0, .ref b), (1, .ref (a 0)), (2, .ref (m 0)), (3, .int (nI I))] [] (wl (XI X) (XB X) a g HB o' c' ++ M')) : V X k1 k2 500 [(0, .ref b), (1, .ref (a 0)), (2, .ref (m 0)), (3, .int (nI I))] [] (wl (XI X) (XB X) a g HB o c ++ Mm) := by
  have hL : L ≤ 2048 := E.2.2.2.2.2.2
  obtain ⟨sz, sl, ut, ol, sp, tw, tm, mm, f, kp, h, s, q, xs, rf, sd, us, os, C, N, hd, hn, hok, rfl⟩ := hm
  refine v_aload_n K dL_law_500 rfl ?_
  refine v_aload_n K dL_law_501 rfl ?_
  refine v_iload_n K dL_law_502 rfl ?_
  refine v_iconst K (1) dL_law_503 (by decide) ?_
  refine v_iadd K dL_law_504 ?_
  refine v_sld K E (lw_q (k := 1) (by omega) hL) dL_law_505 ?_
  refine v_aload_n K dL_law_506 rfl ?_
  refine v_iload_n K dL_law_507 rfl ?_
  refine v_iconst K (2) dL_law_508 (by decide) ?_
  refine v_iadd K dL_law_509 ?_
  refine v_sld K E (lw_q (k := 2) (by omega) hL) dL_law_510 ?_
  refine v_lawX K (r := (vWord o.2.2.1 (xs0 (nI I + 1).toNatClampNeg) (xs0 (nI I + 2).toNatClampNeg), o)) (k_X7_word (XI X) (XB X) a g HB o c ((xs0 (nI I + 1).toNatClampNeg)) ((xs0 (nI I + 2).toNatClampNeg))) gL_law_X7_word rfl rfl hd_X7_word ⟨rfl, rfl⟩ ⟨by decide, by decide⟩ (Nat.le_of_ble_eq_true rfl) hk rfl dL_law_511 (fun c' => ?_)
  refine v_aload_n K dL_law_514 rfl ?_
  refine v_aload_n K dL_law_515 rfl ?_
  refine v_iload_n K dL_law_516 rfl ?_
  refine v_iconst K (1) dL_law_517 (by decide) ?_
  refine v_iadd K dL_law_518 ?_
  refine v_sld K E (lw_q (k := 1) (by omega) hL) dL_law_519 ?_
  refine v_aload_n K dL_law_520 rfl ?_
  refine v_iload_n K dL_law_521 rfl ?_
  refine v_iconst K (2) dL_law_522 (by decide) ?_
  refine v_iadd K dL_law_523 ?_
  refine v_sld K E (lw_q (k := 2) (by omega) hL) dL_law_524 ?_
  refine v_lawM K (r := (vWord o.2.2.1 (xs0 (nI I + 1).toNatClampNeg) (xs0 (nI I + 2).toNatClampNeg), o)) (w_X8_word (XI X) (XB X) m o sz sl ut ol sp tw tm mm f kp h s q xs rf sd us os C N hd hn ((xs0 (nI I + 1).toNatClampNeg)) ((xs0 (nI I + 2).toNatClampNeg)) hok) rfl rfl gL_law_X8_word rfl rfl hd_X8_word ⟨rfl, rfl⟩ ⟨by decide, by decide⟩ (Nat.le_of_ble_eq_true rfl) hk rfl dL_law_525 (fun M' hM' => ?_)
  exact v_ic_eq K 659 dL_law_528 (by decide) (fun _ => kk _ c' M' hM') (fun cx => absurd rfl cx)
set_option maxHeartbeats 1000000 in
set_option maxRecDepth 100000 in
theorem lc_at {X : Cx} {b L k1 k2 : Nat} {xs0 : Nat → Int32} (K : okx X code 4 RL wsL_law room_1) (E : lwx X b L xs0) {a m : Nat → Nat} {g HB : Nat → Nat → Nat} {o : Ob} {c : Sc} {Mm : List Md} {I : Nat} (hm : mOk (XI X) m o Mm) (hI : I + 4 ≤ L) (hk : k1 ≤ room_1.cells ∧ k2 ≤ room_1.slots) (kk : ∀ (o' : Ob) (c' : Sc) (M' : List Md), mOk (XI X) m o' M' → V X k1 k2 659 [(0, .ref b), (1, .ref (a 0)), (2, .ref (m 0)), (3, .int (nI I))] [] (wl (XI X) (XB X) a g HB o' c' ++ M')) : V X k1 k2 533 [(0, .ref b), (1, .ref (a 0)), (2, .ref (m 0)), (3, .int (nI I))] [] (wl (XI X) (XB X) a g HB o c ++ Mm) := by
  have hL : L ≤ 2048 := E.2.2.2.2.2.2
  obtain ⟨sz, sl, ut, ol, sp, tw, tm, mm, f, kp, h, s, q, xs, rf, sd, us, os, C, N, hd, hn, hok, rfl⟩ := hm
  refine v_aload_n K dL_law_533 rfl ?_
  refine v_aload_n K dL_law_534 rfl ?_
  refine v_iload_n K dL_law_535 rfl ?_
  refine v_iconst K (1) dL_law_536 (by decide) ?_
  refine v_iadd K dL_law_537 ?_
  refine v_sld K E (lw_q (k := 1) (by omega) hL) dL_law_538 ?_
  refine v_aload_n K dL_law_539 rfl ?_
  refine v_iload_n K dL_law_540 rfl ?_
  refine v_iconst K (2) dL_law_541 (by decide) ?_
  refine v_iadd K dL_law_542 ?_
  refine v_sld K E (lw_q (k := 2) (by omega) hL) dL_law_543 ?_
  refine v_aload_n K dL_law_544 rfl ?_
  refine v_iload_n K dL_law_545 rfl ?_
  refine v_iconst K (3) dL_law_546 (by decide) ?_
  refine v_iadd K dL_law_547 ?_
  refine v_sld K E (lw_q (k := 3) (by omega) hL) dL_law_548 ?_
  refine v_lawX K (r := (vAt o.2.2.1 (xs0 (nI I + 1).toNatClampNeg) (xs0 (nI I + 2).toNatClampNeg) (xs0 (nI I + 3).toNatClampNeg), o)) (k_X7_at (XI X) (XB X) a g HB o c ((xs0 (nI I + 1).toNatClampNeg)) ((xs0 (nI I + 2).toNatClampNeg)) ((xs0 (nI I + 3).toNatClampNeg))) gL_law_X7_at rfl rfl hd_X7_at ⟨rfl, rfl⟩ ⟨by decide, by decide⟩ (Nat.le_of_ble_eq_true rfl) hk rfl dL_law_549 (fun c' => ?_)
  refine v_aload_n K dL_law_552 rfl ?_
  refine v_aload_n K dL_law_553 rfl ?_
  refine v_iload_n K dL_law_554 rfl ?_
  refine v_iconst K (1) dL_law_555 (by decide) ?_
  refine v_iadd K dL_law_556 ?_
  refine v_sld K E (lw_q (k := 1) (by omega) hL) dL_law_557 ?_
  refine v_aload_n K dL_law_558 rfl ?_
  refine v_iload_n K dL_law_559 rfl ?_
  refine v_iconst K (2) dL_law_560 (by decide) ?_
  refine v_iadd K dL_law_561 ?_
  refine v_sld K E (lw_q (k := 2) (by omega) hL) dL_law_562 ?_
  refine v_aload_n K dL_law_563 rfl ?_
  refine v_iload_n K dL_law_564 rfl ?_
  refine v_iconst K (3) dL_law_565 (by decide) ?_
  refine v_iadd K dL_law_566 ?_
  refine v_sld K E (lw_q (k := 3) (by omega) hL) dL_law_567 ?_
  refine v_lawM K (r := (vAt o.2.2.1 (xs0 (nI I + 1).toNatClampNeg) (xs0 (nI I + 2).toNatClampNeg) (xs0 (nI I + 3).toNatClampNeg), o)) (w_X8_at (XI X) (XB X) m o sz sl ut ol sp tw tm mm f kp h s q xs rf sd us os C N hd hn ((xs0 (nI I + 1).toNatClampNeg)) ((xs0 (nI I + 2).toNatClampNeg)) ((xs0 (nI I + 3).toNatClampNeg)) hok) rfl rfl gL_law_X8_at rfl rfl hd_X8_at ⟨rfl, rfl⟩ ⟨by decide, by decide⟩ (Nat.le_of_ble_eq_true rfl) hk rfl dL_law_568 (fun M' hM' => ?_)
  exact v_ic_eq K 659 dL_law_571 (by decide) (fun _ => kk _ c' M' hM') (fun cx => absurd rfl cx)
set_option maxHeartbeats 1000000 in
set_option maxRecDepth 100000 in
theorem lc_result {X : Cx} {b L k1 k2 : Nat} {xs0 : Nat → Int32} (K : okx X code 4 RL wsL_law room_1) (E : lwx X b L xs0) {a m : Nat → Nat} {g HB : Nat → Nat → Nat} {o : Ob} {c : Sc} {Mm : List Md} {I : Nat} (hm : mOk (XI X) m o Mm) (hI : I + 4 ≤ L) (hk : k1 ≤ room_1.cells ∧ k2 ≤ room_1.slots) (kk : ∀ (o' : Ob) (c' : Sc) (M' : List Md), mOk (XI X) m o' M' → V X k1 k2 659 [(0, .ref b), (1, .ref (a 0)), (2, .ref (m 0)), (3, .int (nI I))] [] (wl (XI X) (XB X) a g HB o' c' ++ M')) : V X k1 k2 576 [(0, .ref b), (1, .ref (a 0)), (2, .ref (m 0)), (3, .int (nI I))] [] (wl (XI X) (XB X) a g HB o c ++ Mm) := by
  have hL : L ≤ 2048 := E.2.2.2.2.2.2
  obtain ⟨sz, sl, ut, ol, sp, tw, tm, mm, f, kp, h, s, q, xs, rf, sd, us, os, C, N, hd, hn, hok, rfl⟩ := hm
  refine v_aload_n K dL_law_576 rfl ?_
  refine v_aload_n K dL_law_577 rfl ?_
  refine v_iload_n K dL_law_578 rfl ?_
  refine v_iconst K (1) dL_law_579 (by decide) ?_
  refine v_iadd K dL_law_580 ?_
  refine v_sld K E (lw_q (k := 1) (by omega) hL) dL_law_581 ?_
  refine v_lawX K (r := (vRes o.2.1 (xs0 (nI I + 1).toNatClampNeg), o)) (k_X7_result (XI X) (XB X) a g HB o c ((xs0 (nI I + 1).toNatClampNeg))) gL_law_X7_result rfl rfl hd_X7_result ⟨rfl, rfl⟩ ⟨by decide, by decide⟩ (Nat.le_of_ble_eq_true rfl) hk rfl dL_law_582 (fun c' => ?_)
  refine v_aload_n K dL_law_585 rfl ?_
  refine v_aload_n K dL_law_586 rfl ?_
  refine v_iload_n K dL_law_587 rfl ?_
  refine v_iconst K (1) dL_law_588 (by decide) ?_
  refine v_iadd K dL_law_589 ?_
  refine v_sld K E (lw_q (k := 1) (by omega) hL) dL_law_590 ?_
  refine v_lawM K (r := (vRes o.2.1 (xs0 (nI I + 1).toNatClampNeg), o)) (w_X8_result (XI X) (XB X) m o sz sl ut ol sp tw tm mm f kp h s q xs rf sd us os C N hd hn ((xs0 (nI I + 1).toNatClampNeg)) hok) rfl rfl gL_law_X8_result rfl rfl hd_X8_result ⟨rfl, rfl⟩ ⟨by decide, by decide⟩ (Nat.le_of_ble_eq_true rfl) hk rfl dL_law_591 (fun M' hM' => ?_)
  exact v_ic_eq K 659 dL_law_594 (by decide) (fun _ => kk _ c' M' hM') (fun cx => absurd rfl cx)
set_option maxHeartbeats 1000000 in
set_option maxRecDepth 100000 in
theorem lc_collideWith {X : Cx} {b L k1 k2 : Nat} {xs0 : Nat → Int32} (K : okx X code 4 RL wsL_law room_1) (E : lwx X b L xs0) {a m : Nat → Nat} {g HB : Nat → Nat → Nat} {o : Ob} {c : Sc} {Mm : List Md} {I : Nat} (hm : mOk (XI X) m o Mm) (hI : I + 4 ≤ L) (hk : k1 ≤ room_1.cells ∧ k2 ≤ room_1.slots) (kk : ∀ (o' : Ob) (c' : Sc) (M' : List Md), mOk (XI X) m o' M' → V X k1 k2 659 [(0, .ref b), (1, .ref (a 0)), (2, .ref (m 0)), (3, .int (nI I))] [] (wl (XI X) (XB X) a g HB o' c' ++ M')) : V X k1 k2 599 [(0, .ref b), (1, .ref (a 0)), (2, .ref (m 0)), (3, .int (nI I))] [] (wl (XI X) (XB X) a g HB o c ++ Mm) := by
  have hL : L ≤ 2048 := E.2.2.2.2.2.2
  obtain ⟨sz, sl, ut, ol, sp, tw, tm, mm, f, kp, h, s, q, xs, rf, sd, us, os, C, N, hd, hn, hok, rfl⟩ := hm
  refine v_aload_n K dL_law_599 rfl ?_
  refine v_aload_n K dL_law_600 rfl ?_
  refine v_iload_n K dL_law_601 rfl ?_
  refine v_iconst K (1) dL_law_602 (by decide) ?_
  refine v_iadd K dL_law_603 ?_
  refine v_sld K E (lw_q (k := 1) (by omega) hL) dL_law_604 ?_
  refine v_i2c K dL_law_605 ?_
  refine v_aload_n K dL_law_606 rfl ?_
  refine v_iload_n K dL_law_607 rfl ?_
  refine v_iconst K (2) dL_law_608 (by decide) ?_
  refine v_iadd K dL_law_609 ?_
  refine v_sld K E (lw_q (k := 2) (by omega) hL) dL_law_610 ?_
  refine v_i2c K dL_law_611 ?_
  refine v_lawX K (r := (vColl o.2.2.1 ((xs0 (nI I + 1).toNatClampNeg).toUInt32 % 65536).toInt32 ((xs0 (nI I + 2).toNatClampNeg).toUInt32 % 65536).toInt32, o)) (k_X7_collideWith (XI X) (XB X) a g HB o c (((xs0 (nI I + 1).toNatClampNeg).toUInt32 % 65536).toInt32) (((xs0 (nI I + 2).toNatClampNeg).toUInt32 % 65536).toInt32)) gL_law_X7_collideWith rfl rfl hd_X7_collideWith ⟨rfl, rfl⟩ ⟨by decide, by decide⟩ (Nat.le_of_ble_eq_true rfl) hk rfl dL_law_612 (fun c' => ?_)
  refine v_aload_n K dL_law_615 rfl ?_
  refine v_aload_n K dL_law_616 rfl ?_
  refine v_iload_n K dL_law_617 rfl ?_
  refine v_iconst K (1) dL_law_618 (by decide) ?_
  refine v_iadd K dL_law_619 ?_
  refine v_sld K E (lw_q (k := 1) (by omega) hL) dL_law_620 ?_
  refine v_i2c K dL_law_621 ?_
  refine v_aload_n K dL_law_622 rfl ?_
  refine v_iload_n K dL_law_623 rfl ?_
  refine v_iconst K (2) dL_law_624 (by decide) ?_
  refine v_iadd K dL_law_625 ?_
  refine v_sld K E (lw_q (k := 2) (by omega) hL) dL_law_626 ?_
  refine v_i2c K dL_law_627 ?_
  refine v_lawM K (r := (vColl o.2.2.1 ((xs0 (nI I + 1).toNatClampNeg).toUInt32 % 65536).toInt32 ((xs0 (nI I + 2).toNatClampNeg).toUInt32 % 65536).toInt32, o)) (w_X8_collideWith (XI X) (XB X) m o sz sl ut ol sp tw tm mm f kp h s q xs rf sd us os C N hd hn (((xs0 (nI I + 1).toNatClampNeg).toUInt32 % 65536).toInt32) (((xs0 (nI I + 2).toNatClampNeg).toUInt32 % 65536).toInt32) hok) rfl rfl gL_law_X8_collideWith rfl rfl hd_X8_collideWith ⟨rfl, rfl⟩ ⟨by decide, by decide⟩ (Nat.le_of_ble_eq_true rfl) hk rfl dL_law_628 (fun M' hM' => ?_)
  exact v_ic_eq K 659 dL_law_631 (by decide) (fun _ => kk _ c' M' hM') (fun cx => absurd rfl cx)
set_option maxHeartbeats 1000000 in
set_option maxRecDepth 100000 in
theorem lc_count {X : Cx} {b L k1 k2 : Nat} {xs0 : Nat → Int32} (K : okx X code 4 RL wsL_law room_1) (E : lwx X b L xs0) {a m : Nat → Nat} {g HB : Nat → Nat → Nat} {o : Ob} {c : Sc} {Mm : List Md} {I : Nat} (hm : mOk (XI X) m o Mm) (hI : I + 4 ≤ L) (hk : k1 ≤ room_1.cells ∧ k2 ≤ room_1.slots) (kk : ∀ (o' : Ob) (c' : Sc) (M' : List Md), mOk (XI X) m o' M' → V X k1 k2 659 [(0, .ref b), (1, .ref (a 0)), (2, .ref (m 0)), (3, .int (nI I))] [] (wl (XI X) (XB X) a g HB o' c' ++ M')) : V X k1 k2 636 [(0, .ref b), (1, .ref (a 0)), (2, .ref (m 0)), (3, .int (nI I))] [] (wl (XI X) (XB X) a g HB o c ++ Mm) := by
  have hL : L ≤ 2048 := E.2.2.2.2.2.2
  obtain ⟨sz, sl, ut, ol, sp, tw, tm, mm, f, kp, h, s, q, xs, rf, sd, us, os, C, N, hd, hn, hok, rfl⟩ := hm
  refine v_aload_n K dL_law_636 rfl ?_
  refine v_aload_n K dL_law_637 rfl ?_
  refine v_iload_n K dL_law_638 rfl ?_
  refine v_iconst K (1) dL_law_639 (by decide) ?_
  refine v_iadd K dL_law_640 ?_
  refine v_sld K E (lw_q (k := 1) (by omega) hL) dL_law_641 ?_
  refine v_lawX K (r := (vCount o (xs0 (nI I + 1).toNatClampNeg), o)) (k_X7_count (XI X) (XB X) a g HB o c ((xs0 (nI I + 1).toNatClampNeg))) gL_law_X7_count rfl rfl hd_X7_count ⟨rfl, rfl⟩ ⟨by decide, by decide⟩ (Nat.le_of_ble_eq_true rfl) hk rfl dL_law_642 (fun c' => ?_)
  refine v_aload_n K dL_law_645 rfl ?_
  refine v_aload_n K dL_law_646 rfl ?_
  refine v_iload_n K dL_law_647 rfl ?_
  refine v_iconst K (1) dL_law_648 (by decide) ?_
  refine v_iadd K dL_law_649 ?_
  refine v_sld K E (lw_q (k := 1) (by omega) hL) dL_law_650 ?_
  refine v_lawM K (r := (vCount o (xs0 (nI I + 1).toNatClampNeg), o)) (w_X8_count (XI X) (XB X) m o sz sl ut ol sp tw tm mm f kp h s q xs rf sd us os C N hd hn ((xs0 (nI I + 1).toNatClampNeg)) hok) rfl rfl gL_law_X8_count rfl rfl hd_X8_count ⟨rfl, rfl⟩ ⟨by decide, by decide⟩ (Nat.le_of_ble_eq_true rfl) hk rfl dL_law_651 (fun M' hM' => ?_)
  exact v_ic_eq K 659 dL_law_654 (by decide) (fun _ => kk _ c' M' hM') (fun cx => absurd rfl cx)
