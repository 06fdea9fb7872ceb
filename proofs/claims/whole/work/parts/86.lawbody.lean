/-- what the tables say of an array's class -/
theorem lw_aI {s : State} {args : Array Value} (h : (Cond.arrayClass .int).before args s = true) : ∃ cI : ClassId, ArrOfT s cI .int ∧ va_RA s cI .int := by
  obtain ⟨c, k, comp, h1, h2, h3⟩ := Cond.arrayClass_spec h
  exact ⟨c, fun n z => ⟨(fun k h => by cases h), k, h2, comp, h3⟩, h1⟩
theorem lw_aB {s : State} {args : Array Value} {Cn : String} (h : (Cond.arrayOver (.object Cn)).before args s = true) : ∃ cB : ClassId, ArrOfT s cB (.object Cn) ∧ va_RA s cB (.object Cn) := by
  obtain ⟨comp, c, k, h1, -, h3, h4, h5⟩ := Cond.arrayOver_spec h
  exact ⟨c, fun n z => ⟨(fun k h => by cases h), k, h3, comp, h4⟩, k, comp, h3, h4, h1, h5⟩
theorem lw_nests : ∀ q ∈ nests, (Cond.methodLinkNest q.1 q.2.1 q.2.2.1 q.2.2.2) ∈ lw_tbl := by decide +kernel
set_option maxRecDepth 20000 in
theorem lw_known {s : State} {args : Array Value} (hts : ∀ w ∈ lw_tbl, w.before args s = true) : ∃ (D : va_G) (cI cB : ClassId), va_K D vwCl (Xty cI cB) s := by
  obtain ⟨c0, s0, h0⟩ := u_known (C := RX0) (T := TX0) (N := 6) (n := 6) hts (fun w h => wsL_law_in w (inlX0 w h)) (hts (.instantiable RX0 6) (by decide +kernel))
  obtain ⟨c1, s1, h1⟩ := u_known (C := RX1) (T := TX1) (N := 2) (n := 2) hts (fun w h => wsL_law_in w (inlX1 w h)) (hts (.instantiable RX1 2) (by decide +kernel))
  obtain ⟨c2, s2, h2⟩ := u_known (C := RX2) (T := TX2) (N := 7) (n := 7) hts (fun w h => wsL_law_in w (inlX2 w h)) (hts (.instantiable RX2 7) (by decide +kernel))
  obtain ⟨c3, s3, h3⟩ := u_known (C := RX3) (T := TX3) (N := 2) (n := 2) hts (fun w h => wsL_law_in w (inlX3 w h)) (hts (.instantiable RX3 2) (by decide +kernel))
  obtain ⟨c4, s4, h4⟩ := u_known (C := RX4) (T := TX4) (N := 3) (n := 3) hts (fun w h => wsL_law_in w (inlX4 w h)) (hts (.instantiable RX4 3) (by decide +kernel))
  obtain ⟨c5, s5, h5⟩ := u_known (C := RX5) (T := TX5) (N := 4) (n := 4) hts (fun w h => wsL_law_in w (inlX5 w h)) (hts (.instantiable RX5 4) (by decide +kernel))
  obtain ⟨c6, s6, h6⟩ := u_known (C := RX6) (T := TX6) (N := 7) (n := 7) hts (fun w h => wsL_law_in w (inlX6 w h)) (hts (.instantiable RX6 7) (by decide +kernel))
  obtain ⟨c7, s7, h7⟩ := u_known (C := RX7) (T := TX7) (N := 12) (n := 12) hts (fun w h => wsL_law_in w (inlX7 w h)) (hts (.instantiable RX7 12) (by decide +kernel))
  obtain ⟨c8, s8, h8⟩ := u_known (C := RX8) (T := TX8) (N := 28) (n := 28) hts (fun w h => wsL_law_in w (inlX8 w h)) (hts (.instantiable RX8 28) (by decide +kernel))
  obtain ⟨cI, hI⟩ := lw_aI (hts (.arrayClass .int) (by decide +kernel))
  obtain ⟨cB, hB⟩ := lw_aB (Cn := "SoundSpeller$Book") (hts (.arrayOver (.object "SoundSpeller$Book")) (by decide +kernel))
  refine ⟨(fun k => match k with | 0 => c0 | 1 => c1 | 2 => c2 | 3 => c3 | 4 => c4 | 5 => c5 | 6 => c6 | 7 => c7 | _ => c8, fun k => match k with | 0 => s0 | 1 => s1 | 2 => s2 | 3 => s3 | 4 => s4 | 5 => s5 | 6 => s6 | 7 => s7 | _ => s8), cI, cB, fun k q hq => ?_, fun k q hq => ?_⟩
  · match k, hq with
    | 0, hq => cases hq; exact h0
    | 1, hq => cases hq; exact h1
    | 2, hq => cases hq; exact h2
    | 3, hq => cases hq; exact h3
    | 4, hq => cases hq; exact h4
    | 5, hq => cases hq; exact h5
    | 6, hq => cases hq; exact h6
    | 7, hq => cases hq; exact h7
    | 8, hq => cases hq; exact h8
    | k + 9, hq => simp [vwCl] at hq
  · match k, hq with
    | 0, hq => cases hq; exact hI
    | 1, hq => cases hq; exact hB
    | k + 2, hq => simp [Xty] at hq
set_option maxHeartbeats 4000000 in
set_option maxRecDepth 100000 in
/-- the law's body: two objects, then the loop -/
theorem lw_body {X : Cx} {b L : Nat} {xs0 : Nat → Int32} (K : okx X code 4 RL wsL_law room_1) (O : AOx X) (E : lwx X b L xs0) : V X 0 0 0 [(0, .ref b)] [] [] := by
  refine v_new (ci := 7) (fs := [.null, .null, .null, .null, .null, .null, .null, .null, .int 0, .null, .null, .null]) K rfl inlX7 tyX7 tyX7_ok (by decide +kernel) (by decide +kernel) (by decide +kernel) (fun j hj => by rcases (show j = 0 ∨ j = 1 ∨ j = 2 ∨ j = 3 ∨ j = 4 ∨ j = 5 ∨ j = 6 ∨ j = 7 ∨ j = 8 ∨ j = 9 ∨ j = 10 ∨ j = 11 by omega) with rfl | rfl | rfl | rfl | rfl | rfl | rfl | rfl | rfl | rfl | rfl | rfl <;> rfl) ⟨by decide, by decide⟩ dL_law_0 (fun q0 => ?_)
  refine v_dup K dL_law_3 rfl ?_
  refine v_callI K O [0] [] [false] (c_X7_init (XI X) (XB X) q0) rfl rfl ⟨by decide, by decide, by decide⟩ gL_law_X7_init rfl rfl (by decide +kernel) (by decide +kernel) (by decide +kernel) rfl hdi_X7 ⟨rfl, rfl⟩ ⟨by decide, by decide⟩ (Nat.le_of_ble_eq_true rfl) ⟨by decide, by decide⟩ rfl dL_law_4 (fun Mc1 hpo => ?_)
  obtain ⟨a, g, HB, c, ha, rfl⟩ := hpo
  subst ha
  refine v_astore_n K dL_law_7 (by decide) ?_
  show V X (0 + 1 + 300) (0 + 12 + 10000) 8 [(1, .ref (a 0)), (0, .ref b)] [] (wl (XI X) (XB X) a g HB ([], [], bkI, bkI, false, []) c)
  refine v_new (ci := 8) (fs := [.null, .null, .null, .int 0, .null, .int 0, .null, .int 0, .null, .null, .int 0, .int 0, .null, .null, .int 0, .null, .null, .null, .int 0, .int 0, .int 0, .int 0, .null, .int 0, .null, .null, .null, .int 0]) K rfl inlX8 tyX8 tyX8_ok (by decide +kernel) (by decide +kernel) (by decide +kernel) (fun j hj => by rcases (show j = 0 ∨ j = 1 ∨ j = 2 ∨ j = 3 ∨ j = 4 ∨ j = 5 ∨ j = 6 ∨ j = 7 ∨ j = 8 ∨ j = 9 ∨ j = 10 ∨ j = 11 ∨ j = 12 ∨ j = 13 ∨ j = 14 ∨ j = 15 ∨ j = 16 ∨ j = 17 ∨ j = 18 ∨ j = 19 ∨ j = 20 ∨ j = 21 ∨ j = 22 ∨ j = 23 ∨ j = 24 ∨ j = 25 ∨ j = 26 ∨ j = 27 by omega) with rfl | rfl | rfl | rfl | rfl | rfl | rfl | rfl | rfl | rfl | rfl | rfl | rfl | rfl | rfl | rfl | rfl | rfl | rfl | rfl | rfl | rfl | rfl | rfl | rfl | rfl | rfl | rfl <;> rfl) ⟨by decide, by decide⟩ dL_law_8 (fun q8 => ?_)
  refine v_dup K dL_law_11 rfl ?_
  refine v_callI K O [13] [0, 1, 2, 3, 4, 5, 6, 7, 8, 9, 10, 11, 12] [true, true, true, true, true, true, true, true, true, true, true, true, true, false] (c_X8_init (XI X) (XB X) q8) rfl rfl ⟨by decide, by decide, by decide⟩ gL_law_X8_init rfl rfl (by decide +kernel) (by decide +kernel) (by decide +kernel) rfl hdi_X8 ⟨rfl, rfl⟩ ⟨by decide, by decide⟩ (Nat.le_of_ble_eq_true rfl) ⟨by decide, by decide⟩ rfl dL_law_12 (fun Mc2 hpo2 => ?_)
  obtain ⟨m, hm0, hO⟩ := hpo2
  subst hm0
  have hO : mOk (XI X) m ([], [], bkI, bkI, false, []) Mc2 := hO
  refine v_astore_n K dL_law_15 (by decide) ?_
  refine v_iconst K (0) dL_law_16 (by decide) ?_
  refine v_istore_n K dL_law_17 (by decide) ?_
  refine v_lv (lv' := [(0, .ref b), (1, .ref (a 0)), (2, .ref (m 0)), (3, .int (nI 0))]) rfl ?_
  show V X _ _ 18 _ [] (wl (XI X) (XB X) a g HB ([], [], bkI, bkI, false, []) c ++ Mc2)
  exact lw_loop K E ⟨by decide, by decide⟩ (L + 4) 0 (by omega) (by omega) _ c Mc2 hO
