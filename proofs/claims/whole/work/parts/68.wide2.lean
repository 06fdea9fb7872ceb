set_option maxHeartbeats 1000000 in
set_option maxRecDepth 100000 in
theorem w_X8_type (cI cB : ClassId) (m : Nat → Nat) (o : Ob) (sz sl ut ol sp tw tm mm : Int32) (f kp h s q : Nat → Int32) (xs rf sd us os C N hd hn : List Int32) (c : Int32) (hok : okM o f h s us C) : Ct cI cB yX8_type wsX8_type { frames := 0, cells := 0, slots := 0, locals := 0 } [.ref (m 0), .int c] (mwX cI m o sz sl ut ol sp tw tm mm f kp h s q xs rf sd us os C N hd hn) (pmV cI m (sType o c)) := by
  obtain ⟨hA, hH, hS, hu, hC⟩ := hok
  refine ct_wd (c_X8_type cI cB _ _ _ _ _ _ _ _ _ _ _ _ o.1 c ) [0, 12] rfl (by decide) (fun ov Mc1 hpo => ?_)
  obtain ⟨rfl, rfl⟩ := hpo
  exact pmV_i eq_type ⟨hA, hH, hS, hu, hC⟩ rfl

set_option maxHeartbeats 1000000 in
set_option maxRecDepth 100000 in
theorem w_X8_clearText (cI cB : ClassId) (m : Nat → Nat) (o : Ob) (sz sl ut ol sp tw tm mm : Int32) (f kp h s q : Nat → Int32) (xs rf sd us os C N hd hn : List Int32)  (hok : okM o f h s us C) : Ct cI cB yX8_clearText wsX8_clearText { frames := 0, cells := 0, slots := 0, locals := 0 } [.ref (m 0)] (mwX cI m o sz sl ut ol sp tw tm mm f kp h s q xs rf sd us os C N hd hn) (pmV cI m (sClear o)) := by
  obtain ⟨hA, hH, hS, hu, hC⟩ := hok
  refine ct_wd (c_X8_clearText cI cB _ _ _ _ _ _ _ _ _ _ _ _ o.1 ) [0, 12] rfl (by decide) (fun ov Mc1 hpo => ?_)
  obtain ⟨rfl, rfl⟩ := hpo
  exact pmV_i (o := ([], o.2)) rfl ⟨hA, hH, hS, hu, hC⟩ rfl

set_option maxHeartbeats 1000000 in
set_option maxRecDepth 100000 in
theorem w_X8_takeResult (cI cB : ClassId) (m : Nat → Nat) (o : Ob) (sz sl ut ol sp tw tm mm : Int32) (f kp h s q : Nat → Int32) (xs rf sd us os C N hd hn : List Int32)  (hok : okM o f h s us C) : Ct cI cB yX8_takeResult wsX8_takeResult { frames := 0, cells := 0, slots := 0, locals := 0 } [.ref (m 0)] (mwX cI m o sz sl ut ol sp tw tm mm f kp h s q xs rf sd us os C N hd hn) (pmV cI m (sTake o)) := by
  obtain ⟨hA, hH, hS, hu, hC⟩ := hok
  refine ct_wd (c_X8_takeResult cI cB _ _ _ _ _ _ _ _ _ _ _ o.1 o.2.1 ) [0, 12, 16] rfl (by decide) (fun ov Mc1 hpo => ?_)
  obtain ⟨rfl, rfl⟩ := hpo
  exact pmV_i eq_take ⟨hA, hH, hS, hu, hC⟩ rfl

set_option maxHeartbeats 1000000 in
set_option maxRecDepth 100000 in
theorem w_X8_result (cI cB : ClassId) (m : Nat → Nat) (o : Ob) (sz sl ut ol sp tw tm mm : Int32) (f kp h s q : Nat → Int32) (xs rf sd us os C N hd hn : List Int32) (j : Int32) (hok : okM o f h s us C) : Ct cI cB yX8_result wsX8_result { frames := 0, cells := 0, slots := 0, locals := 0 } [.ref (m 0), .int j] (mwX cI m o sz sl ut ol sp tw tm mm f kp h s q xs rf sd us os C N hd hn) (pmV cI m ((vRes o.2.1 j, o))) := by
  obtain ⟨hA, hH, hS, hu, hC⟩ := hok
  refine ct_wd (c_X8_result cI cB _ _ _ _ _ _ _ _ _ _ _ _ o.2.1 j ) [0, 16] rfl (by decide) (fun ov Mc1 hpo => ?_)
  obtain ⟨rfl, rfl⟩ := hpo
  exact pmV_i rfl ⟨hA, hH, hS, hu, hC⟩ rfl

set_option maxHeartbeats 1000000 in
set_option maxRecDepth 100000 in
theorem w_X8_keep (cI cB : ClassId) (m : Nat → Nat) (o : Ob) (sz sl ut ol sp tw tm mm : Int32) (f kp h s q : Nat → Int32) (xs rf sd us os C N hd hn : List Int32)  (hok : okM o f h s us C) : Ct cI cB yX8_keep wsX8_keep { frames := 1, cells := 0, slots := 0, locals := 22 } [.ref (m 0)] (mwX cI m o sz sl ut ol sp tw tm mm f kp h s q xs rf sd us os C N hd hn) (pmV cI m (sKeep o)) := by
  obtain ⟨hA, hH, hS, hu, hC⟩ := hok
  refine ct_wd (c_X8_keep cI cB _ _ _ _ _ _ _ _ _ _ _ _ _ o.2.2.1 f s hA) [0, 1, 4] rfl (by decide) (fun ov Mc1 hpo => ?_)
  obtain ⟨rfl, rfl⟩ := hpo
  exact pmV_i (eq_keep hA.1) ⟨hA, hH, fun _ => allR_cp hA, hu, hC⟩ rfl

set_option maxHeartbeats 1000000 in
set_option maxRecDepth 100000 in
theorem w_X8_undo (cI cB : ClassId) (m : Nat → Nat) (o : Ob) (sz sl ut ol sp tw tm mm : Int32) (f kp h s q : Nat → Int32) (xs rf sd us os C N hd hn : List Int32)  (hok : okM o f h s us C) : Ct cI cB yX8_undo wsX8_undo { frames := 0, cells := 0, slots := 0, locals := 0 } [.ref (m 0)] (mwX cI m o sz sl ut ol sp tw tm mm f kp h s q xs rf sd us os C N hd hn) (pmV cI m (sUndo o)) := by
  obtain ⟨hA, hH, hS, hu, hC⟩ := hok
  refine ct_wd (c_X8_undo cI cB _ _ _ _ _ _ _ _ _ _ _ _ o.2.2.2.2.2 f h hH) [0, 1, 3] rfl (by decide) (fun ov Mc1 hpo => ?_)
  obtain ⟨rfl, rfl⟩ := hpo
  rw [eq_undo hH]
  by_cases h0 : o.2.2.2.2.2.length = 0
  · rw [if_pos h0, if_pos h0, if_pos h0]
    refine pmV_i (sz := sz) (sl := sl) (ut := ut) (ol := ol) (sp := sp) (tw := tw) (tm := tm) (mm := mm) (kp := kp) (q := q) (xs := xs) (rf := rf) (sd := sd) (os := os) (N := N) (hd := hd) (hn := hn) rfl ⟨hA, hH, hS, hu, hC⟩ ?_
    unfold mwX
    rw [h0]
    rfl
  · rw [if_neg h0, if_neg h0, if_neg h0]
    refine pmV_i (sz := sz) (sl := sl) (ut := ut) (ol := ol) (sp := sp) (tw := tw) (tm := tm) (mm := mm) (kp := kp) (q := q) (xs := xs) (rf := rf) (sd := sd) (os := os) (N := N) (hd := hd) (hn := hn) rfl ⟨allR_cp (g := f) (hH.2 (o.2.2.2.2.2.length - 1) (by omega)), histR_dl hH, hS, hu, hC⟩ ?_
    unfold mwX
    rw [List.length_dropLast]
    rfl

set_option maxHeartbeats 1000000 in
set_option maxRecDepth 100000 in
theorem w_X8_removeRule (cI cB : ClassId) (m : Nat → Nat) (o : Ob) (sz sl ut ol sp tw tm mm : Int32) (f kp h s q : Nat → Int32) (xs rf sd us os C N hd hn : List Int32) (i : Int32) (hok : okM o f h s us C) : Ct cI cB yX8_removeRule wsX8_removeRule { frames := 2, cells := 0, slots := 0, locals := 46 } [.ref (m 0), .int i] (mwX cI m o sz sl ut ol sp tw tm mm f kp h s q xs rf sd us os C N hd hn) (pmV cI m (sRmR o i)) := by
  obtain ⟨hA, hH, hS, hu, hC⟩ := hok
  refine ct_wd (c_X8_removeRule cI cB _ _ _ _ _ _ _ _ _ _ _ _ o.2.2.1 o.2.2.2.2.2 f kp h i hA hH) [0, 1, 2, 3] rfl (by decide) (fun ov Mc1 hpo => ?_)
  obtain ⟨e, f2, g2, h2, hA2, hH2, rfl⟩ := hpo
  subst e
  exact pmV_i (eq_rmR hA.1) ⟨hA2, hH2, hS, hu, hC⟩ rfl

set_option maxHeartbeats 1000000 in
set_option maxRecDepth 100000 in
theorem w_X8_removeWord (cI cB : ClassId) (m : Nat → Nat) (o : Ob) (sz sl ut ol sp tw tm mm : Int32) (f kp h s q : Nat → Int32) (xs rf sd us os C N hd hn : List Int32) (i : Int32) (hok : okM o f h s us C) : Ct cI cB yX8_removeWord wsX8_removeWord { frames := 2, cells := 0, slots := 0, locals := 46 } [.ref (m 0), .int i] (mwX cI m o sz sl ut ol sp tw tm mm f kp h s q xs rf sd us os C N hd hn) (pmV cI m (sRmW o i)) := by
  obtain ⟨hA, hH, hS, hu, hC⟩ := hok
  refine ct_wd (c_X8_removeWord cI cB _ _ _ _ _ _ _ _ _ _ _ _ o.2.2.1 o.2.2.2.2.2 f kp h i hA hH) [0, 1, 2, 3] rfl (by decide) (fun ov Mc1 hpo => ?_)
  obtain ⟨e, f2, g2, h2, hA2, hH2, rfl⟩ := hpo
  subst e
  exact pmV_i (eq_rmW hA.1) ⟨hA2, hH2, hS, hu, hC⟩ rfl

set_option maxHeartbeats 1000000 in
set_option maxRecDepth 100000 in
theorem w_X8_setKind (cI cB : ClassId) (m : Nat → Nat) (o : Ob) (sz sl ut ol sp tw tm mm : Int32) (f kp h s q : Nat → Int32) (xs rf sd us os C N hd hn : List Int32) (i kd : Int32) (hok : okM o f h s us C) : Ct cI cB yX8_setKind wsX8_setKind { frames := 2, cells := 0, slots := 0, locals := 46 } [.ref (m 0), .int i, .int kd] (mwX cI m o sz sl ut ol sp tw tm mm f kp h s q xs rf sd us os C N hd hn) (pmV cI m (sKind o i kd)) := by
  obtain ⟨hA, hH, hS, hu, hC⟩ := hok
  refine ct_wd (c_X8_setKind cI cB _ _ _ _ _ _ _ _ _ _ _ _ o.2.2.1 o.2.2.2.2.2 f kp h i kd hA hH) [0, 1, 2, 3] rfl (by decide) (fun ov Mc1 hpo => ?_)
  obtain ⟨e, f2, g2, h2, hA2, hH2, rfl⟩ := hpo
  subst e
  exact pmV_i (eq_kind hA.1) ⟨hA2, hH2, hS, hu, hC⟩ rfl

set_option maxHeartbeats 1000000 in
set_option maxRecDepth 100000 in
theorem w_X8_restore (cI cB : ClassId) (m : Nat → Nat) (o : Ob) (sz sl ut ol sp tw tm mm : Int32) (f kp h s q : Nat → Int32) (xs rf sd us os C N hd hn : List Int32)  (hok : okM o f h s us C) : Ct cI cB yX8_restore wsX8_restore { frames := 2, cells := 0, slots := 0, locals := 42 } [.ref (m 0)] (mwX cI m o sz sl ut ol sp tw tm mm f kp h s q xs rf sd us os C N hd hn) (pmV cI m (sRest o)) := by
  obtain ⟨hA, hH, hS, hu, hC⟩ := hok
  refine ct_wd (c_X8_restore cI cB _ _ _ _ _ _ _ _ _ _ _ o.2.2.1 o.2.2.2.1 o.2.2.2.2.1 o.2.2.2.2.2 f kp h s hA hH hS) [0, 1, 2, 3, 4] rfl (by decide) (fun ov Mc1 hpo => ?_)
  obtain ⟨e, f2, g2, h2, hA2, hH2, rfl⟩ := hpo
  subst e
  exact pmV_i (eq_rest hA.1 (fun z => (hS z).1)) ⟨hA2, hH2, hS, hu, hC⟩ rfl

set_option maxHeartbeats 1000000 in
set_option maxRecDepth 100000 in
theorem w_X8_letterOf (cI cB : ClassId) (m : Nat → Nat) (o : Ob) (sz sl ut ol sp tw tm mm : Int32) (f kp h s q : Nat → Int32) (xs rf sd us os C N hd hn : List Int32) (i j : Int32) (hok : okM o f h s us C) : Ct cI cB yX8_letterOf wsX8_letterOf { frames := 2, cells := 0, slots := 0, locals := 46 } [.ref (m 0), .int i, .int j] (mwX cI m o sz sl ut ol sp tw tm mm f kp h s q xs rf sd us os C N hd hn) (pmV cI m ((vLetter o.2.2.1 i j, o))) := by
  obtain ⟨hA, hH, hS, hu, hC⟩ := hok
  refine ct_wd (c_X8_letterOf cI cB _ _ _ _ _ _ _ _ _ _ _ _ _ o.2.2.1 f i j hA) [0, 1] rfl (by decide) (fun ov Mc1 hpo => ?_)
  obtain ⟨rfl, rfl⟩ := hpo
  exact pmV_i rfl ⟨hA, hH, hS, hu, hC⟩ rfl

set_option maxHeartbeats 1000000 in
set_option maxRecDepth 100000 in
theorem w_X8_sign (cI cB : ClassId) (m : Nat → Nat) (o : Ob) (sz sl ut ol sp tw tm mm : Int32) (f kp h s q : Nat → Int32) (xs rf sd us os C N hd hn : List Int32) (c j : Int32) (hok : okM o f h s us C) : Ct cI cB yX8_sign wsX8_sign { frames := 1, cells := 0, slots := 0, locals := 25 } [.ref (m 0), .int c, .int j] (mwX cI m o sz sl ut ol sp tw tm mm f kp h s q xs rf sd us os C N hd hn) (pmV cI m ((vSign o.2.2.1 c j, o))) := by
  obtain ⟨hA, hH, hS, hu, hC⟩ := hok
  refine ct_wd (c_X8_sign cI cB _ _ _ _ _ _ _ _ _ _ _ _ _ o.2.2.1 f c j hA) [0, 1] rfl (by decide) (fun ov Mc1 hpo => ?_)
  obtain ⟨rfl, rfl⟩ := hpo
  exact pmV_i rfl ⟨hA, hH, hS, hu, hC⟩ rfl

set_option maxHeartbeats 1000000 in
set_option maxRecDepth 100000 in
theorem w_X8_rule (cI cB : ClassId) (m : Nat → Nat) (o : Ob) (sz sl ut ol sp tw tm mm : Int32) (f kp h s q : Nat → Int32) (xs rf sd us os C N hd hn : List Int32) (i w : Int32) (hok : okM o f h s us C) : Ct cI cB yX8_rule wsX8_rule { frames := 5, cells := 0, slots := 0, locals := 114 } [.ref (m 0), .int i, .int w] (mwX cI m o sz sl ut ol sp tw tm mm f kp h s q xs rf sd us os C N hd hn) (pmV cI m ((vRule o.2.2.1 i w, o))) := by
  obtain ⟨hA, hH, hS, hu, hC⟩ := hok
  refine ct_wd (c_X8_rule cI cB _ _ _ _ _ _ _ _ _ _ _ _ _ o.2.2.1 f xs rf sd us i w hA hu) [0, 1, 5, 6, 7, 8] rfl (by decide) (fun ov Mc1 hpo => ?_)
  obtain ⟨rfl, sz2, sl2, ut2, xs2, rf2, sd2, us2, hu2, rfl⟩ := hpo
  exact pmV_i rfl ⟨hA, hH, hS, hu2, hC⟩ rfl

set_option maxHeartbeats 1000000 in
set_option maxRecDepth 100000 in
theorem w_X8_word (cI cB : ClassId) (m : Nat → Nat) (o : Ob) (sz sl ut ol sp tw tm mm : Int32) (f kp h s q : Nat → Int32) (xs rf sd us os C N hd hn : List Int32) (i w : Int32) (hok : okM o f h s us C) : Ct cI cB yX8_word wsX8_word { frames := 6, cells := 0, slots := 0, locals := 139 } [.ref (m 0), .int i, .int w] (mwX cI m o sz sl ut ol sp tw tm mm f kp h s q xs rf sd us os C N hd hn) (pmV cI m ((vWord o.2.2.1 i w, o))) := by
  obtain ⟨hA, hH, hS, hu, hC⟩ := hok
  refine ct_wd (c_X8_word cI cB _ _ _ _ _ _ _ _ _ _ _ _ _ o.2.2.1 f xs rf sd us os C N i w hA hu hC) [0, 1, 5, 6, 7, 8, 9, 10, 11] rfl (by decide) (fun ov Mc1 hpo => ?_)
  obtain ⟨rfl, sz2, sl2, ut2, ol2, xs2, rf2, sd2, us2, os2, C2, N2, hu2, hC2, rfl⟩ := hpo
  exact pmV_i rfl ⟨hA, hH, hS, hu2, hC2⟩ rfl

set_option maxHeartbeats 1000000 in
set_option maxRecDepth 100000 in
theorem w_X8_at (cI cB : ClassId) (m : Nat → Nat) (o : Ob) (sz sl ut ol sp tw tm mm : Int32) (f kp h s q : Nat → Int32) (xs rf sd us os C N hd hn : List Int32) (i w j : Int32) (hok : okM o f h s us C) : Ct cI cB yX8_at wsX8_at { frames := 6, cells := 0, slots := 0, locals := 139 } [.ref (m 0), .int i, .int w, .int j] (mwX cI m o sz sl ut ol sp tw tm mm f kp h s q xs rf sd us os C N hd hn) (pmV cI m ((vAt o.2.2.1 i w j, o))) := by
  obtain ⟨hA, hH, hS, hu, hC⟩ := hok
  refine ct_wd (c_X8_at cI cB _ _ _ _ _ _ _ _ _ _ _ _ _ o.2.2.1 f xs rf sd us os C N i w j hA hu hC) [0, 1, 5, 6, 7, 8, 9, 10, 11] rfl (by decide) (fun ov Mc1 hpo => ?_)
  obtain ⟨rfl, sz2, sl2, ut2, ol2, xs2, rf2, sd2, us2, os2, C2, N2, hu2, hC2, rfl⟩ := hpo
  exact pmV_i rfl ⟨hA, hH, hS, hu2, hC2⟩ rfl

set_option maxHeartbeats 1000000 in
set_option maxRecDepth 100000 in
theorem w_X8_count (cI cB : ClassId) (m : Nat → Nat) (o : Ob) (sz sl ut ol sp tw tm mm : Int32) (f kp h s q : Nat → Int32) (xs rf sd us os C N hd hn : List Int32) (w : Int32) (hok : okM o f h s us C) : Ct cI cB yX8_count wsX8_count { frames := 7, cells := 0, slots := 0, locals := 161 } [.ref (m 0), .int w] (mwX cI m o sz sl ut ol sp tw tm mm f kp h s q xs rf sd us os C N hd hn) (pmV cI m ((vCount o w, o))) := by
  obtain ⟨hA, hH, hS, hu, hC⟩ := hok
  refine ct_wd (c_X8_count cI cB _ _ _ _ _ _ _ _ _ _ o f xs rf sd us os C N w hA hu hC) [0, 1, 5, 6, 7, 8, 9, 10, 11] rfl (by decide) (fun ov Mc1 hpo => ?_)
  obtain ⟨rfl, sz2, sl2, ut2, ol2, xs2, rf2, sd2, us2, os2, C2, N2, hu2, hC2, rfl⟩ := hpo
  exact pmV_i rfl ⟨hA, hH, hS, hu2, hC2⟩ rfl

set_option maxHeartbeats 1000000 in
set_option maxRecDepth 100000 in
theorem w_X8_collideWith (cI cB : ClassId) (m : Nat → Nat) (o : Ob) (sz sl ut ol sp tw tm mm : Int32) (f kp h s q : Nat → Int32) (xs rf sd us os C N hd hn : List Int32) (c l : Int32) (hok : okM o f h s us C) : Ct cI cB yX8_collideWith wsX8_collideWith { frames := 7, cells := 0, slots := 0, locals := 161 } [.ref (m 0), .int c, .int l] (mwX cI m o sz sl ut ol sp tw tm mm f kp h s q xs rf sd us os C N hd hn) (pmV cI m ((vColl o.2.2.1 c l, o))) := by
  obtain ⟨hA, hH, hS, hu, hC⟩ := hok
  refine ct_wd (c_X8_collideWith cI cB _ _ _ _ _ _ _ _ _ _ _ _ _ o.2.2.1 f kp xs rf sd us os C N c l hA hu hC) [0, 1, 5, 6, 7, 8, 9, 10, 11, 2] rfl (by decide) (fun ov Mc1 hpo => ?_)
  obtain ⟨rfl, f2, g2, sz2, sl2, ut2, ol2, xs2, rf2, sd2, us2, os2, C2, N2, hA2, hu2, hC2, rfl⟩ := hpo
  exact pmV_i rfl ⟨hA2, hH, hS, hu2, hC2⟩ rfl

set_option maxHeartbeats 1000000 in
set_option maxRecDepth 100000 in
theorem w_X8_markCollisions (cI cB : ClassId) (m : Nat → Nat) (o : Ob) (sz sl ut ol sp tw tm mm : Int32) (f kp h s q : Nat → Int32) (xs rf sd us os C N hd hn : List Int32)  (hok : okM o f h s us C) : Ct cI cB yX8_markCollisions wsX8_markCollisions { frames := 6, cells := 0, slots := 0, locals := 139 } [.ref (m 0)] (mwX cI m o sz sl ut ol sp tw tm mm f kp h s q xs rf sd us os C N hd hn) (pmV cI m (sMark o)) := by
  obtain ⟨hA, hH, hS, hu, hC⟩ := hok
  refine ct_wd (c_X8_markCollisions cI cB _ _ _ _ _ _ _ _ _ _ _ _ o.2.2.1 o.2.2.2.2.2 f kp h xs rf sd us os C N hA hH hu hC) [0, 1, 5, 6, 7, 8, 9, 10, 11, 2, 3] rfl (by decide) (fun ov Mc1 hpo => ?_)
  obtain ⟨rfl, f2, g2, h2, sz2, sl2, ut2, ol2, xs2, rf2, sd2, us2, os2, C2, N2, hA2, hH2, hu2, hC2, rfl⟩ := hpo
  exact pmV_i (eq_mark hA.1) ⟨hA2, hH2, hS, hu2, hC2⟩ rfl

set_option maxHeartbeats 1000000 in
set_option maxRecDepth 100000 in
theorem w_X8_moveRule (cI cB : ClassId) (m : Nat → Nat) (o : Ob) (sz sl ut ol sp tw tm mm : Int32) (f kp h s q : Nat → Int32) (xs rf sd us os C N hd hn : List Int32) (i j : Int32) (hok : okM o f h s us C) : Ct cI cB yX8_moveRule wsX8_moveRule { frames := 7, cells := 0, slots := 0, locals := 163 } [.ref (m 0), .int i, .int j] (mwX cI m o sz sl ut ol sp tw tm mm f kp h s q xs rf sd us os C N hd hn) (pmV cI m (sMvR o i j)) := by
  obtain ⟨hA, hH, hS, hu, hC⟩ := hok
  refine ct_wd (c_X8_moveRule cI cB _ _ _ _ _ _ _ _ _ _ _ _ o.2.2.1 o.2.2.2.2.2 f kp h xs rf sd us os C N hd hn i j hA hH hu hC) [0, 1, 5, 6, 7, 8, 9, 10, 11, 2, 3, 14, 15] rfl (by decide) (fun ov Mc1 hpo => ?_)
  obtain ⟨rfl, f2, g2, h2, sz2, sl2, ut2, ol2, xs2, rf2, sd2, us2, os2, C2, N2, hd2, hn2, hA2, hH2, hu2, hC2, rfl⟩ := hpo
  exact pmV_i (eq_mvR hA.1) ⟨hA2, hH2, hS, hu2, hC2⟩ rfl

set_option maxHeartbeats 1000000 in
set_option maxRecDepth 100000 in
theorem w_X8_convert (cI cB : ClassId) (m : Nat → Nat) (o : Ob) (sz sl ut ol sp tw tm mm : Int32) (f kp h s q : Nat → Int32) (xs rf sd us os C N hd hn : List Int32) (b : Bool) (hok : okM o f h s us C) : Ct cI cB yX8_convert wsX8_convert { frames := 6, cells := 0, slots := 0, locals := 141 } [.ref (m 0), .int (bI b)] (mwX cI m o sz sl ut ol sp tw tm mm f kp h s q xs rf sd us os C N hd hn) (pmV cI m (sConv o b)) := by
  obtain ⟨hA, hH, hS, hu, hC⟩ := hok
  refine ct_wd (c_X8_convert cI cB _ _ _ _ _ _ _ _ _ _ _ o.2.2.1 f o.1 o.2.1 xs rf sd us os C N b hA hu hC) [0, 1, 5, 6, 7, 8, 9, 10, 11, 12, 16] rfl (by decide) (fun ov Mc1 hpo => ?_)
  obtain ⟨rfl, sz2, sl2, ut2, ol2, sp2, xs2, rf2, sd2, us2, os2, C2, N2, hu2, hC2, rfl⟩ := hpo
  exact pmV_i eq_conv ⟨hA, hH, hS, hu2, hC2⟩ rfl

set_option maxHeartbeats 1000000 in
set_option maxRecDepth 100000 in
theorem w_X8_readEntries (cI cB : ClassId) (m : Nat → Nat) (o : Ob) (sz sl ut ol sp tw tm mm : Int32) (f kp h s q : Nat → Int32) (xs rf sd us os C N hd hn : List Int32) (v : Rw) (hok : okM o f h s us C) : Ct cI cB yX8_readEntries wsX8_readEntries { frames := 5, cells := 0, slots := 0, locals := 115 } [.ref (m 0)] (mwX cI m o sz sl ut ol sp tw tm mm f kp h s q xs rf sd us os C N hd hn) (pmV cI m (sRead o v)) := by
  obtain ⟨hA, hH, hS, hu, hC⟩ := hok
  refine ct_wd (c_X8_readEntries cI cB _ _ _ _ _ _ _ _ _ _ _ o.2.2.1 o.2.2.2.2.2 f kp h q o.1 v hA hH) [0, 1, 12, 13, 2, 3] rfl (by decide) (fun ov Mc1 hpo => ?_)
  obtain ⟨rfl, sp2, tw2, tm2, mm2, f2, g2, h2, q2, hA2, hH2, rfl⟩ := hpo
  exact pmV_i (eq_read hA.1) ⟨hA2, hH2, hS, hu, hC⟩ rfl

