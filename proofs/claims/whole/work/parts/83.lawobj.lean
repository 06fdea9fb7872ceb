theorem k_X7_readEntries (cI cB : ClassId) (a : Nat → Nat) (g HB : Nat → Nat → Nat) (o : Ob) (c : Sc) : Ct cI cB yX7_readEntries wsX7_readEntries { frames := 6, cells := 0, slots := 0, locals := 142 } [.ref (a 0)] (wl cI cB a g HB o c) (po cI cB a g HB (sRead o (c.2.2.1.2.1, c.2.2.1.2.2.1, c.2.2.1.2.2.2.1, c.2.2.1.2.2.2.2, c.2.1)).1 (sRead o (c.2.2.1.2.1, c.2.2.1.2.2.1, c.2.2.1.2.2.2.1, c.2.2.1.2.2.2.2, c.2.1)).2) := by
  obtain ⟨ts, cs, S, SS, hn, hs⟩ := o
  obtain ⟨ns, xs, ⟨P, e, s, d, k⟩, T, D, w⟩ := c
  exact c_X7_readEntries cI cB a g HB ts cs S SS hn hs ns xs P e s d k T D w
theorem k_X7_removeRule (cI cB : ClassId) (a : Nat → Nat) (g HB : Nat → Nat → Nat) (o : Ob) (c : Sc) (i : Int32) : Ct cI cB yX7_removeRule wsX7_removeRule { frames := 6, cells := 0, slots := 0, locals := 142 } [.ref (a 0), .int i] (wl cI cB a g HB o c) (po cI cB a g HB (sRmR o i).1 (sRmR o i).2) := by
  obtain ⟨ts, cs, S, SS, hn, hs⟩ := o
  obtain ⟨ns, xs, ⟨P, e, s, d, k⟩, T, D, w⟩ := c
  exact c_X7_removeRule cI cB a g HB ts cs S SS hn hs ns xs P e s d k T D w i
theorem k_X7_moveRule (cI cB : ClassId) (a : Nat → Nat) (g HB : Nat → Nat → Nat) (o : Ob) (c : Sc) (i : Int32) (j : Int32) : Ct cI cB yX7_moveRule wsX7_moveRule { frames := 6, cells := 0, slots := 0, locals := 142 } [.ref (a 0), .int i, .int j] (wl cI cB a g HB o c) (po cI cB a g HB (sMvR o i j).1 (sMvR o i j).2) := by
  obtain ⟨ts, cs, S, SS, hn, hs⟩ := o
  obtain ⟨ns, xs, ⟨P, e, s, d, k⟩, T, D, w⟩ := c
  exact c_X7_moveRule cI cB a g HB ts cs S SS hn hs ns xs P e s d k T D w i j
theorem k_X7_removeWord (cI cB : ClassId) (a : Nat → Nat) (g HB : Nat → Nat → Nat) (o : Ob) (c : Sc) (i : Int32) : Ct cI cB yX7_removeWord wsX7_removeWord { frames := 6, cells := 0, slots := 0, locals := 142 } [.ref (a 0), .int i] (wl cI cB a g HB o c) (po cI cB a g HB (sRmW o i).1 (sRmW o i).2) := by
  obtain ⟨ts, cs, S, SS, hn, hs⟩ := o
  obtain ⟨ns, xs, ⟨P, e, s, d, k⟩, T, D, w⟩ := c
  exact c_X7_removeWord cI cB a g HB ts cs S SS hn hs ns xs P e s d k T D w i
theorem k_X7_setKind (cI cB : ClassId) (a : Nat → Nat) (g HB : Nat → Nat → Nat) (o : Ob) (c : Sc) (i : Int32) (j : Int32) : Ct cI cB yX7_setKind wsX7_setKind { frames := 6, cells := 0, slots := 0, locals := 142 } [.ref (a 0), .int i, .int j] (wl cI cB a g HB o c) (po cI cB a g HB (sKind o i j).1 (sKind o i j).2) := by
  obtain ⟨ts, cs, S, SS, hn, hs⟩ := o
  obtain ⟨ns, xs, ⟨P, e, s, d, k⟩, T, D, w⟩ := c
  exact c_X7_setKind cI cB a g HB ts cs S SS hn hs ns xs P e s d k T D w i j
theorem k_X7_markCollisions (cI cB : ClassId) (a : Nat → Nat) (g HB : Nat → Nat → Nat) (o : Ob) (c : Sc) : Ct cI cB yX7_markCollisions wsX7_markCollisions { frames := 6, cells := 0, slots := 0, locals := 142 } [.ref (a 0)] (wl cI cB a g HB o c) (po cI cB a g HB (sMark o).1 (sMark o).2) := by
  obtain ⟨ts, cs, S, SS, hn, hs⟩ := o
  obtain ⟨ns, xs, ⟨P, e, s, d, k⟩, T, D, w⟩ := c
  exact c_X7_markCollisions cI cB a g HB ts cs S SS hn hs ns xs P e s d k T D w
theorem k_X7_type (cI cB : ClassId) (a : Nat → Nat) (g HB : Nat → Nat → Nat) (o : Ob) (c : Sc) (i : Int32) : Ct cI cB yX7_type wsX7_type { frames := 1, cells := 0, slots := 0, locals := 21 } [.ref (a 0), .int i] (wl cI cB a g HB o c) (po cI cB a g HB (sType o i).1 (sType o i).2) := by
  obtain ⟨ts, cs, S, SS, hn, hs⟩ := o
  obtain ⟨ns, xs, ⟨P, e, s, d, k⟩, T, D, w⟩ := c
  exact c_X7_type cI cB a g HB ts cs S SS hn hs ns xs P e s d k T D w i
theorem k_X7_clearText (cI cB : ClassId) (a : Nat → Nat) (g HB : Nat → Nat → Nat) (o : Ob) (c : Sc) : Ct cI cB yX7_clearText wsX7_clearText { frames := 1, cells := 0, slots := 0, locals := 20 } [.ref (a 0)] (wl cI cB a g HB o c) (po cI cB a g HB (sClear o).1 (sClear o).2) := by
  obtain ⟨ts, cs, S, SS, hn, hs⟩ := o
  obtain ⟨ns, xs, ⟨P, e, s, d, k⟩, T, D, w⟩ := c
  exact c_X7_clearText cI cB a g HB ts cs S SS hn hs ns xs P e s d k T D w
theorem k_X7_convert (cI cB : ClassId) (a : Nat → Nat) (g HB : Nat → Nat → Nat) (o : Ob) (c : Sc) (b : Bool) : Ct cI cB yX7_convert wsX7_convert { frames := 6, cells := 0, slots := 0, locals := 142 } [.ref (a 0), .int (bI b)] (wl cI cB a g HB o c) (po cI cB a g HB (sConv o b).1 (sConv o b).2) := by
  obtain ⟨ts, cs, S, SS, hn, hs⟩ := o
  obtain ⟨ns, xs, ⟨P, e, s, d, k⟩, T, D, w⟩ := c
  exact c_X7_convert cI cB a g HB ts cs S SS hn hs ns xs P e s d k T D w b
theorem k_X7_takeResult (cI cB : ClassId) (a : Nat → Nat) (g HB : Nat → Nat → Nat) (o : Ob) (c : Sc) : Ct cI cB yX7_takeResult wsX7_takeResult { frames := 3, cells := 0, slots := 0, locals := 64 } [.ref (a 0)] (wl cI cB a g HB o c) (po cI cB a g HB (sTake o).1 (sTake o).2) := by
  obtain ⟨ts, cs, S, SS, hn, hs⟩ := o
  obtain ⟨ns, xs, ⟨P, e, s, d, k⟩, T, D, w⟩ := c
  exact c_X7_takeResult cI cB a g HB ts cs S SS hn hs ns xs P e s d k T D w
theorem k_X7_undo (cI cB : ClassId) (a : Nat → Nat) (g HB : Nat → Nat → Nat) (o : Ob) (c : Sc) : Ct cI cB yX7_undo wsX7_undo { frames := 6, cells := 0, slots := 0, locals := 142 } [.ref (a 0)] (wl cI cB a g HB o c) (po cI cB a g HB (sUndo o).1 (sUndo o).2) := by
  obtain ⟨ts, cs, S, SS, hn, hs⟩ := o
  obtain ⟨ns, xs, ⟨P, e, s, d, k⟩, T, D, w⟩ := c
  exact c_X7_undo cI cB a g HB ts cs S SS hn hs ns xs P e s d k T D w
theorem k_X7_keep (cI cB : ClassId) (a : Nat → Nat) (g HB : Nat → Nat → Nat) (o : Ob) (c : Sc) : Ct cI cB yX7_keep wsX7_keep { frames := 5, cells := 0, slots := 0, locals := 107 } [.ref (a 0)] (wl cI cB a g HB o c) (po cI cB a g HB (sKeep o).1 (sKeep o).2) := by
  obtain ⟨ts, cs, S, SS, hn, hs⟩ := o
  obtain ⟨ns, xs, ⟨P, e, s, d, k⟩, T, D, w⟩ := c
  exact c_X7_keep cI cB a g HB ts cs S SS hn hs ns xs P e s d k T D w
theorem k_X7_restore (cI cB : ClassId) (a : Nat → Nat) (g HB : Nat → Nat → Nat) (o : Ob) (c : Sc) : Ct cI cB yX7_restore wsX7_restore { frames := 6, cells := 0, slots := 0, locals := 142 } [.ref (a 0)] (wl cI cB a g HB o c) (po cI cB a g HB (sRest o).1 (sRest o).2) := by
  obtain ⟨ts, cs, S, SS, hn, hs⟩ := o
  obtain ⟨ns, xs, ⟨P, e, s, d, k⟩, T, D, w⟩ := c
  exact c_X7_restore cI cB a g HB ts cs S SS hn hs ns xs P e s d k T D w
theorem k_X7_rule (cI cB : ClassId) (a : Nat → Nat) (g HB : Nat → Nat → Nat) (o : Ob) (c : Sc) (i : Int32) (j : Int32) : Ct cI cB yX7_rule wsX7_rule { frames := 3, cells := 0, slots := 0, locals := 62 } [.ref (a 0), .int i, .int j] (wl cI cB a g HB o c) (po cI cB a g HB ((vRule o.2.2.1 i j, o)).1 ((vRule o.2.2.1 i j, o)).2) := by
  obtain ⟨ts, cs, S, SS, hn, hs⟩ := o
  obtain ⟨ns, xs, ⟨P, e, s, d, k⟩, T, D, w⟩ := c
  exact c_X7_rule cI cB a g HB ts cs S SS hn hs ns xs P e s d k T D w i j
theorem k_X7_letterOf (cI cB : ClassId) (a : Nat → Nat) (g HB : Nat → Nat → Nat) (o : Ob) (c : Sc) (i : Int32) (j : Int32) : Ct cI cB yX7_letterOf wsX7_letterOf { frames := 3, cells := 0, slots := 0, locals := 62 } [.ref (a 0), .int i, .int j] (wl cI cB a g HB o c) (po cI cB a g HB ((vLetter o.2.2.1 i j, o)).1 ((vLetter o.2.2.1 i j, o)).2) := by
  obtain ⟨ts, cs, S, SS, hn, hs⟩ := o
  obtain ⟨ns, xs, ⟨P, e, s, d, k⟩, T, D, w⟩ := c
  exact c_X7_letterOf cI cB a g HB ts cs S SS hn hs ns xs P e s d k T D w i j
theorem k_X7_sign (cI cB : ClassId) (a : Nat → Nat) (g HB : Nat → Nat → Nat) (o : Ob) (c : Sc) (i : Int32) (j : Int32) : Ct cI cB yX7_sign wsX7_sign { frames := 2, cells := 0, slots := 0, locals := 44 } [.ref (a 0), .int i, .int j] (wl cI cB a g HB o c) (po cI cB a g HB ((vSign o.2.2.1 i j, o)).1 ((vSign o.2.2.1 i j, o)).2) := by
  obtain ⟨ts, cs, S, SS, hn, hs⟩ := o
  obtain ⟨ns, xs, ⟨P, e, s, d, k⟩, T, D, w⟩ := c
  exact c_X7_sign cI cB a g HB ts cs S SS hn hs ns xs P e s d k T D w i j
theorem k_X7_word (cI cB : ClassId) (a : Nat → Nat) (g HB : Nat → Nat → Nat) (o : Ob) (c : Sc) (i : Int32) (j : Int32) : Ct cI cB yX7_word wsX7_word { frames := 5, cells := 0, slots := 0, locals := 111 } [.ref (a 0), .int i, .int j] (wl cI cB a g HB o c) (po cI cB a g HB ((vWord o.2.2.1 i j, o)).1 ((vWord o.2.2.1 i j, o)).2) := by
  obtain ⟨ts, cs, S, SS, hn, hs⟩ := o
  obtain ⟨ns, xs, ⟨P, e, s, d, k⟩, T, D, w⟩ := c
  exact c_X7_word cI cB a g HB ts cs S SS hn hs ns xs P e s d k T D w i j
theorem k_X7_at (cI cB : ClassId) (a : Nat → Nat) (g HB : Nat → Nat → Nat) (o : Ob) (c : Sc) (i : Int32) (j : Int32) (v : Int32) : Ct cI cB yX7_at wsX7_at { frames := 3, cells := 0, slots := 0, locals := 62 } [.ref (a 0), .int i, .int j, .int v] (wl cI cB a g HB o c) (po cI cB a g HB ((vAt o.2.2.1 i j v, o)).1 ((vAt o.2.2.1 i j v, o)).2) := by
  obtain ⟨ts, cs, S, SS, hn, hs⟩ := o
  obtain ⟨ns, xs, ⟨P, e, s, d, k⟩, T, D, w⟩ := c
  exact c_X7_at cI cB a g HB ts cs S SS hn hs ns xs P e s d k T D w i j v
theorem k_X7_result (cI cB : ClassId) (a : Nat → Nat) (g HB : Nat → Nat → Nat) (o : Ob) (c : Sc) (i : Int32) : Ct cI cB yX7_result wsX7_result { frames := 1, cells := 0, slots := 0, locals := 21 } [.ref (a 0), .int i] (wl cI cB a g HB o c) (po cI cB a g HB ((vRes o.2.1 i, o)).1 ((vRes o.2.1 i, o)).2) := by
  obtain ⟨ts, cs, S, SS, hn, hs⟩ := o
  obtain ⟨ns, xs, ⟨P, e, s, d, k⟩, T, D, w⟩ := c
  exact c_X7_result cI cB a g HB ts cs S SS hn hs ns xs P e s d k T D w i
theorem k_X7_collideWith (cI cB : ClassId) (a : Nat → Nat) (g HB : Nat → Nat → Nat) (o : Ob) (c : Sc) (i : Int32) (j : Int32) : Ct cI cB yX7_collideWith wsX7_collideWith { frames := 6, cells := 0, slots := 0, locals := 142 } [.ref (a 0), .int i, .int j] (wl cI cB a g HB o c) (po cI cB a g HB ((vColl o.2.2.1 i j, o)).1 ((vColl o.2.2.1 i j, o)).2) := by
  obtain ⟨ts, cs, S, SS, hn, hs⟩ := o
  obtain ⟨ns, xs, ⟨P, e, s, d, k⟩, T, D, w⟩ := c
  exact c_X7_collideWith cI cB a g HB ts cs S SS hn hs ns xs P e s d k T D w i j
theorem k_X7_count (cI cB : ClassId) (a : Nat → Nat) (g HB : Nat → Nat → Nat) (o : Ob) (c : Sc) (i : Int32) : Ct cI cB yX7_count wsX7_count { frames := 6, cells := 0, slots := 0, locals := 133 } [.ref (a 0), .int i] (wl cI cB a g HB o c) (po cI cB a g HB ((vCount o i, o)).1 ((vCount o i, o)).2) := by
  obtain ⟨ts, cs, S, SS, hn, hs⟩ := o
  obtain ⟨ns, xs, ⟨P, e, s, d, k⟩, T, D, w⟩ := c
  exact c_X7_count cI cB a g HB ts cs S SS hn hs ns xs P e s d k T D w i
