/-! a contract over more modules than it speaks of -/
theorem wd_rep {D : va_G} {Ms Mc Mc' : List Md} {is : List Nat} {sz : Nat} {H Ht : Heap} (hp : is.map (fun i => Ms[i]?) = Mc.map some) (hm : Mc'.map (fun M => M.1) = Mc.map (fun M => M.1)) (w : wd D Ms H) (nd : (adr Ms).Nodup) (hsz : H.size = sz) (hk : ∀ q : Nat, q < H.size → ¬ mA Mc sz q → Ht[q]? = H[q]?) (hw : wd D Mc' Ht) : wd D (rep Ms is Mc') Ht ∧ (rep Ms is Mc').map (fun M => M.1) = Ms.map (fun M => M.1) := by
  have hsame : (rep Ms is Mc').map (fun M => M.1) = Ms.map (fun M => M.1) := by
    refine rep_map is Ms Mc' ?_
    have g2 : is.map (fun i => (Ms.map (fun M => M.1))[i]?) = Mc.map (fun M => some M.1) := by
      have : (is.map (fun i => Ms[i]?)).map (fun o => o.map (fun M => M.1)) = (Mc.map some).map (fun o => o.map (fun M => M.1)) := by rw [hp]
      rw [List.map_map, List.map_map] at this
      refine Eq.trans (List.map_congr_left fun i _ => ?_) this
      rw [List.getElem?_map]; rfl
    rw [g2]
    have g3 : (Mc'.map (fun M => M.1)).map some = (Mc.map (fun M => M.1)).map some := by rw [hm]
    rw [List.map_map, List.map_map] at g3
    exact g3.symm
  have hlen : is.length = Mc'.length := by
    have g1 := congrArg List.length hp
    have g2 := congrArg List.length hm
    simp only [List.length_map] at g1 g2
    omega
  refine ⟨fun N hN => ?_, hsame⟩
  rcases rep_mem is Ms Mc' N hlen hN with g1 | ⟨i, hi1, hi2⟩
  · exact hw N g1
  · have hN2 := w N (List.mem_of_getElem? hi2)
    refine hN2.kept fun q hq2 => hk q (hN2.lt hq2) fun hq3 => ?_
    rcases hq3 with hq3 | hq3
    · obtain ⟨j, M, hj, hM⟩ := adr_of hq3
      obtain ⟨i2, hi3, hi4⟩ := pick_in hp (List.mem_of_getElem? hj)
      exact adr_disj nd hi2 hi4 (fun e => hi1 (by rw [e]; exact hi3)) hq2 hM
    · rw [← hsz] at hq3
      exact absurd (hN2.lt hq2) (Nat.not_lt.mpr hq3)
theorem ct_wd {cI cB : ClassId} {y : MethodName} {ws : List Cond} {rm : Room} {av : List Value} {Mc Ms : List Md} {post post' : Option Value → List Md → Prop} (h : Ct cI cB y ws rm av Mc post) (is : List Nat) (hp : is.map (fun i => Ms[i]?) = Mc.map some) (hnd : is.Nodup) (hpo : ∀ ov Mc', post ov Mc' → post' ov (rep Ms is Mc')) : Ct cI cB y ws rm av Ms post' := by
  intro l D sz p e ha hc hk s m args below hf happ hP hK
  obtain ⟨hav, hsz, w, hK2, nd, hns⟩ := hP
  obtain ⟨n, o, h1, h2, h3, ⟨⟨ov, Mc', e1, e2, e3, e4⟩, hF1, hF2⟩, L, hL1, hL2⟩ := h l D sz p e ha hc hk s m args below hf happ ⟨hav, hsz, fun N hN => by obtain ⟨i, -, hi⟩ := pick_in hp hN; exact w N (List.mem_of_getElem? hi), hK2, adr_pick nd is Mc hnd hp, hns⟩ hK
  have hmA : ∀ q, mA Mc sz q → mA Ms sz q := fun q hq => hq.elim (fun z => Or.inl (by
    obtain ⟨j, N, hj, hN⟩ := adr_of z
    obtain ⟨i, -, hi⟩ := pick_in hp (List.mem_of_getElem? hj)
    exact adr_in hi hN)) Or.inr
  obtain ⟨g1, g2⟩ := wd_rep hp e3 w nd hsz hF2 e4
  exact ⟨n, o, h1, h2, h3, ⟨⟨ov, rep Ms is Mc', e1, hpo ov Mc' e2, g2, g1⟩, hF1, fun q z1 z2 => hF2 q z1 (fun z => z2 (hmA q z))⟩, L, hL1, fun q hq => hmA _ (hL2 q hq)⟩
/-- the model's whole world of an object -/
def mwX (cI : ClassId) (m : Nat → Nat) (o : Ob) (sz sl ut ol sp tw tm mm : Int32) (f kp h s q : Nat → Int32) (xs rf sd us os C N hd hn : List Int32) : List Md := [moM m (nI o.2.2.2.2.2.length) (bI o.2.2.2.2.1) sz sl ut ol (nI o.1.length) sp tw tm mm (nI o.2.1.length), arF cI (m 1) 570 f, arF cI (m 2) 570 kp, arF cI (m 3) 2280 h, arF cI (m 4) 570 s, arL cI (m 5) 12 xs, arL cI (m 6) 12 rf, arL cI (m 7) 12 sd, arL cI (m 8) 30 us, arL cI (m 9) 26 os, arL cI (m 10) 520 C, arL cI (m 11) 20 N, arL cI (m 12) 60 o.1, arF cI (m 13) 60 q, arL cI (m 14) 520 hd, arL cI (m 15) 20 hn, arL cI (m 16) 420 o.2.1]
def okM (o : Ob) (f h s : Nat → Int32) (us C : List Int32) : Prop := allR o.2.2.1 f ∧ histR o.2.2.2.2.2 h ∧ (o.2.2.2.2.1 = true → allR o.2.2.2.1 s) ∧ us.length = 30 ∧ C.length = 520
def pmV (cI : ClassId) (m : Nat → Nat) (r : Int32 × Ob) : Option Value → List Md → Prop := fun ov M => ov = some (.int r.1) ∧ ∃ (sz sl ut ol sp tw tm mm : Int32) (f kp h s q : Nat → Int32) (xs rf sd us os C N hd hn : List Int32), okM r.2 f h s us C ∧ M = mwX cI m r.2 sz sl ut ol sp tw tm mm f kp h s q xs rf sd us os C N hd hn
theorem pmV_i {cI : ClassId} {m : Nat → Nat} {r : Int32 × Ob} {v : Int32} {o : Ob} {M : List Md} {sz sl ut ol sp tw tm mm : Int32} {f kp h s q : Nat → Int32} {xs rf sd us os C N hd hn : List Int32} (e : r = (v, o)) (hok : okM o f h s us C) (hM : M = mwX cI m o sz sl ut ol sp tw tm mm f kp h s q xs rf sd us os C N hd hn) : pmV cI m r (some (.int v)) M := by
  subst e
  exact ⟨rfl, sz, sl, ut, ol, sp, tw, tm, mm, f, kp, h, s, q, xs, rf, sd, us, os, C, N, hd, hn, hok, hM⟩
def updA (o : Ob) (r : At) : Ob := (o.1, o.2.1, r.2.1, o.2.2.2.1, o.2.2.2.2.1, r.2.2)
theorem act_wf {o : Ob} {S' : Bk} (hw : wfB o.2.2.1) : act o S' = (o.1, o.2.1, S', o.2.2.2.1, o.2.2.2.2.1, rec4 o.2.2.2.2.2 o.2.2.1) := by
  unfold act
  rw [cpB_wf hw 30 20 (by decide) (by decide)]
theorem eq_type {o : Ob} {c : Int32} : sType o c = ((tyT o.1 c).1, ((tyT o.1 c).2, o.2)) := by
  unfold sType tyT
  split <;> rfl
theorem eq_take {o : Ob} : sTake o = ((tkT o.1 o.2.1).1, ((tkT o.1 o.2.1).2, o.2)) := by
  unfold sTake tkT
  split <;> rfl
theorem eq_rmR {o : Ob} {i : Int32} (hw : wfB o.2.2.1) : sRmR o i = ((rmRT o.2.2.1 o.2.2.2.2.2 i).1, updA o (rmRT o.2.2.1 o.2.2.2.2.2 i)) := by
  unfold sRmR rmRT
  split
  · rw [act_wf hw]; rfl
  · rfl
theorem eq_rmW {o : Ob} {i : Int32} (hw : wfB o.2.2.1) : sRmW o i = ((rmWT o.2.2.1 o.2.2.2.2.2 i).1, updA o (rmWT o.2.2.1 o.2.2.2.2.2 i)) := by
  unfold sRmW rmWT
  split
  · rw [act_wf hw]; rfl
  · rfl
theorem eq_kind {o : Ob} {i k : Int32} (hw : wfB o.2.2.1) : sKind o i k = ((kdT o.2.2.1 o.2.2.2.2.2 i k).1, updA o (kdT o.2.2.1 o.2.2.2.2.2 i k)) := by
  unfold sKind kdT
  split
  · split
    · rfl
    · split
      · split
        · rfl
        · rw [act_wf hw]; rfl
      · rfl
  · rfl
theorem eq_mvR {o : Ob} {i j : Int32} (hw : wfB o.2.2.1) : sMvR o i j = ((mvT o.2.2.1 o.2.2.2.2.2 i j).1, updA o (mvT o.2.2.1 o.2.2.2.2.2 i j)) := by
  unfold sMvR mvT
  split
  · split
    · split
      · rfl
      · rw [act_wf hw]; rfl
    · rfl
  · rfl
theorem eq_mark {o : Ob} (hw : wfB o.2.2.1) : sMark o = ((mkT o.2.2.1 o.2.2.2.2.2).1, updA o (mkT o.2.2.1 o.2.2.2.2.2)) := by
  unfold sMark mkT
  split
  · rfl
  · rw [act_wf hw]; rfl
theorem eq_read {o : Ob} {v : Rw} (hw : wfB o.2.2.1) : sRead o v = ((rdT o.2.2.1 o.2.2.2.2.2 o.1 (reF o.1 60 (0, v) (cpB 60 50 o.2.2.1) true 0)).1, updA o (rdT o.2.2.1 o.2.2.2.2.2 o.1 (reF o.1 60 (0, v) (cpB 60 50 o.2.2.1) true 0))) := by
  unfold sRead
  generalize reF o.1 60 (0, v) (cpB 60 50 o.2.2.1) true 0 = R
  unfold sRead2 rdT
  split
  · split
    · split
      · rw [act_wf hw]; rfl
      · rfl
    · rfl
  · rfl
theorem eq_conv {o : Ob} {b : Bool} : sConv o b = ((cvT o.2.2.1 o.1 o.2.1 b).1, (o.1, (cvT o.2.2.1 o.1 o.2.1 b).2, o.2.2)) := by
  unfold sConv cvT
  split <;> rfl
theorem eq_rest {o : Ob} (hw : wfB o.2.2.1) (hs : o.2.2.2.2.1 = true → wfB o.2.2.2.1) : sRest o = ((rsT o.2.2.1 o.2.2.2.1 o.2.2.2.2.1 o.2.2.2.2.2).1, updA o (rsT o.2.2.1 o.2.2.2.1 o.2.2.2.2.1 o.2.2.2.2.2)) := by
  unfold sRest rsT
  split
  · rename_i h
    rw [act_wf hw, cpB_wf (hs h) 30 20 (by decide) (by decide)]; rfl
  · rfl
theorem eq_keep {o : Ob} (hw : wfB o.2.2.1) : sKeep o = (nI o.2.2.1.2.2.2.2.1.length, (o.1, o.2.1, o.2.2.1, o.2.2.1, true, o.2.2.2.2.2)) := by
  unfold sKeep
  rw [cpB_wf hw 30 20 (by decide) (by decide)]
theorem dl_gd {hs : List Bk} {i : Nat} (h : i < hs.length - 1) : hs.dropLast.getD i bk0 = hs.getD i bk0 := by
  rw [gd_in (by rw [List.length_dropLast]; exact h), List.getElem_dropLast, gd_in (by omega)]
theorem histR_dl {hs : List Bk} {h : Nat → Int32} (hH : histR hs h) : histR hs.dropLast h := by
  have h4 := hH.1
  refine ⟨by rw [List.length_dropLast]; omega, fun i hi => ?_⟩
  rw [List.length_dropLast] at hi
  rw [dl_gd hi]
  exact hH.2 i (by omega)
theorem eq_undo {o : Ob} {h : Nat → Int32} (hH : histR o.2.2.2.2.2 h) : sUndo o = if o.2.2.2.2.2.length = 0 then (-5, o) else (nI (o.2.2.2.2.2.length - 1), (o.1, o.2.1, o.2.2.2.2.2.getD (o.2.2.2.2.2.length - 1) bk0, o.2.2.2.1, o.2.2.2.2.1, o.2.2.2.2.2.dropLast)) := by
  unfold sUndo
  split
  · rfl
  · rename_i h0
    rw [cpB_wf (hH.2 (o.2.2.2.2.2.length - 1) (by omega)).1 30 20 (by decide) (by decide), List.length_dropLast]
