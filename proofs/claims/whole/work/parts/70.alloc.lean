/-! methods that make cells -/
def aoB (U : State) : Prop := va_AO "SoundSpeller$Book" U
def preA (D : va_G) (cI cB : ClassId) (Ms : List Md) (sz : Nat) : State → Prop := fun U => pre D cI cB Ms sz U ∧ aoB U
def QmA (D : va_G) (Ms : List Md) (sz : Nat) (post : List Md → Prop) : Array Value → State → Outcome → State → Prop := fun _ st oc t => (∃ Ms' : List Md, oc = .returned none ∧ post Ms' ∧ wd D Ms' t.heap ∧ (adr Ms').Nodup ∧ ∀ q ∈ adr Ms', mA Ms sz q) ∧ va_F (mA Ms sz) st t
def CtA (cI cB : ClassId) (y : MethodName) (ws : List Cond) (rm : Room) (mc ms : Nat) (av : List Value) (Ms : List Md) (post : List Md → Prop) : Prop := ∀ (l : Launch) (D : va_G) (sz : Nat), Met l y ws rm (va_Pc av (preA D cI cB Ms sz)) (QmA D Ms sz post) mc ms (mA Ms sz)
def AOx (X : Cx) : Prop := aoB (Xs X)
def INx (X : Cx) : Prop := (Xmeth X).name = "<init>"
def finA (X : Cx) (Mc : List Md) (post : List Md → Prop) (mc ms : Nat) : Prop := XQ X = MQ (Xbelow X) (QmA (XD X) Mc (Xs X).heap.size post) (Xargs X) (Xs X) mc ms (mA Mc (Xs X).heap.size) ∧ XA X = mA Mc (Xs X).heap.size ∧ (Xmeth X).sig.returnType = none
theorem ct_ofA {cI cB : ClassId} {y : MethodName} {ws ws' : List Cond} {rm : Room} {mc ms : Nat} {av : List Value} {Mc : List Md} {post : List Md → Prop} {cc : ByteArray} {maxL : Nat} (hy : plainName y.cls = true) (hw : ws = Cond.code y cc maxL none :: ws') (hl : (lg_sl av).length ≤ maxL) (lv0 : List (Nat × Value)) (hl0 : lv_args 0 av = lv0) (hn : y.name = "<init>")
    (body : ∀ X : Cx, XI X = cI → XB X = cB → okx X cc maxL y.cls ws rm → AOx X → INx X → finA X Mc post mc ms → V X 0 0 0 lv0 [] Mc) : CtA cI cB y ws rm mc ms av Mc post := by
  intro l D sz
  refine Met.ofW (cc := cc) (maxL := maxL) (ret := none) hy hw ?_
  intro p e s m args below meth c s₁ B hml hv
  obtain ⟨rfl, ⟨hsz, hwd, hK, hnd, hns⟩, hao⟩ := hv
  subst hsz
  have b := body (p, l, e, (headSpec ws rm).room, s, m, av.toArray, below, meth, c, mA Mc s.heap.size, MQ below (QmA D Mc s.heap.size post) av.toArray s mc ms (mA Mc s.heap.size), D, cI, cB) rfl rfl
    ⟨B.exec, B.bytes, hml, findClass_of_methodNamed B.named, atoms_spec (ws := ws) B.pre, rfl, B.notSynchronized, hK, fun q h => Or.inr h, hns⟩ hao ((name_of_methodNamed B.named B.method).1.trans hn) ⟨rfl, rfl, B.returns⟩
  have h0 := lv_entry av hl
  rw [← hl0] at b
  rw [lg_entry_eq]
  exact b s.heap [] _ hwd hnd (fun q h => Or.inl h) va_S.rf (by show lv_has _ c.maxLocals _; rw [hml]; exact h0)
theorem push_wd {D : va_G} {Ms : List Md} {M : Md} {H H1 : Heap} (w : wd D Ms H) (o1 : ∀ q, q < H.size → H1[q]? = H[q]?) (hM : mAt D M H1) : wd D (Ms ++ [M]) H1 := by
  intro N hN
  rcases List.mem_append.mp hN with h | h
  · exact (w N h).kept fun q hq => o1 q ((w N h).lt hq)
  · rw [List.mem_singleton.mp h]; exact hM
theorem adr_lt {D : va_G} {Ms : List Md} {H : Heap} (w : wd D Ms H) {q : Nat} (hq : q ∈ adr Ms) : q < H.size := by
  obtain ⟨i, M, hi, hM⟩ := adr_of hq
  exact (w M (List.mem_of_getElem? hi)).lt hM
theorem push_nd {D : va_G} {Ms : List Md} {M : Md} {H : Heap} (w : wd D Ms H) (nd : (adr Ms).Nodup) (h1 : M.1 = [H.size]) : (adr (Ms ++ [M])).Nodup := by
  rw [adr_app]
  refine List.pairwise_append.mpr ⟨nd, ?_, fun a ha b hb e => ?_⟩
  · show (adr [M]).Nodup
    unfold adr
    rw [List.flatMap_cons, List.flatMap_nil, List.append_nil, h1]
    exact List.pairwise_singleton _ _
  · unfold adr at hb
    rw [List.flatMap_cons, List.flatMap_nil, List.append_nil, h1] at hb
    have h2 := adr_lt w ha
    rw [e, List.mem_singleton.mp hb] at h2
    exact Nat.lt_irrefl _ h2
/-- modules by a mask -/
def pkM : List Md → List Bool → List Md
  | [], _ => []
  | _ :: _, [] => []
  | M :: Ms, true :: bs => M :: pkM Ms bs
  | _ :: Ms, false :: bs => pkM Ms bs
theorem pk_t {M : Md} {Ms : List Md} {bs : List Bool} : pkM (M :: Ms) (true :: bs) = M :: pkM Ms bs := rfl
theorem pk_f {M : Md} {Ms : List Md} {bs : List Bool} : pkM (M :: Ms) (false :: bs) = pkM Ms bs := rfl
theorem pk_n {bs : List Bool} : pkM [] bs = [] := rfl
theorem pkM_sub : ∀ (Ms : List Md) (bs : List Bool), (pkM Ms bs).Sublist Ms
  | [], _ => List.nil_sublist _
  | _ :: _, [] => List.nil_sublist _
  | M :: Ms, true :: bs => (pkM_sub Ms bs).cons₂ M
  | M :: Ms, false :: bs => (pkM_sub Ms bs).cons M
theorem adr_sub {Ms' Ms : List Md} (h : Ms'.Sublist Ms) : (adr Ms').Sublist (adr Ms) := by
  induction h with
  | slnil => exact List.nil_sublist _
  | cons a _ ih => exact List.sublist_append_of_sublist_right ih
  | cons_cons a _ ih => exact ih.append_left a.1
section VALLOC
variable {X : Cx} {cc : ByteArray} {nL : Nat} {own : String} {Ts : List Cond} {R : Room} {k1 k2 pc : Nat} {lv : List (Nat × Value)} {st : List Value} {Ms Mc : List Md}
theorem v_retA {post : List Md → Prop} (C : okx X cc nL own Ts R) (E : finA X Mc post k1 k2) (hdg : decode cc pc = .ok (.return_, 1)) (hp : post Ms) : V X k1 k2 pc lv [] Ms := by
  intro H locs ls w nd a' s h
  unfold WX
  rw [E.1]
  have s2 := s
  rw [E.2.1] at s2
  exact W.vret C.1 C.2.1 E.2.2 (fun t ht hW => ⟨⟨Ms, rfl, hp, by rw [ht]; exact w, nd, fun q hq => by have := a' q hq; rw [E.2.1] at this; exact this⟩, s2.F ht⟩) s2.2.2 hdg C.2.2.2.2.2.2.1
theorem v_obj (C : okx X cc nL own Ts R) {index a : Nat} (h1 : Cond.methodLink own index objectInit ∈ Ts) (h2 : Cond.instanceMethod objectInit ∈ Ts) (h3 : Cond.code objectInit ⟨#[0xb1]⟩ 1 none ∈ Ts) (hf : 1 ≤ R.frames) (hl : (st.map fun v => v.category).sum + 12 ≤ R.locals) (hdg : decode cc pc = .ok (.invokespecial index, 3)) (kk : V X k1 k2 (pc + 3) lv st Ms) : V X k1 k2 pc lv (.ref a :: st) Ms := by
  intro H locs ls w n a' s h
  have hRR := C.2.2.2.2.2.1
  exact W.objInit C.1 C.2.1 C.2.2.2.1 (C.2.2.2.2.1 _ h1) (C.2.2.2.2.1 _ h2) (C.2.2.2.2.1 _ h3) rfl h.1 rfl hdg (by rw [hRR]; exact hf) (by rw [hRR]; show 2 * 0 + _ + 12 ≤ _; omega) (kk H locs ls w n a' s h)
theorem v_new (C : okx X cc nL own Ts R) {ci index : Nat} {fs : List Value} {Cn : String} {T : u_T} {N : Nat} (hc : vwCl[ci]? = some (Cn, T, N)) (hin : ∀ w ∈ u_ws Cn T N, w ∈ Ts) (ty : Nat → FieldType) (hty : ∀ k, k < N → parseFieldDescriptor (T k).2.2.1 = some (ty k)) (hcl : Cond.classLink own index Cn ∈ Ts) (hinst : Cond.instantiable Cn N ∈ Ts) (hini : Cond.initialized Cn ∈ Ts) (hfs : ∀ j, j < N → defaultValue (ty j) = vp_V fs j) (hk : k1 + 1 ≤ R.cells ∧ k2 + N ≤ R.slots) (hdg : decode cc pc = .ok (.new index, 3))
    (kk : ∀ q, V X (k1 + 1) (k2 + N) (pc + 3) lv (.ref q :: st) (Ms ++ [cM q (.inr (ci, fs))])) : V X k1 k2 pc lv st Ms := by
  intro H locs ls w nd a' s h
  obtain ⟨hexec, hb, hml, hown, hts, hR, hlk, hK, hA, -⟩ := C
  have hKn := hK.1 ci _ hc
  refine W.newcK hexec hb hown (hts _ hcl) (hts _ hinst) (hts _ hini) rfl hdg (by rw [hR]; exact hk.1) (by rw [hR]; exact hk.2) hKn.2.1 rfl fun H1 kC hkC e1 z1 o1 => ?_
  have hsA : XA X H.size := hA _ s.1
  refine kk H.size H1 locs ls (push_wd w o1 (mAt_c.mpr ⟨_, hc, (u_born ty hts hin hKn hkC e1 hty).to hfs⟩)) (push_nd w nd rfl) (fun q hq => ?_) ⟨Nat.le_trans s.1 (by omega), fun x h1 h2 => (o1 x (Nat.lt_of_lt_of_le h1 s.1)).trans (s.2.1 x h1 h2), s.2.2⟩ h
  rw [adr_app] at hq
  rcases List.mem_append.mp hq with hq | hq
  · exact a' q hq
  · rw [show q = H.size from List.mem_singleton.mp hq]; exact hsA
theorem v_newa (C : okx X cc nL own Ts R) (harr : Cond.arrayClass .int ∈ Ts) {n : Int32} (N : Nat) (hn : n = nI N) (hN : N < 100000000) (hk : k1 + 1 ≤ R.cells ∧ k2 + N ≤ R.slots) (hdg : decode cc pc = .ok (.newarray .int, 2))
    (kk : ∀ q, V X (k1 + 1) (k2 + N) (pc + 2) lv (.ref q :: st) (Ms ++ [arF (XI X) q N (fun _ => 0)])) : V X k1 k2 pc lv (.int n :: st) Ms := by
  intro H locs ls w nd a' s h
  obtain ⟨hexec, hb, hml, hown, hts, hR, hlk, hK, hA, -⟩ := C
  subst hn
  refine va_newaK (atype := .int) hexec hb (hts _ harr) rfl hdg rfl (nI_pos (by omega)) (nI_clamp (by omega)) (by show N * 4 ≤ _; omega) (by rw [hR]; exact hk.1) (by rw [hR]; exact hk.2) rfl fun H1 cA e1 z1 o1 hAr hNm => ?_
  have hcA : cA = XI X := Option.some.inj (hNm.symm.trans (hK.2 0 _ rfl).2)
  subst hcA
  have hsA : XA X H.size := hA _ s.1
  refine kk H.size H1 locs ls (push_wd w o1 (mAt_c.mpr ?_)) (push_nd w nd rfl) (fun q hq => ?_) ⟨Nat.le_trans s.1 (by omega), fun x h1 h2 => (o1 x (Nat.lt_of_lt_of_le h1 s.1)).trans (s.2.1 x h1 h2), s.2.2⟩ h
  · show H1[H.size]? = some (vp_cell _ _)
    rw [e1]
    rfl
  · rw [adr_app] at hq
    rcases List.mem_append.mp hq with hq | hq
    · exact a' q hq
    · rw [show q = H.size from List.mem_singleton.mp hq]; exact hsA
theorem v_newq (C : okx X cc nL own Ts R) (O : AOx X) {index : Nat} (hcl : Cond.classLink own index "SoundSpeller$Book" ∈ Ts) {n : Int32} (N : Nat) (hn : n = nI N) (hN : N < 100000000) (hk : k1 + 1 ≤ R.cells ∧ k2 + N ≤ R.slots) (hdg : decode cc pc = .ok (.anewarray index, 3))
    (kk : ∀ q, V X (k1 + 1) (k2 + N) (pc + 3) lv (.ref q :: st) (Ms ++ [cM q (.inl (XB X, N, .inr (.inr (.inr (.inr (fun _ => none))))))])) : V X k1 k2 pc lv (.int n :: st) Ms := by
  intro H locs ls w nd a' s h
  obtain ⟨hexec, hb, hml, hown, hts, hR, hlk, hK, hA, -⟩ := C
  subst hn
  have hcl2 : (nI N).toNatClampNeg = N := nI_clamp (by omega)
  refine W.anew hexec hb hown (hts _ hcl) (va_AO.use O) rfl hdg rfl (nI_pos (by omega)) (by rw [hcl2]; omega) (by rw [hR]; exact hk.1) (by rw [hR, hcl2]; exact hk.2) fun cA kA comp f1 f2 f3 f4 => ?_
  rw [hcl2]
  obtain ⟨kA2, comp2, g1, g2, g3, g4⟩ := (hK.2 1 _ rfl).2
  have hcA : cA = XB X := Option.some.inj (f1.symm.trans g4)
  subst hcA
  have hsA : XA X H.size := hA _ s.1
  have o1 : ∀ q : Nat, q < H.size → (H.push ({ cls := XB X, slots := Array.replicate N .null, vm := .none } : Cell))[q]? = H[q]? := fun q hq => by rw [Array.getElem?_push, if_neg (Nat.ne_of_lt hq)]
  refine kk H.size _ locs ls (push_wd w o1 (mAt_c.mpr ?_)) (push_nd w nd rfl) (fun q hq => ?_) ⟨Nat.le_trans s.1 (by rw [Array.size_push]; omega), fun x h1 h2 => (o1 x (Nat.lt_of_lt_of_le h1 s.1)).trans (s.2.1 x h1 h2), s.2.2⟩ h
  · show (H.push _)[H.size]? = some (vp_cell _ _)
    rw [vp_cell_q, Array.getElem?_push_size, ← arrV_new]
    rfl
  · rw [adr_app] at hq
    rcases List.mem_append.mp hq with hq | hq
    · exact a' q hq
    · rw [show q = H.size from List.mem_singleton.mp hq]; exact hsA
/-- a final field, in the constructor of its class -/
theorem v_putF (C : okx X cc nL own Ts R) (I : INx X) {a ci index : Nat} {fs : List Value} {T : u_T} {N : Nat} {nm ds : String} (i : Nat) (hi : Ms[i]? = some (cM a (.inr (ci, fs)))) (hc : vwCl[ci]? = some (own, T, N)) (hin : ∀ w ∈ u_ws own T N, w ∈ Ts) (ty0 : Nat → FieldType) (hty : ∀ k, k < N → parseFieldDescriptor (T k).2.2.1 = some (ty0 k)) (hnm : ∀ a, a < N → ∀ b, b < N → a ≠ b → (T a).2.1 ≠ (T b).2.1) (k : Nat) (hk : k < N) (hT : T k = (own, nm, ds, true)) (hlink : Cond.fieldLink own index own nm ds ∈ Ts) {v : Value} (hn : narrow (ty0 k) v = v) (hfit : fits (ty0 k) v = true) (hl : k < fs.length) (hdg : decode cc pc = .ok (.putfield index, 3))
    (kk : V X k1 k2 (pc + 3) lv st (Ms.set i (cM a (.inr (ci, fs.set k v))))) : V X k1 k2 pc lv (v :: .ref a :: st) Ms := by
  intro H locs ls w n a' s h
  obtain ⟨hexec, hb, hml, hown, hts, hR, hlk, hK, hA⟩ := C
  have e1 : (T k).1 = own := by rw [hT]
  have e2 : (T k).2.1 = nm := by rw [hT]
  have e3 : (T k).2.2.1 = ds := by rw [hT]
  have e4 : (T k).2.2.2 = true := by rw [hT]
  have hap := va_apart (own := own) hts hin ty0 hty hnm hK hc
  obtain ⟨r, h1, cell, q1, q2, q3, q4⟩ := mAt_c.mp (w _ (List.mem_of_getElem? hi))
  have hr : r = (own, T, N) := Option.some.inj (h1.symm.trans hc)
  subst hr
  obtain ⟨hS, hfc, kC, hkC, hkind⟩ := hK.1 ci _ hc
  obtain ⟨cf, kf, fi, f, hf, hsl⟩ := hS k hk
  have hlay := hts _ (hin _ (u_in_lay hk))
  unfold u_lay at hlay
  rw [if_pos e4] at hlay
  have hst := (u_facts hfc hkC (u_lays hts hin hk) hf).1
  have hcf : (Xm X).cls = cf := by
    obtain ⟨_, _, c', _, _, _, -, -, hf', -, -, -, hown2, -⟩ := Cond.laysFinal_spec hlay
    have e5 : c' = cf := by have := hf.symm.trans hf'; simp at this; exact this.1.symm
    rw [e1] at hown2
    rw [← e5]; exact Option.some.inj (hown.symm.trans hown2)
  have h6 := u_fits hfc hkC hkind (Or.inr hlay) hf (hty k hk) hn hfit
  have hlink2 : (Cond.fieldLink own index own (T k).2.1 (T k).2.2.1).before (Xargs X) (Xs X) = true := by rw [e2, e3]; exact hts _ hlink
  have hff : (Xs X).fieldFound? own (T k).2.1 (T k).2.2.1 = some (cf, kf, fi, f) := by
    have hf2 : (Xs X).fieldFound? (T k).1 (T k).2.1 (T k).2.2.1 = some (cf, kf, fi, f) := hf
    rw [e1] at hf2
    exact hf2
  have ha : a ∈ adr Ms := adr_in hi (List.mem_singleton.mpr rfl)
  refine W.putFinK hexec hb hown hlink2 hff hst hcf I (by rw [q2]; exact h6) q1 q3 (by rw [hsl]; exact k2_hasslot (q4 k hk)) rfl rfl hdg fun H' g1 g2 g3 => ?_
  rw [hsl] at g1 ⊢
  have hmap : (Ms.set i (cM a (.inr (ci, fs.set k v)))).map (fun M => M.1) = Ms.map (fun M => M.1) := set_map (by rw [List.getElem?_map, hi]; rfl)
  exact kk H' _ ls (wd_set w n hi rfl (mAt_c.mpr ⟨_, hc, t_OB.to (V := updV (vp_V fs) k v) ⟨_, g1, q2, q3, t_set q4 hap hk v⟩ (fun j _ => vp_updV_set hl v j)⟩) g3) (by rw [adr_map hmap]; exact n) (by rw [adr_map hmap]; exact a') (s.put g2 g3 (a' a ha)) h
theorem v_wide {k1' k2' : Nat} (h1 : k1 ≤ k1') (h2 : k2 ≤ k2') (kk : V X k1' k2' pc lv st Ms) : V X k1 k2 pc lv st Ms := fun H locs ls w n a' s h => W.widen h1 h2 (kk H locs ls w n a' s h)
/-- behind a call that makes cells: modules that it had are gone, those that came stand behind the rest -/
theorem v_runA {rest : List Value} {mc ms : Nat} {post : List Md → Prop} {is rs : List Nat} {Mr : List Md} (C : okx X cc nL own Ts R) (hp : is.map (fun i => Ms[i]?) = Mc.map some) (hq0 : rs.map (fun i => Ms[i]?) = Mr.map some) (hnr : rs.Nodup) (hdj : ∀ i ∈ rs, i ∉ is) {a0 : Array Value}
    {H : Heap} {locs : List Loc} {ls : Array Slot} (w : wd (XD X) Ms H) (nd : (adr Ms).Nodup) (a : ∀ q ∈ adr Ms, XA X q) (s : va_S (XA X) (Xs X).heap H locs) (h : lv_has ls (Xc X).maxLocals lv)
    (hr : va_Run (Xp X) (Xl X) (Xe X) (XR X) (Xs X) (Xm X) (Xargs X) (Xbelow X) (Xmeth X) (Xc X) H locs k1 k2 mc ms (F0 (Xm X) pc ls st) rest (QmA (XD X) Mc H.size post a0) (mA Mc H.size))
    (kk : ∀ Mc' : List Md, post Mc' → V X (k1 + mc) (k2 + ms) (pc + 3) lv rest (Mr ++ Mc')) : WX X H locs k1 k2 (F0 (Xm X) pc ls st) := by
  intro T hT XX
  obtain ⟨v, st₀, t, T', L, h0, X', hL, e1, e2, hq, stp⟩ := hr T hT XX
  obtain ⟨⟨Mc', hv, hpo, hw, hnd', had⟩, hz, hk⟩ := hq
  cases hv
  rw [h0] at hz hk
  have hin : ∀ q ∈ adr Mc, q ∈ adr Ms := fun q hq => by
    obtain ⟨j, N, hj, hN⟩ := adr_of hq
    obtain ⟨i, -, hi⟩ := pick_in hp (List.mem_of_getElem? hj)
    exact adr_in hi hN
  have hfree : ∀ q, mA Mc H.size q → XA X q := fun q hq => hq.elim (fun h => a q (hin q h)) (fun h => C.2.2.2.2.2.2.2.2.1 q (Nat.le_trans s.1 h))
  have hrest : ∀ N ∈ Mr, ∃ i, i ∉ is ∧ Ms[i]? = some N := fun N hN => by
    obtain ⟨i, hi, hi2⟩ := pick_in hq0 hN
    exact ⟨i, hdj i hi, hi2⟩
  have hapart : ∀ N ∈ Mr, ∀ q ∈ N.1, q < H.size ∧ ¬ mA Mc H.size q := fun N hN q hq => by
    obtain ⟨i, hi1, hi2⟩ := hrest N hN
    have hl := (w N (List.mem_of_getElem? hi2)).lt hq
    refine ⟨hl, fun z => ?_⟩
    rcases z with z | z
    · obtain ⟨j, M, hj, hM⟩ := adr_of z
      obtain ⟨i2, hi3, hi4⟩ := pick_in hp (List.mem_of_getElem? hj)
      exact adr_disj nd hi2 hi4 (fun e => hi1 (by rw [e]; exact hi3)) hq hM
    · omega
  have hwn : wd (XD X) (Mr ++ Mc') T'.heap := by
    rw [e1]
    intro N hN
    rcases List.mem_append.mp hN with h1 | h1
    · obtain ⟨i, hi1, hi2⟩ := hrest N h1
      exact (w N (List.mem_of_getElem? hi2)).kept fun q hq => hk q (hapart N h1 q hq).1 (hapart N h1 q hq).2
    · exact hw N h1
  have hndn : (adr (Mr ++ Mc')).Nodup := by
    rw [adr_app]
    refine List.pairwise_append.mpr ⟨adr_pick nd rs Mr hnr hq0, hnd', fun x hx y hy e => ?_⟩
    obtain ⟨j, N, hj, hN⟩ := adr_of hx
    subst e
    exact (hapart N (List.mem_of_getElem? hj) x hN).2 (had x hy)
  obtain ⟨t2, a1, b1⟩ := kk Mc' hpo T'.heap (locs ++ L) ls hwn hndn (fun q hq => by
      rw [adr_app] at hq
      rcases List.mem_append.mp hq with hq | hq
      · obtain ⟨j, N, hj, hN⟩ := adr_of hq
        obtain ⟨i, -, hi2⟩ := hrest N (List.mem_of_getElem? hj)
        exact a q (adr_in hi2 hN)
      · exact hfree q (had q hq))
    ⟨Nat.le_trans s.1 (by rw [e1]; exact hz), fun q h1 h2 => by rw [e1, hk q (Nat.lt_of_lt_of_le h1 s.1) (fun z => h2 (hfree q z))]; exact s.2.1 q h1 h2, fun q hq => by
      rcases List.mem_append.mp hq with h | h
      · exact s.2.2 q h
      · exact hfree _ (hL q h)⟩ h T' rfl X'
  exact ⟨t2, stp t2 a1, b1⟩
theorem preA_blind {D : va_G} {cI cB : ClassId} {sz : Nat} {av : List Value} : FrameBlind (va_Pc av (preA D cI cB Mc sz)) := fun a U g mk q => by
  obtain ⟨q0, q1, q2⟩ := q
  obtain ⟨q3, q4⟩ := pre_blind (av := av) (D := D) (cI := cI) (cB := cB) (Mc := Mc) (sz := sz) a U g mk ⟨q0, q1⟩
  exact ⟨q3, q4, q2⟩
theorem preA_at (C : okx X cc nL own Ts R) (O : AOx X) {is : List Nat} {av : List Value} (hp : is.map (fun i => Ms[i]?) = Mc.map some) (hnd : is.Nodup) {H : Heap} (w : wd (XD X) Ms H) (nd : (adr Ms).Nodup) : ∀ U : State, U.heap = H → (Xs X).WarmedH U.vm → va_Pc av (preA (XD X) (XI X) (XB X) Mc H.size) av.toArray U := fun U hU hW => by
  obtain ⟨q1, q2⟩ := pre_at (av := av) C hp hnd w nd U hU hW
  exact ⟨q1, q2, va_AO.moved hW.alike O⟩
theorem v_callI (C : okx X cc nL own Ts R) (O : AOx X) {y : MethodName} {wsY ws' : List Cond} {rm : Room} {mc ms b : Nat} {As rest : List Value} {bytes : ByteArray} {maxL index n : Nat} {post : List Md → Prop} (is rs : List Nat) (bs : List Bool)
    (hM : CtA (XI X) (XB X) y wsY rm mc ms (.ref b :: As) Mc post) (hp : is.map (fun i => Ms[i]?) = Mc.map some) (hq0 : rs.map (fun i => Ms[i]?) = (pkM Ms bs).map some) (hnd : is.Nodup ∧ rs.Nodup ∧ ∀ i ∈ rs, i ∉ is) (hG : GoodIn Ts wsY) (hw : wsY = Cond.code y bytes maxL none :: ws') (hn : As.length = n) (hini : Cond.initialized y.cls ∈ Ts) (hlk : Cond.methodLink own index y ∈ Ts) (him : Cond.instanceMethod y ∈ Ts) (hy1 : y.name = "<init>")
    (hd : y.cls ≠ "java/lang/invoke/MethodHandle" ∧ y.cls ≠ "java/lang/invoke/VarHandle" ∧ (parseMethodDescriptor y.desc).map (fun d => d.parameters.length) = some n) (hrm : rm.cells = mc ∧ rm.slots = ms) (hR : rm.frames + 1 ≤ R.frames ∧ 8 + (maxL + 11) + rm.locals ≤ R.locals)
    (hroom : (rest.map fun v => v.category).sum ≤ 8) (hk : k1 + mc ≤ R.cells ∧ k2 + ms ≤ R.slots) (hst : st = As.reverse ++ .ref b :: rest) (hdg : decode cc pc = .ok (.invokespecial index, 3))
    (kk : ∀ Mc' : List Md, post Mc' → V X (k1 + mc) (k2 + ms) (pc + 3) lv rest (pkM Ms bs ++ Mc')) : V X k1 k2 pc lv st Ms := by
  intro H locs ls w nd a s h
  have hRR := C.2.2.2.2.2.1
  exact v_runA C hp hq0 hnd.2.1 hnd.2.2 w nd a s h (va_runI (As := As) (rest := rest) ⟨C.1, C.2.1, C.2.2.1, C.2.2.2.1, C.2.2.2.2.1⟩ (hM (Xl X) (XD X) H.size) (cwI n C.2.2.2.2.1 hG hw hrm.1 hrm.2 (C.2.2.2.2.1 _ hini) (C.2.2.2.2.1 _ hlk) (C.2.2.2.2.1 _ him) hy1 hd (by rw [hRR]; exact hR)) ⟨preA_blind, preA_at C O hp hnd.1 w nd⟩ rfl hn (h.1.trans C.2.2.1) hst (lv_room hroom) hdg (by rw [hRR]; exact hk)) kk
theorem v_callIN (C : okx X cc nL own Ts R) (O : AOx X) {y : MethodName} {wsY ws' : List Cond} {rm : Room} {mc ms b : Nat} {As rest : List Value} {bytes : ByteArray} {maxL index n : Nat} {host : String} {post : List Md → Prop} (is rs : List Nat) (bs : List Bool)
    (hM : CtA (XI X) (XB X) y wsY rm mc ms (.ref b :: As) Mc post) (hp : is.map (fun i => Ms[i]?) = Mc.map some) (hq0 : rs.map (fun i => Ms[i]?) = (pkM Ms bs).map some) (hnd : is.Nodup ∧ rs.Nodup ∧ ∀ i ∈ rs, i ∉ is) (hG : GoodIn Ts wsY) (hw : wsY = Cond.code y bytes maxL none :: ws') (hn : As.length = n) (hini : Cond.initialized y.cls ∈ Ts) (hnest : (own, index, y, host) ∈ nests) (him : Cond.instanceMethod y ∈ Ts) (hy1 : y.name = "<init>")
    (hd : y.cls ≠ "java/lang/invoke/MethodHandle" ∧ y.cls ≠ "java/lang/invoke/VarHandle" ∧ (parseMethodDescriptor y.desc).map (fun d => d.parameters.length) = some n) (hrm : rm.cells = mc ∧ rm.slots = ms) (hR : rm.frames + 1 ≤ R.frames ∧ 8 + (maxL + 11) + rm.locals ≤ R.locals)
    (hroom : (rest.map fun v => v.category).sum ≤ 8) (hk : k1 + mc ≤ R.cells ∧ k2 + ms ≤ R.slots) (hst : st = As.reverse ++ .ref b :: rest) (hdg : decode cc pc = .ok (.invokespecial index, 3))
    (kk : ∀ Mc' : List Md, post Mc' → V X (k1 + mc) (k2 + ms) (pc + 3) lv rest (pkM Ms bs ++ Mc')) : V X k1 k2 pc lv st Ms := by
  intro H locs ls w nd a s h
  have hRR := C.2.2.2.2.2.1
  have hNw := C.2.2.2.2.2.2.2.2.2 _ hnest
  exact v_runA C hp hq0 hnd.2.1 hnd.2.2 w nd a s h (va_runIN (As := As) (rest := rest) ⟨C.1, C.2.1, C.2.2.1, C.2.2.2.1, C.2.2.2.2.1⟩ (hM (Xl X) (XD X) H.size) ⟨va_cnB n C.2.2.2.2.1 hG hw hrm.1 hrm.2 hNw (C.2.2.2.2.1 _ hini) hd (by rw [hRR]; exact hR), hy1, C.2.2.2.2.1 _ him⟩ ⟨preA_blind, preA_at C O hp hnd.1 w nd⟩ rfl hn (h.1.trans C.2.2.1) hst (lv_room hroom) hdg (by rw [hRR]; exact hk)) kk
theorem v_mask (bs : List Bool) (kk : V X k1 k2 pc lv st (pkM Ms bs)) : V X k1 k2 pc lv st Ms := fun H locs ls w n a s h => kk H locs ls (fun M hM => w M ((pkM_sub Ms bs).subset hM)) ((adr_sub (pkM_sub Ms bs)).nodup n) (fun q hq => a q ((adr_sub (pkM_sub Ms bs)).subset hq)) s h
end VALLOC
/-- a new book: each sound's own small letter -/
def bkI : Bk := ([], [], [], mpG (fun s => [nI (97 + s)]) 26, [], [])
