/-! begun from the kit's skeleton of the law: its first rows -/
def R_law : String := "SoundSpellerLaw"
def lw_P (b : Addr) (xs : List Int32) (args : Array Value) (s : State) : Prop := args = #[.ref b] ∧ s.IntsAt b xs ∧ xs.length ≤ 2048 ∧ (Jvm.Cond.and given_1 narrow_1).before args s = true
def lw_Q (_ : Array Value) (s : State) (o : Outcome) (t : State) : Prop := o = .returned (some (.int 1)) ∧ Framed s o t [] 600000 7302250
def lw_Z (below : List Frame) (a : Array Value) (s : State) : State → Prop := fun t => ∃ o, t.status = .running ∧ Ended t below o ∧ lw_Q a s o t
/-- the law's own end, with 1 on the stack, nothing written that was there before, its room as the claim has it -/
theorem lw_ret {p : Program} {l : Launch} {e : Env} {s : State} {m : MethodId} {below : List Frame} {meth : Method} {c : Code} {b : Nat} (hx : p.tables.exec = Jvm.exec) (hb : c.code = code) (hr : meth.sig.returnType = ret) (hlocks : meth.locks = false) {pc : Nat} {H : Heap} {ls : Array Slot} (hdg : decode code pc = .ok (.ireturn, 1)) : W p l e room_1 s m #[Value.ref b] below meth c H [] 600000 7302250 (lw_Z below #[Value.ref b] s) (F0 m pc ls [.int 1]) := by
  intro T hT X
  obtain ⟨fs, hret, hrun, hended, hW, hframe⟩ := X.leave (v := some (.int 1)) (hlocks := hlocks) (fun h => by rw [hr] at h; cases h)
  have hmeth' : T.vm.method? m = some meth := X.method'
  refine ⟨T.setFrames fs, ?_, .returned (some (.int 1)), hrun, hended, rfl, ⟨_, rfl⟩, hW, hframe⟩
  jvm_step X.here [X.here.top, hx, hb, hdg, hmeth', hr, ret, narrow_b1]
  (try refine ⟨rfl, ?_⟩); (try refine ⟨rfl, ?_⟩)
  first | (intro acts; rw [hret _ acts rfl rfl rfl]) | rw [hret _ _ rfl rfl rfl]
  exact Steps.refl _
/-- what holds at the law's entry: the machine, the code, the tables' words (any of lw_tbl by 'hts w (by decide +kernel)'), the script of L ints xs at the cell b, what the Statement gives of the start (any of its parts by flat_of_before) -/
def lw_At (p : Program) (s : State) (m : MethodId) (meth : Method) (c : Code) (b L : Nat) (xs : Nat → Int32) : Prop :=
  p.tables.exec = Jvm.exec ∧ c.code = code ∧ meth.sig.returnType = ret ∧ c.maxLocals = 4 ∧ s.vm.findClass R_law = some m.cls ∧ (∀ w ∈ lw_tbl, w.before #[Value.ref b] s = true) ∧ va_X b L xs s s.heap ∧ b < s.heap.size ∧ meth.locks = false ∧ (Jvm.Cond.and given_1 narrow_1).before #[Value.ref b] s = true
/-! the law over the layer of modules: its script, its switch, its two calls a case, its end -/
def lwx (X : Cx) (b L : Nat) (xs : Nat → Int32) : Prop := XA X = (fun q => (Xs X).heap.size ≤ q) ∧ va_X b L xs (Xs X) (Xs X).heap ∧ b < (Xs X).heap.size ∧ XQ X = lw_Z (Xbelow X) #[Value.ref b] (Xs X) ∧ Xargs X = #[Value.ref b] ∧ (Xmeth X).sig.returnType = ret ∧ L ≤ 2048
theorem lwx_b {X : Cx} {b L : Nat} {xs : Nat → Int32} (E : lwx X b L xs) : ¬ XA X b := by
  rw [E.1]
  exact Nat.not_le.mpr E.2.2.1
section VLAW
variable {X : Cx} {cc : ByteArray} {nL : Nat} {own : String} {Ts : List Cond} {R : Room} {k1 k2 pc : Nat} {lv : List (Nat × Value)} {st : List Value} {Ms : List Md} {b L : Nat} {xs : Nat → Int32}
theorem v_sld (C : okx X cc nL own Ts R) (E : lwx X b L xs) {i : Int32} (hin : vp_in i L) (hdg : decode cc pc = .ok (.iaload, 1)) (kk : V X k1 k2 (pc + 1) lv (.int (xs i.toNatClampNeg) :: st) Ms) : V X k1 k2 pc lv (.int i :: .ref b :: st) Ms := fun H locs ls w n a s h => va_sld C.1 C.2.1 E.2.1 E.2.2.1 (lwx_b E) s hin hdg (kk H locs ls w n a s h)
theorem v_slen (C : okx X cc nL own Ts R) (E : lwx X b L xs) (hdg : decode cc pc = .ok (.arraylength, 1)) (kk : V X k1 k2 (pc + 1) lv (.int (nI L) :: st) Ms) : V X k1 k2 pc lv (.ref b :: st) Ms := fun H locs ls w n a s h => va_slen C.1 C.2.1 E.2.1 E.2.2.1 (lwx_b E) s hdg (kk H locs ls w n a s h)
theorem v_tabIn (C : okx X cc nL own Ts R) {dflt lo hi k : Int} {offs : Array Int} {len : Nat} {x : Int32} {off : Int} (tgt : Nat) (hdg : decode cc pc = .ok (.tableswitch dflt lo hi offs, len)) (hx : x.toInt = k) (h1 : ¬ k < lo) (h2 : ¬ hi < k) (ho : offs[(k - lo).toNat]? = some off) (ht : (pc : Int) + off = (tgt : Int)) (kk : V X k1 k2 tgt lv st Ms) : V X k1 k2 pc lv (.int x :: st) Ms := fun H locs ls w n a s h => lv_tableIn C.1 C.2.1 hdg (by rw [hx]; exact h1) (by rw [hx]; exact h2) (by rw [hx]; exact ho) ht (kk H locs ls w n a s h)
theorem v_lawret (C : okx X code 4 own Ts room_1) (E : lwx X b L xs) (hk : k1 ≤ 600000 ∧ k2 ≤ 7302250) (hdg : decode code pc = .ok (.ireturn, 1)) : V X k1 k2 pc lv [.int 1] Ms := by
  intro H locs ls w n a s h
  refine va_forget (fun q hq => ?_) ?_
  · have h1 := s.2.2 q hq
    rw [E.1] at h1
    exact h1
  refine W.widen hk.1 hk.2 ?_
  have hR : XR X = room_1 := C.2.2.2.2.2.1
  unfold WX at *
  rw [E.2.2.2.1, hR, E.2.2.2.2.1]
  exact lw_ret C.1 C.2.1 E.2.2.2.2.2.1 C.2.2.2.2.2.2.1 hdg
end VLAW
theorem pick_mid : ∀ (P A B : List Md), (List.range' P.length A.length).map (fun i => (P ++ (A ++ B))[i]?) = A.map some
  | P, [], B => rfl
  | P, a :: A, B => by
    have h := pick_mid (P ++ [a]) A B
    rw [List.length_append, List.append_assoc] at h
    have h : (List.range' (P.length + 1) A.length).map (fun i => (P ++ (a :: A ++ B))[i]?) = A.map some := h
    have h0 : (P ++ (a :: A ++ B))[P.length]? = some a := by
      rw [List.getElem?_append_right (Nat.le_refl _), Nat.sub_self]
      rfl
    show (P ++ (a :: A ++ B))[P.length]? :: (List.range' (P.length + 1) A.length).map (fun i => (P ++ (a :: A ++ B))[i]?) = some a :: A.map some
    rw [h0, h]
theorem set_mid : ∀ (P : List Md) (a c : Md) (T : List Md), (P ++ a :: T).set P.length c = P ++ c :: T
  | [], _, _, _ => rfl
  | p :: P, a, c, T => by
    show p :: (P ++ a :: T).set P.length c = p :: (P ++ c :: T)
    rw [set_mid P a c T]
theorem rep_mid : ∀ (P A B C : List Md), A.length = C.length → rep (P ++ (A ++ B)) (List.range' P.length A.length) C = P ++ (C ++ B)
  | P, [], B, [], _ => rfl
  | P, [], B, c :: C, h => absurd h (by simp)
  | P, a :: A, B, [], h => absurd h (by simp)
  | P, a :: A, B, c :: C, h => by
    have hl : A.length = C.length := Nat.succ.inj h
    have h2 := rep_mid (P ++ [c]) A B C hl
    rw [List.length_append, List.append_assoc, List.append_assoc] at h2
    have h2 : rep (P ++ c :: (A ++ B)) (List.range' (P.length + 1) A.length) C = P ++ (c :: C ++ B) := h2
    show rep ((P ++ a :: (A ++ B)).set P.length c) (List.range' (P.length + 1) A.length) C = P ++ (c :: C ++ B)
    rw [set_mid, h2]
theorem pick_left (A B : List Md) : (List.range' 0 A.length).map (fun i => (A ++ B)[i]?) = A.map some := pick_mid [] A B
theorem rep_left (A B C : List Md) (h : A.length = C.length) : rep (A ++ B) (List.range' 0 A.length) C = C ++ B := rep_mid [] A B C h
theorem pick_right (P A : List Md) : (List.range' P.length A.length).map (fun i => (P ++ A)[i]?) = A.map some := by
  have h := pick_mid P A []
  rw [List.append_nil] at h
  exact h
theorem rep_right (P A C : List Md) (h : A.length = C.length) : rep (P ++ A) (List.range' P.length A.length) C = P ++ C := by
  have h2 := rep_mid P A [] C h
  rw [List.append_nil, List.append_nil] at h2
  exact h2
/-- the model's world of an object, its scratch hidden -/
def mOk (cI : ClassId) (m : Nat → Nat) (o : Ob) (M : List Md) : Prop := ∃ (sz sl ut ol sp tw tm mm : Int32) (f kp h s q : Nat → Int32) (xs rf sd us os C N hd hn : List Int32), okM o f h s us C ∧ M = mwX cI m o sz sl ut ol sp tw tm mm f kp h s q xs rf sd us os C N hd hn
theorem wl_len {cI cB : ClassId} {a : Nat → Nat} {g HB : Nat → Nat → Nat} {o : Ob} {c : Sc} : (wl cI cB a g HB o c).length = 13 := rfl
theorem mOk_len {cI : ClassId} {m : Nat → Nat} {o : Ob} {M : List Md} (h : mOk cI m o M) : M.length = 17 := by
  obtain ⟨sz, sl, ut, ol, sp, tw, tm, mm, f, kp, h, s, q, xs, rf, sd, us, os, C, N, hd, hn, hok, rfl⟩ := h
  rfl
section VLAW2
variable {X : Cx} {k1 k2 pc : Nat} {lv : List (Nat × Value)} {st : List Value}
theorem v_lawX (K : okx X code 4 RL wsL_law room_1) {y : MethodName} {wsY ws' : List Cond} {rm : Room} {As rest : List Value} {bytes : ByteArray} {maxL index n : Nat} {a : Nat → Nat} {g HB : Nat → Nat → Nat} {o : Ob} {c : Sc} {r : Int32 × Ob} {Mr : List Md}
    (hM : Ct (XI X) (XB X) y wsY rm (.ref (a 0) :: As) (wl (XI X) (XB X) a g HB o c) (po (XI X) (XB X) a g HB r.1 r.2)) (hG : GoodIn wsL_law (wsV RL index RX7 y wsY)) (hw : wsY = Cond.code y bytes maxL (some .int) :: ws') (hn : As.length = n)
    (hd : y.cls = RX7 ∧ y.cls ≠ "java/lang/invoke/MethodHandle" ∧ y.cls ≠ "java/lang/invoke/VarHandle" ∧ (parseMethodDescriptor y.desc).map (fun d => d.parameters.length) = some n) (hrm : rm.cells = 0 ∧ rm.slots = 0) (hR : rm.frames + 1 ≤ room_1.frames ∧ 8 + (maxL + 11) + rm.locals ≤ room_1.locals)
    (hroom : (rest.map fun v => v.category).sum ≤ 8) (hk : k1 ≤ room_1.cells ∧ k2 ≤ room_1.slots) (hst : st = As.reverse ++ .ref (a 0) :: rest) (hdg : decode code pc = .ok (.invokevirtual index, 3))
    (kk : ∀ c' : Sc, V X k1 k2 (pc + 3) lv (.int r.1 :: rest) (wl (XI X) (XB X) a g HB r.2 c' ++ Mr)) : V X k1 k2 pc lv st (wl (XI X) (XB X) a g HB o c ++ Mr) := by
  refine v_callV K (List.range' 0 13) hM (pick_left (wl (XI X) (XB X) a g HB o c) Mr) hG hw hn hd hrm hR 0 (M0 := cM (a 0) _) (N := 12) (T := TX7) rfl hasF_c rfl (by decide) hroom hk hst hdg (fun ov Mc' hpo hm => ?_)
  obtain ⟨rfl, c', rfl⟩ := hpo
  have e : rep (wl (XI X) (XB X) a g HB o c ++ Mr) (List.range' 0 13) (wl (XI X) (XB X) a g HB r.2 c') = wl (XI X) (XB X) a g HB r.2 c' ++ Mr := rep_left (wl (XI X) (XB X) a g HB o c) Mr _ rfl
  rw [e]
  exact kk c'
theorem v_lawM (K : okx X code 4 RL wsL_law room_1) {y : MethodName} {wsY ws' : List Cond} {rm : Room} {As rest : List Value} {bytes : ByteArray} {maxL index n : Nat} {m : Nat → Nat} {r : Int32 × Ob} {P : List Md} {hl it sz sl ut ol tl sp tw tm mm rl : Int32} {M1 : List Md}
    (hM : Ct (XI X) (XB X) y wsY rm (.ref (m 0) :: As) (moM m hl it sz sl ut ol tl sp tw tm mm rl :: M1) (pmV (XI X) m r)) (hP : P.length = 13) (h1 : M1.length = 16) (hG : GoodIn wsL_law (wsV RL index RX8 y wsY)) (hw : wsY = Cond.code y bytes maxL (some .int) :: ws') (hn : As.length = n)
    (hd : y.cls = RX8 ∧ y.cls ≠ "java/lang/invoke/MethodHandle" ∧ y.cls ≠ "java/lang/invoke/VarHandle" ∧ (parseMethodDescriptor y.desc).map (fun d => d.parameters.length) = some n) (hrm : rm.cells = 0 ∧ rm.slots = 0) (hR : rm.frames + 1 ≤ room_1.frames ∧ 8 + (maxL + 11) + rm.locals ≤ room_1.locals)
    (hroom : (rest.map fun v => v.category).sum ≤ 8) (hk : k1 ≤ room_1.cells ∧ k2 ≤ room_1.slots) (hst : st = As.reverse ++ .ref (m 0) :: rest) (hdg : decode code pc = .ok (.invokevirtual index, 3))
    (kk : ∀ M' : List Md, mOk (XI X) m r.2 M' → V X k1 k2 (pc + 3) lv (.int r.1 :: rest) (P ++ M')) : V X k1 k2 pc lv st (P ++ moM m hl it sz sl ut ol tl sp tw tm mm rl :: M1) := by
  have hp := pick_right P (moM m hl it sz sl ut ol tl sp tw tm mm rl :: M1)
  rw [hP, List.length_cons, h1] at hp
  have h13 : (P ++ moM m hl it sz sl ut ol tl sp tw tm mm rl :: M1)[13]? = some (moM m hl it sz sl ut ol tl sp tw tm mm rl) := by
    rw [List.getElem?_append_right (Nat.le_of_eq hP), hP]
    rfl
  refine v_callV K (List.range' 13 17) hM hp hG hw hn hd hrm hR 13 (N := 28) (T := TX8) h13 moF rfl (by decide) hroom hk hst hdg (fun ov Mc' hpo hm => ?_)
  obtain ⟨rfl, hO⟩ := hpo
  have hO : mOk (XI X) m r.2 Mc' := hO
  have e := rep_right P (moM m hl it sz sl ut ol tl sp tw tm mm rl :: M1) Mc' (by rw [List.length_cons, h1, mOk_len hO])
  rw [hP, List.length_cons, h1] at e
  rw [e]
  exact kk Mc' hO
end VLAW2
theorem lw_I {L I : Nat} (hL : L ≤ 2048) (hI : I ≤ 4096) (c : ¬ nI L - 4 < nI I) : I + 4 ≤ L := by
  rcases Nat.lt_or_ge L 4 with h | h
  · refine absurd (Int32.lt_iff_toInt_lt.mpr ?_) c
    rw [nI_toInt (n := I) (by omega)]
    rcases (show L = 0 ∨ L = 1 ∨ L = 2 ∨ L = 3 by omega) with rfl | rfl | rfl | rfl
    · have : (nI 0 - 4).toInt = -4 := by decide
      omega
    · have : (nI 1 - 4).toInt = -3 := by decide
      omega
    · have : (nI 2 - 4).toInt = -2 := by decide
      omega
    · have : (nI 3 - 4).toInt = -1 := by decide
      omega
  · obtain ⟨l, rfl⟩ : ∃ l, L = l + 4 := ⟨L - 4, by omega⟩
    have e : nI (l + 4) - 4 = nI l := by
      rw [← nI_add l 4]
      exact Int32.add_sub_cancel _ _
    rw [e] at c
    rcases Nat.lt_or_ge l I with h2 | h2
    · exact absurd (nI_lt h2 (by omega)) c
    · omega
theorem lw_q {I L k : Nat} (h : I + k < L) (hL : L ≤ 2048) : vp_in (nI I + nI k) L := by
  rw [nI_add]
  exact vp_in_nI h (by omega)
theorem iinc_law {x : Nat} : nI x + Int32.ofInt 4 = nI (x + 4) := nI_add x 4
