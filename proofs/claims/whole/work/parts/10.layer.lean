/-! MODULES: a world as a list of modules; a module is a list of addresses and what the cells there are. Own layer over the kit's rows. -/
abbrev Md : Type := List Nat × (va_W → Prop)
def mAt (D : va_G) (M : Md) (H : Heap) : Prop := ∃ ws : va_W, M.2 ws ∧ ws.map (fun q => q.1) = M.1 ∧ va_P D vwCl ws H
def wd (D : va_G) (Ms : List Md) (H : Heap) : Prop := ∀ M ∈ Ms, mAt D M H
def adr (Ms : List Md) : List Nat := Ms.flatMap (fun M => M.1)
def mA (Ms : List Md) (sz : Nat) : Nat → Prop := fun q => q ∈ adr Ms ∨ sz ≤ q
def cM (a : Nat) (e : va_E) : Md := ([a], fun ws => ws = [(a, e)])
theorem mAt_c {D : va_G} {a : Nat} {e : va_E} {H : Heap} : mAt D (cM a e) H ↔ va_at D vwCl (a, e) H := by
  constructor
  · rintro ⟨ws, h, -, hP⟩
    have h : ws = [(a, e)] := h
    subst h
    exact hP 0 _ rfl
  · intro h
    refine ⟨[(a, e)], rfl, rfl, fun k q hk => ?_⟩
    match k, hk with
    | 0, hk => cases hk; exact h
    | k + 1, hk => simp at hk
theorem mAt.kept {D : va_G} {M : Md} {H H1 : Heap} (h : mAt D M H) (hq : ∀ a ∈ M.1, H1[a]? = H[a]?) : mAt D M H1 := by
  obtain ⟨ws, h1, h2, h3⟩ := h
  refine ⟨ws, h1, h2, h3.kept fun k q hk => hq _ ?_⟩
  rw [← h2]
  exact List.mem_map.mpr ⟨q, List.mem_of_getElem? hk, rfl⟩
theorem mAt.lt {D : va_G} {M : Md} {H : Heap} (h : mAt D M H) {a : Nat} (ha : a ∈ M.1) : a < H.size := by
  obtain ⟨ws, h1, h2, h3⟩ := h
  rw [← h2] at ha
  obtain ⟨q, hq, rfl⟩ := List.mem_map.mp ha
  obtain ⟨k, hk⟩ := List.getElem?_of_mem hq
  exact (h3 k q hk).lt
theorem adr_map {Ms Ms' : List Md} (h : Ms'.map (fun M => M.1) = Ms.map (fun M => M.1)) : adr Ms' = adr Ms := by
  unfold adr
  rw [List.flatMap_def, List.flatMap_def, h]
theorem adr_in {Ms : List Md} {i : Nat} {M : Md} (h : Ms[i]? = some M) {a : Nat} (ha : a ∈ M.1) : a ∈ adr Ms := List.mem_flatMap.mpr ⟨M, List.mem_of_getElem? h, ha⟩
theorem adr_of {Ms : List Md} {a : Nat} (h : a ∈ adr Ms) : ∃ (i : Nat) (M : Md), Ms[i]? = some M ∧ a ∈ M.1 := by
  obtain ⟨M, h1, h2⟩ := List.mem_flatMap.mp h
  obtain ⟨i, h3⟩ := List.getElem?_of_mem h1
  exact ⟨i, M, h3, h2⟩
theorem adr_disj : ∀ {Ms : List Md}, (adr Ms).Nodup → ∀ {i j : Nat} {M N : Md}, Ms[i]? = some M → Ms[j]? = some N → i ≠ j → ∀ {a : Nat}, a ∈ M.1 → a ∉ N.1
  | [], _, i, j, M, N, hi, hj, hne, a, ha => by simp at hi
  | M0 :: Ms, hn, i, j, M, N, hi, hj, hne, a, ha => by
    have hn : (M0.1 ++ adr Ms).Nodup := hn
    have hx := List.pairwise_append.mp hn
    cases i with
    | zero =>
      cases j with
      | zero => exact absurd rfl hne
      | succ j =>
        rw [List.getElem?_cons_zero] at hi
        rw [List.getElem?_cons_succ] at hj
        cases hi
        exact fun h => hx.2.2 a ha a (adr_in hj h) rfl
    | succ i =>
      rw [List.getElem?_cons_succ] at hi
      cases j with
      | zero =>
        rw [List.getElem?_cons_zero] at hj
        cases hj
        exact fun h => hx.2.2 a h a (adr_in hi ha) rfl
      | succ j =>
        rw [List.getElem?_cons_succ] at hj
        exact adr_disj hx.2.1 hi hj (fun h => hne (by rw [h])) ha
theorem adr_nd1 {Ms : List Md} (hn : (adr Ms).Nodup) {i : Nat} {M : Md} (hi : Ms[i]? = some M) : M.1.Nodup := by
  induction Ms generalizing i with
  | nil => simp at hi
  | cons M0 Ms ih =>
    have hx := List.pairwise_append.mp (show (M0.1 ++ adr Ms).Pairwise _ from hn)
    cases i with
    | zero => rw [List.getElem?_cons_zero] at hi; cases hi; exact hx.1
    | succ i => rw [List.getElem?_cons_succ] at hi; exact ih hx.2.1 hi
theorem adr_pick {Ms : List Md} (hn : (adr Ms).Nodup) : ∀ (is : List Nat) (Mc : List Md), is.Nodup → is.map (fun i => Ms[i]?) = Mc.map some → (adr Mc).Nodup
  | [], Mc, _, h => by
    have : Mc = [] := by simpa using h.symm
    subst this
    exact List.Pairwise.nil
  | i :: is, [], _, h => by simp at h
  | i :: is, M :: Mc, hnd, h => by
    simp only [List.map_cons, List.cons.injEq] at h
    have hnd := List.pairwise_cons.mp hnd
    refine List.pairwise_append.mpr ⟨adr_nd1 hn h.1, adr_pick hn is Mc hnd.2 h.2, fun a ha b hb hab => ?_⟩
    subst hab
    obtain ⟨j, N, hj, hN⟩ := adr_of hb
    have h2 : (is.map (fun i => Ms[i]?))[j]? = some (some N) := by rw [h.2, List.getElem?_map, hj]; rfl
    rw [List.getElem?_map] at h2
    cases hi : is[j]? with
    | none => rw [hi] at h2; cases h2
    | some j2 =>
      rw [hi] at h2
      exact adr_disj hn h.1 (Option.some.inj h2) (hnd.1 j2 (List.mem_of_getElem? hi)) ha hN
theorem pick_in {Ms : List Md} {is : List Nat} {Mc : List Md} (h : is.map (fun i => Ms[i]?) = Mc.map some) {N : Md} (hN : N ∈ Mc) : ∃ i ∈ is, Ms[i]? = some N := by
  have : some N ∈ is.map (fun i => Ms[i]?) := by rw [h]; exact List.mem_map.mpr ⟨N, hN, rfl⟩
  obtain ⟨i, h1, h2⟩ := List.mem_map.mp this
  exact ⟨i, h1, h2⟩
/-- modules put anew at places -/
def rep : List Md → List Nat → List Md → List Md
  | Ms, i :: is, M :: Mc => rep (Ms.set i M) is Mc
  | Ms, _, _ => Ms
theorem set_same {α : Type} {l : List α} {i : Nat} {a : α} (h : l[i]? = some a) : l.set i a = l := by
  refine List.ext_getElem? fun j => ?_
  by_cases hj : i = j
  · subst hj
    rw [List.getElem?_set_self (List.getElem?_eq_some_iff.mp h).1, h]
  · rw [List.getElem?_set_ne hj]
theorem set_map {Ms : List Md} {i : Nat} {M : Md} (h : (Ms.map (fun M => M.1))[i]? = some M.1) : (Ms.set i M).map (fun M => M.1) = Ms.map (fun M => M.1) := by
  rw [List.map_set]
  exact set_same h
theorem rep_map : ∀ (is : List Nat) (Ms Mc : List Md), is.map (fun i => (Ms.map (fun M => M.1))[i]?) = Mc.map (fun M => some M.1) → (rep Ms is Mc).map (fun M => M.1) = Ms.map (fun M => M.1)
  | [], Ms, Mc, _ => by cases Mc <;> rfl
  | i :: is, Ms, [], h => rfl
  | i :: is, Ms, M :: Mc, h => by
    simp only [List.map_cons, List.cons.injEq] at h
    have hs := set_map h.1
    show (rep (Ms.set i M) is Mc).map _ = _
    rw [rep_map is (Ms.set i M) Mc (by rw [hs]; exact h.2), hs]
theorem rep_mem : ∀ (is : List Nat) (Ms Mc : List Md) (M : Md), is.length = Mc.length → M ∈ rep Ms is Mc → M ∈ Mc ∨ ∃ i, i ∉ is ∧ Ms[i]? = some M
  | [], Ms, Mc, M, _, h => by
    have h : M ∈ Ms := by cases Mc <;> exact h
    obtain ⟨i, hi⟩ := List.getElem?_of_mem h
    exact Or.inr ⟨i, List.not_mem_nil, hi⟩
  | i :: is, Ms, [], M, hl, h => by simp at hl
  | i :: is, Ms, M0 :: Mc, M, hl, h => by
    rcases rep_mem is (Ms.set i M0) Mc M (by simpa using hl) h with h | ⟨j, h1, h2⟩
    · exact Or.inl (List.mem_cons_of_mem _ h)
    · by_cases hj : j = i
      · subst hj
        have hlt : j < Ms.length := by
          have := (List.getElem?_eq_some_iff.mp h2).1
          simpa using this
        rw [List.getElem?_set_self hlt] at h2
        exact Or.inl (by rw [← Option.some.inj h2]; exact List.mem_cons_self)
      · rw [List.getElem?_set_ne (Ne.symm hj)] at h2
        exact Or.inr ⟨j, fun h => (List.mem_cons.mp h).elim hj h1, h2⟩
theorem wd_set {D : va_G} {Ms : List Md} {H H1 : Heap} {i a : Nat} {M M' : Md} (hw : wd D Ms H) (hn : (adr Ms).Nodup) (hi : Ms[i]? = some M) (h1 : M.1 = [a]) (hM : mAt D M' H1) (hq : ∀ q : Nat, q ≠ a → H1[q]? = H[q]?) : wd D (Ms.set i M') H1 := by
  intro N hN
  rcases rep_mem [i] Ms [M'] N rfl hN with h | ⟨j, h2, h3⟩
  · rw [List.mem_singleton.mp h]; exact hM
  · refine (hw N (List.mem_of_getElem? h3)).kept fun q hq2 => hq q fun e => ?_
    subst e
    exact adr_disj hn h3 hi (fun e => h2 (by rw [e]; exact List.mem_singleton.mpr rfl)) hq2 (by rw [h1]; exact List.mem_singleton.mpr rfl)
def lget (lv : List (Nat × Value)) (i : Nat) : Option Value := (lv.find? (fun q => q.1 == i)).map (fun q => q.2)
def lset (lv : List (Nat × Value)) (i : Nat) (v : Value) : List (Nat × Value) := (i, v) :: lv.filter (fun q => !(q.1 == i) && !(q.1 + 1 == i && q.2.category == 2))
theorem lget_at {ls : Array Slot} {nL : Nat} {lv : List (Nat × Value)} (h : lv_has ls nL lv) {i : Nat} {v : Value} (hl : lget lv i = some v) : ls[i]? = some (.val v) := by
  unfold lget at hl
  cases hf : lv.find? (fun q => q.1 == i) with
  | none => rw [hf] at hl; cases hl
  | some q =>
    rw [hf] at hl
    have h1 := List.mem_of_find?_eq_some hf
    have h2 := List.find?_some hf
    have h3 := h.2.2 q h1
    have h4 : q.1 = i := by simpa using h2
    have h5 : q.2 = v := Option.some.inj hl
    rw [h4, h5] at h3
    exact h3
theorem lget_sub {ls : Array Slot} {nL : Nat} {lv lv' : List (Nat × Value)} (h : lv_has ls nL lv) (hs : lv'.map (fun q => lget lv q.1) = lv'.map (fun q => some q.2)) : lv_has ls nL lv' := by
  refine ⟨h.1, h.2.1, fun q hq => ?_⟩
  refine lget_at h ?_
  obtain ⟨k, hk⟩ := List.getElem?_of_mem hq
  have : (lv'.map (fun q => lget lv q.1))[k]? = (lv'.map (fun q => some q.2))[k]? := by rw [hs]
  rw [List.getElem?_map, List.getElem?_map, hk] at this
  exact Option.some.inj this
/-! the context of a walk, and the judgement over it -/
abbrev Cx : Type := Program × Launch × Env × Room × State × MethodId × Array Value × List Frame × Method × Code × (Nat → Prop) × (State → Prop) × va_G × ClassId × ClassId
def Xs (X : Cx) : State := X.2.2.2.2.1
def XR (X : Cx) : Room := X.2.2.2.1
def XA (X : Cx) : Nat → Prop := X.2.2.2.2.2.2.2.2.2.2.1
def XQ (X : Cx) : State → Prop := X.2.2.2.2.2.2.2.2.2.2.2.1
def XD (X : Cx) : va_G := X.2.2.2.2.2.2.2.2.2.2.2.2.1
def XI (X : Cx) : ClassId := X.2.2.2.2.2.2.2.2.2.2.2.2.2.1
def XB (X : Cx) : ClassId := X.2.2.2.2.2.2.2.2.2.2.2.2.2.2
def Xp (X : Cx) : Program := X.1
def Xl (X : Cx) : Launch := X.2.1
def Xe (X : Cx) : Env := X.2.2.1
def Xm (X : Cx) : MethodId := X.2.2.2.2.2.1
def Xargs (X : Cx) : Array Value := X.2.2.2.2.2.2.1
def Xbelow (X : Cx) : List Frame := X.2.2.2.2.2.2.2.1
def Xmeth (X : Cx) : Method := X.2.2.2.2.2.2.2.2.1
def Xc (X : Cx) : Code := X.2.2.2.2.2.2.2.2.2.1
def Xty (cI cB : ClassId) : List (ClassId × FieldType) := [(cI, .int), (cB, .object "SoundSpeller$Book")]
/-- links between classes of one nest: no word of a method's list, so they stand in the world -/
def nests : List (String × Nat × MethodName × String) := [(RX7, 35, yX5_init, RX7), (RX7, 64, yX6_init, RX7), (RX2, 38, yX7_isSmall, RX7), (RX2, 49, yX7_isCapital, RX7), (RX5, 86, yX7_isVowel, RX7), (RX5, 97, yX7_isCapital, RX7), (RX6, 40, yX5_init, RX7)]
def nst (U : State) : Prop := ∀ q ∈ nests, va_Nw (.methodLinkNest q.1 q.2.1 q.2.2.1 q.2.2.2) U
def okx (X : Cx) (cc : ByteArray) (nL : Nat) (own : String) (Ts : List Cond) (R : Room) : Prop :=
  (Xp X).tables.exec = Jvm.exec ∧ (Xc X).code = cc ∧ (Xc X).maxLocals = nL ∧ (Xs X).vm.findClass own = some (Xm X).cls ∧ (∀ w ∈ Ts, w.before (Xargs X) (Xs X) = true) ∧ XR X = R ∧ (Xmeth X).locks = false ∧ va_K (XD X) vwCl (Xty (XI X) (XB X)) (Xs X) ∧ (∀ q, (Xs X).heap.size ≤ q → XA X q) ∧ nst (Xs X)
abbrev WX (X : Cx) (H : Heap) (locs : List Loc) (k1 k2 : Nat) (g : JFrame) : Prop := W (Xp X) (Xl X) (Xe X) (XR X) (Xs X) (Xm X) (Xargs X) (Xbelow X) (Xmeth X) (Xc X) H locs k1 k2 (XQ X) g
def V (X : Cx) (k1 k2 pc : Nat) (lv : List (Nat × Value)) (st : List Value) (Ms : List Md) : Prop :=
  ∀ (H : Heap) (locs : List Loc) (ls : Array Slot), wd (XD X) Ms H → (adr Ms).Nodup → (∀ q ∈ adr Ms, XA X q) → va_S (XA X) (Xs X).heap H locs → lv_has ls (Xc X).maxLocals lv → WX X H locs k1 k2 (F0 (Xm X) pc ls st)
section VROWS
variable {X : Cx} {cc : ByteArray} {nL : Nat} {own : String} {Ts : List Cond} {R : Room} {k1 k2 pc : Nat} {lv : List (Nat × Value)} {st : List Value} {Ms : List Md}
theorem v_iload_n (C : okx X cc nL own Ts R) {k : Fin 4} {x : Int32} (hdg : decode cc pc = .ok (.iload_n k, 1)) (hl : lget lv k.val = some (.int x)) (kk : V X k1 k2 (pc + 1) lv (.int x :: st) Ms) : V X k1 k2 pc lv st Ms := fun H locs ls w n a s h => lv_iload_n C.1 C.2.1 hdg rfl (lget_at h hl) (kk H locs ls w n a s h)
theorem v_iload (C : okx X cc nL own Ts R) {k : Nat} {x : Int32} (hdg : decode cc pc = .ok (.iload k, 2)) (hl : lget lv k = some (.int x)) (kk : V X k1 k2 (pc + 2) lv (.int x :: st) Ms) : V X k1 k2 pc lv st Ms := fun H locs ls w n a s h => lv_iload C.1 C.2.1 hdg (lget_at h hl) (kk H locs ls w n a s h)
theorem v_lload_n (C : okx X cc nL own Ts R) {k : Fin 4} {x : Int64} (hdg : decode cc pc = .ok (.lload_n k, 1)) (hl : lget lv k.val = some (.long x)) (kk : V X k1 k2 (pc + 1) lv (.long x :: st) Ms) : V X k1 k2 pc lv st Ms := fun H locs ls w n a s h => lv_lload_n C.1 C.2.1 hdg rfl (lget_at h hl) (kk H locs ls w n a s h)
theorem v_lload (C : okx X cc nL own Ts R) {k : Nat} {x : Int64} (hdg : decode cc pc = .ok (.lload k, 2)) (hl : lget lv k = some (.long x)) (kk : V X k1 k2 (pc + 2) lv (.long x :: st) Ms) : V X k1 k2 pc lv st Ms := fun H locs ls w n a s h => lv_lload C.1 C.2.1 hdg (lget_at h hl) (kk H locs ls w n a s h)
theorem v_aload_n (C : okx X cc nL own Ts R) {k : Fin 4} {x : Nat} (hdg : decode cc pc = .ok (.aload_n k, 1)) (hl : lget lv k.val = some (.ref x)) (kk : V X k1 k2 (pc + 1) lv (.ref x :: st) Ms) : V X k1 k2 pc lv st Ms := fun H locs ls w n a s h => lv_aload_n C.1 C.2.1 hdg rfl (lget_at h hl) (kk H locs ls w n a s h)
theorem v_aload (C : okx X cc nL own Ts R) {k : Nat} {x : Nat} (hdg : decode cc pc = .ok (.aload k, 2)) (hl : lget lv k = some (.ref x)) (kk : V X k1 k2 (pc + 2) lv (.ref x :: st) Ms) : V X k1 k2 pc lv st Ms := fun H locs ls w n a s h => lv_aload C.1 C.2.1 hdg (lget_at h hl) (kk H locs ls w n a s h)
theorem v_istore_n (C : okx X cc nL own Ts R) {k : Fin 4} {x : Int32} (hdg : decode cc pc = .ok (.istore_n k, 1)) (hn : k.val < nL) (kk : V X k1 k2 (pc + 1) (lset lv k.val (.int x)) st Ms) : V X k1 k2 pc lv (.int x :: st) Ms := fun H locs ls w n a s h => lv_istore_n C.1 C.2.1 hdg rfl h (by rw [C.2.2.1]; exact hn) rfl (fun ls' h' => kk H locs ls' w n a s h')
theorem v_istore (C : okx X cc nL own Ts R) {k : Nat} {x : Int32} (hdg : decode cc pc = .ok (.istore k, 2)) (hn : k < nL) (kk : V X k1 k2 (pc + 2) (lset lv k (.int x)) st Ms) : V X k1 k2 pc lv (.int x :: st) Ms := fun H locs ls w n a s h => lv_istore C.1 C.2.1 hdg h (by rw [C.2.2.1]; exact hn) rfl (fun ls' h' => kk H locs ls' w n a s h')
theorem v_astore_n (C : okx X cc nL own Ts R) {k : Fin 4} {x : Nat} (hdg : decode cc pc = .ok (.astore_n k, 1)) (hn : k.val < nL) (kk : V X k1 k2 (pc + 1) (lset lv k.val (.ref x)) st Ms) : V X k1 k2 pc lv (.ref x :: st) Ms := fun H locs ls w n a s h => lv_astore_n C.1 C.2.1 hdg rfl h (by rw [C.2.2.1]; exact hn) rfl (fun ls' h' => kk H locs ls' w n a s h')
theorem v_iinc (C : okx X cc nL own Ts R) {i : Nat} {n : Int} {x v : Int32} (hdg : decode cc pc = .ok (.iinc i n, 3)) (hl : lget lv i = some (.int x)) (hn : i < nL) (hv : x + Int32.ofInt n = v) (kk : V X k1 k2 (pc + 3) (lset lv i (.int v)) st Ms) : V X k1 k2 pc lv st Ms := by
  intro H locs ls w nd a s h
  unfold lget at hl
  cases hf : lv.find? (fun q => q.1 == i) with
  | none => rw [hf] at hl; cases hl
  | some q =>
    rw [hf] at hl
    obtain ⟨k, hk⟩ := List.getElem?_of_mem (List.mem_of_find?_eq_some hf)
    have h4 : q.1 = i := by simpa using List.find?_some hf
    have h5 : q.2 = .int x := Option.some.inj hl
    exact lv_iinc (k := k) C.1 C.2.1 hdg h (by rw [hk, ← h4, ← h5]) hv (by rw [C.2.2.1]; exact hn) rfl (fun ls' h' => kk H locs ls' w nd a s h')
theorem v_iconst (C : okx X cc nL own Ts R) {n : Int} (v : Int32) (hdg : decode cc pc = .ok (.iconst n, 1)) (hv : Int32.ofInt n = v) (kk : V X k1 k2 (pc + 1) lv (.int v :: st) Ms) : V X k1 k2 pc lv st Ms := fun H locs ls w n a s h => lv_iconst C.1 C.2.1 hdg hv (kk H locs ls w n a s h)
theorem v_bipush (C : okx X cc nL own Ts R) {n : Int} (v : Int32) (hdg : decode cc pc = .ok (.bipush n, 2)) (hv : (Int8.ofInt n).toInt32 = v) (kk : V X k1 k2 (pc + 2) lv (.int v :: st) Ms) : V X k1 k2 pc lv st Ms := fun H locs ls w n a s h => lv_bipush C.1 C.2.1 hdg hv (kk H locs ls w n a s h)
theorem v_sipush (C : okx X cc nL own Ts R) {n : Int} (v : Int32) (hdg : decode cc pc = .ok (.sipush n, 3)) (hv : (Int16.ofInt n).toInt32 = v) (kk : V X k1 k2 (pc + 3) lv (.int v :: st) Ms) : V X k1 k2 pc lv st Ms := fun H locs ls w n a s h => lv_sipush C.1 C.2.1 hdg hv (kk H locs ls w n a s h)
theorem v_lconst (C : okx X cc nL own Ts R) {n : Fin 2} (v : Int64) (hdg : decode cc pc = .ok (.lconst n, 1)) (hv : Int64.ofNat (n : Nat) = v) (kk : V X k1 k2 (pc + 1) lv (.long v :: st) Ms) : V X k1 k2 pc lv st Ms := fun H locs ls w n a s h => lv_lconst C.1 C.2.1 hdg hv (kk H locs ls w n a s h)
theorem v_ldc2 (C : okx X cc nL own Ts R) {index : Nat} (v : Int64) (hw : Jvm.Cond.constantLong own index v ∈ Ts) (hdg : decode cc pc = .ok (.ldc2_w index, 3)) (kk : V X k1 k2 (pc + 3) lv (.long v :: st) Ms) : V X k1 k2 pc lv st Ms := fun H locs ls w n a s h => lv_ldc2 C.1 C.2.1 C.2.2.2.1 (C.2.2.2.2.1 _ hw) hdg (kk H locs ls w n a s h)
theorem v_iadd (C : okx X cc nL own Ts R) {x y : Int32} (hdg : decode cc pc = .ok (.iadd, 1)) (kk : V X k1 k2 (pc + 1) lv (.int (x + y) :: st) Ms) : V X k1 k2 pc lv (.int y :: .int x :: st) Ms := fun H locs ls w n a s h => lv_iadd C.1 C.2.1 hdg (kk H locs ls w n a s h)
theorem v_isub (C : okx X cc nL own Ts R) {x y : Int32} (hdg : decode cc pc = .ok (.isub, 1)) (kk : V X k1 k2 (pc + 1) lv (.int (x - y) :: st) Ms) : V X k1 k2 pc lv (.int y :: .int x :: st) Ms := fun H locs ls w n a s h => lv_isub C.1 C.2.1 hdg (kk H locs ls w n a s h)
theorem v_imul (C : okx X cc nL own Ts R) {x y : Int32} (hdg : decode cc pc = .ok (.imul, 1)) (kk : V X k1 k2 (pc + 1) lv (.int (x * y) :: st) Ms) : V X k1 k2 pc lv (.int y :: .int x :: st) Ms := fun H locs ls w n a s h => lv_imul C.1 C.2.1 hdg (kk H locs ls w n a s h)
theorem v_iand (C : okx X cc nL own Ts R) {x y : Int32} (hdg : decode cc pc = .ok (.iand, 1)) (kk : V X k1 k2 (pc + 1) lv (.int (x &&& y) :: st) Ms) : V X k1 k2 pc lv (.int y :: .int x :: st) Ms := fun H locs ls w n a s h => lv_iand C.1 C.2.1 hdg (kk H locs ls w n a s h)
theorem v_lsub (C : okx X cc nL own Ts R) {x y : Int64} (hdg : decode cc pc = .ok (.lsub, 1)) (kk : V X k1 k2 (pc + 1) lv (.long (x - y) :: st) Ms) : V X k1 k2 pc lv (.long y :: .long x :: st) Ms := fun H locs ls w n a s h => lv_lsub C.1 C.2.1 hdg (kk H locs ls w n a s h)
theorem v_i2l (C : okx X cc nL own Ts R) {x : Int32} (hdg : decode cc pc = .ok (.i2l, 1)) (kk : V X k1 k2 (pc + 1) lv (.long x.toInt64 :: st) Ms) : V X k1 k2 pc lv (.int x :: st) Ms := fun H locs ls w n a s h => lv_i2l C.1 C.2.1 hdg rfl (kk H locs ls w n a s h)
theorem v_i2c (C : okx X cc nL own Ts R) {x : Int32} (hdg : decode cc pc = .ok (.i2c, 1)) (kk : V X k1 k2 (pc + 1) lv (.int (x.toUInt32 % 65536).toInt32 :: st) Ms) : V X k1 k2 pc lv (.int x :: st) Ms := fun H locs ls w n a s h => lv_i2c C.1 C.2.1 hdg rfl (kk H locs ls w n a s h)
theorem v_dup (C : okx X cc nL own Ts R) {v : Value} (hdg : decode cc pc = .ok (.dup, 1)) (hv : v.category = 1) (kk : V X k1 k2 (pc + 1) lv (v :: v :: st) Ms) : V X k1 k2 pc lv (v :: st) Ms := fun H locs ls w n a s h => lv_dup C.1 C.2.1 hdg hv (kk H locs ls w n a s h)
theorem v_dup2 (C : okx X cc nL own Ts R) {v u : Value} (hdg : decode cc pc = .ok (.dup2, 1)) (hv : v.category = 1) (hu : u.category = 1) (kk : V X k1 k2 (pc + 1) lv (v :: u :: v :: u :: st) Ms) : V X k1 k2 pc lv (v :: u :: st) Ms := fun H locs ls w n a s h => lv_dup2_11 C.1 C.2.1 hdg hv hu (kk H locs ls w n a s h)
theorem v_pop (C : okx X cc nL own Ts R) {v : Value} (hdg : decode cc pc = .ok (.pop, 1)) (hv : v.category = 1) (kk : V X k1 k2 (pc + 1) lv st Ms) : V X k1 k2 pc lv (v :: st) Ms := fun H locs ls w n a s h => lv_pop C.1 C.2.1 hdg hv (kk H locs ls w n a s h)
theorem v_goto (C : okx X cc nL own Ts R) {off : Int} (tgt : Nat) (hdg : decode cc pc = .ok (.goto off, 3)) (ht : (pc : Int) + off = (tgt : Int)) (kk : V X k1 k2 tgt lv st Ms) : V X k1 k2 pc lv st Ms := fun H locs ls w n a s h => lv_goto C.1 C.2.1 hdg ht (kk H locs ls w n a s h)
theorem v_if_eq (C : okx X cc nL own Ts R) {x : Int32} {off : Int} (tgt : Nat) (hdg : decode cc pc = .ok (.ifCond .eq off, 3)) (ht : (pc : Int) + off = (tgt : Int)) (kt : x = 0 → V X k1 k2 tgt lv st Ms) (kf : ¬ x = 0 → V X k1 k2 (pc + 3) lv st Ms) : V X k1 k2 pc lv (.int x :: st) Ms := fun H locs ls w n a s h => lv_if_eq C.1 C.2.1 hdg ht (fun c => kt c H locs ls w n a s h) (fun c => kf c H locs ls w n a s h)
theorem v_ic_eq (C : okx X cc nL own Ts R) {x y : Int32} {off : Int} (tgt : Nat) (hdg : decode cc pc = .ok (.if_icmp .eq off, 3)) (ht : (pc : Int) + off = (tgt : Int)) (kt : x = y → V X k1 k2 tgt lv st Ms) (kf : ¬ x = y → V X k1 k2 (pc + 3) lv st Ms) : V X k1 k2 pc lv (.int y :: .int x :: st) Ms := fun H locs ls w n a s h => lv_icmp_eq C.1 C.2.1 hdg ht (fun c => kt c H locs ls w n a s h) (fun c => kf c H locs ls w n a s h)
theorem v_if_ne (C : okx X cc nL own Ts R) {x : Int32} {off : Int} (tgt : Nat) (hdg : decode cc pc = .ok (.ifCond .ne off, 3)) (ht : (pc : Int) + off = (tgt : Int)) (kt : ¬ x = 0 → V X k1 k2 tgt lv st Ms) (kf : x = 0 → V X k1 k2 (pc + 3) lv st Ms) : V X k1 k2 pc lv (.int x :: st) Ms := fun H locs ls w n a s h => lv_if_ne C.1 C.2.1 hdg ht (fun c => kt c H locs ls w n a s h) (fun c => kf c H locs ls w n a s h)
theorem v_ic_ne (C : okx X cc nL own Ts R) {x y : Int32} {off : Int} (tgt : Nat) (hdg : decode cc pc = .ok (.if_icmp .ne off, 3)) (ht : (pc : Int) + off = (tgt : Int)) (kt : ¬ x = y → V X k1 k2 tgt lv st Ms) (kf : x = y → V X k1 k2 (pc + 3) lv st Ms) : V X k1 k2 pc lv (.int y :: .int x :: st) Ms := fun H locs ls w n a s h => lv_icmp_ne C.1 C.2.1 hdg ht (fun c => kt c H locs ls w n a s h) (fun c => kf c H locs ls w n a s h)
theorem v_if_lt (C : okx X cc nL own Ts R) {x : Int32} {off : Int} (tgt : Nat) (hdg : decode cc pc = .ok (.ifCond .lt off, 3)) (ht : (pc : Int) + off = (tgt : Int)) (kt : x < 0 → V X k1 k2 tgt lv st Ms) (kf : ¬ x < 0 → V X k1 k2 (pc + 3) lv st Ms) : V X k1 k2 pc lv (.int x :: st) Ms := fun H locs ls w n a s h => lv_if_lt C.1 C.2.1 hdg ht (fun c => kt c H locs ls w n a s h) (fun c => kf c H locs ls w n a s h)
theorem v_ic_lt (C : okx X cc nL own Ts R) {x y : Int32} {off : Int} (tgt : Nat) (hdg : decode cc pc = .ok (.if_icmp .lt off, 3)) (ht : (pc : Int) + off = (tgt : Int)) (kt : x < y → V X k1 k2 tgt lv st Ms) (kf : ¬ x < y → V X k1 k2 (pc + 3) lv st Ms) : V X k1 k2 pc lv (.int y :: .int x :: st) Ms := fun H locs ls w n a s h => lv_icmp_lt C.1 C.2.1 hdg ht (fun c => kt c H locs ls w n a s h) (fun c => kf c H locs ls w n a s h)
theorem v_if_ge (C : okx X cc nL own Ts R) {x : Int32} {off : Int} (tgt : Nat) (hdg : decode cc pc = .ok (.ifCond .ge off, 3)) (ht : (pc : Int) + off = (tgt : Int)) (kt : 0 ≤ x → V X k1 k2 tgt lv st Ms) (kf : ¬ 0 ≤ x → V X k1 k2 (pc + 3) lv st Ms) : V X k1 k2 pc lv (.int x :: st) Ms := fun H locs ls w n a s h => lv_if_ge C.1 C.2.1 hdg ht (fun c => kt c H locs ls w n a s h) (fun c => kf c H locs ls w n a s h)
theorem v_ic_ge (C : okx X cc nL own Ts R) {x y : Int32} {off : Int} (tgt : Nat) (hdg : decode cc pc = .ok (.if_icmp .ge off, 3)) (ht : (pc : Int) + off = (tgt : Int)) (kt : y ≤ x → V X k1 k2 tgt lv st Ms) (kf : ¬ y ≤ x → V X k1 k2 (pc + 3) lv st Ms) : V X k1 k2 pc lv (.int y :: .int x :: st) Ms := fun H locs ls w n a s h => lv_icmp_ge C.1 C.2.1 hdg ht (fun c => kt c H locs ls w n a s h) (fun c => kf c H locs ls w n a s h)
theorem v_if_gt (C : okx X cc nL own Ts R) {x : Int32} {off : Int} (tgt : Nat) (hdg : decode cc pc = .ok (.ifCond .gt off, 3)) (ht : (pc : Int) + off = (tgt : Int)) (kt : 0 < x → V X k1 k2 tgt lv st Ms) (kf : ¬ 0 < x → V X k1 k2 (pc + 3) lv st Ms) : V X k1 k2 pc lv (.int x :: st) Ms := fun H locs ls w n a s h => lv_if_gt C.1 C.2.1 hdg ht (fun c => kt c H locs ls w n a s h) (fun c => kf c H locs ls w n a s h)
theorem v_ic_gt (C : okx X cc nL own Ts R) {x y : Int32} {off : Int} (tgt : Nat) (hdg : decode cc pc = .ok (.if_icmp .gt off, 3)) (ht : (pc : Int) + off = (tgt : Int)) (kt : y < x → V X k1 k2 tgt lv st Ms) (kf : ¬ y < x → V X k1 k2 (pc + 3) lv st Ms) : V X k1 k2 pc lv (.int y :: .int x :: st) Ms := fun H locs ls w n a s h => lv_icmp_gt C.1 C.2.1 hdg ht (fun c => kt c H locs ls w n a s h) (fun c => kf c H locs ls w n a s h)
theorem v_if_le (C : okx X cc nL own Ts R) {x : Int32} {off : Int} (tgt : Nat) (hdg : decode cc pc = .ok (.ifCond .le off, 3)) (ht : (pc : Int) + off = (tgt : Int)) (kt : x ≤ 0 → V X k1 k2 tgt lv st Ms) (kf : ¬ x ≤ 0 → V X k1 k2 (pc + 3) lv st Ms) : V X k1 k2 pc lv (.int x :: st) Ms := fun H locs ls w n a s h => lv_if_le C.1 C.2.1 hdg ht (fun c => kt c H locs ls w n a s h) (fun c => kf c H locs ls w n a s h)
theorem v_ic_le (C : okx X cc nL own Ts R) {x y : Int32} {off : Int} (tgt : Nat) (hdg : decode cc pc = .ok (.if_icmp .le off, 3)) (ht : (pc : Int) + off = (tgt : Int)) (kt : x ≤ y → V X k1 k2 tgt lv st Ms) (kf : ¬ x ≤ y → V X k1 k2 (pc + 3) lv st Ms) : V X k1 k2 pc lv (.int y :: .int x :: st) Ms := fun H locs ls w n a s h => lv_icmp_le C.1 C.2.1 hdg ht (fun c => kt c H locs ls w n a s h) (fun c => kf c H locs ls w n a s h)
theorem v_lcmp (C : okx X cc nL own Ts R) {x y : Int64} (hdg : decode cc pc = .ok (.lcmp, 1)) (kk : V X k1 k2 (pc + 1) lv (.int (lg_cmp x y) :: st) Ms) : V X k1 k2 pc lv (.long y :: .long x :: st) Ms := fun H locs ls w n a s h => W.lcmp C.1 C.2.1 hdg (kk H locs ls w n a s h)
/-- the locals told anew: fewer, in another order -/
theorem v_lv {lv' : List (Nat × Value)} (hs : lv'.map (fun q => lget lv q.1) = lv'.map (fun q => some q.2)) (kk : V X k1 k2 pc lv' st Ms) : V X k1 k2 pc lv st Ms := fun H locs ls w n a s h => kk H locs ls w n a s (lget_sub h hs)
theorem v_eq {lv' : List (Nat × Value)} {st' : List Value} {Ms' : List Md} (hs : lv'.map (fun q => lget lv q.1) = lv'.map (fun q => some q.2)) (h2 : st = st') (h3 : Ms = Ms') (kk : V X k1 k2 pc lv' st' Ms') : V X k1 k2 pc lv st Ms := by
  subst h2; subst h3
  exact v_lv hs kk
theorem v_to {Ms' : List Md} (hw : ∀ H, wd (XD X) Ms H → wd (XD X) Ms' H) (ha : adr Ms' = adr Ms) (kk : V X k1 k2 pc lv st Ms') : V X k1 k2 pc lv st Ms := fun H locs ls w n a s h => kk H locs ls (hw H w) (by rw [ha]; exact n) (by rw [ha]; exact a) s h
theorem v_ex {α : Type} {F : α → List Md} {φ : α → Prop} (hw : ∀ H, wd (XD X) Ms H → ∃ x, φ x ∧ wd (XD X) (F x) H) (ha : ∀ x, adr (F x) = adr Ms) (kk : ∀ x, φ x → V X k1 k2 pc lv st (F x)) : V X k1 k2 pc lv st Ms := fun H locs ls w n a s h => by
  obtain ⟨x, h1, h2⟩ := hw H w
  exact kk x h1 H locs ls h2 (by rw [ha]; exact n) (by rw [ha]; exact a) s h
/-- an object whose fields are known stands in a module -/
def hasF (M : Md) (a ci : Nat) (fs : List Value) : Prop := ∀ ws : va_W, M.2 ws → ∃ k : Nat, ws[k]? = some (a, .inr (ci, fs))
theorem hasF_c {a ci : Nat} {fs : List Value} : hasF (cM a (.inr (ci, fs))) a ci fs := fun ws h => ⟨0, by rw [show ws = [(a, .inr (ci, fs))] from h]; rfl⟩
theorem v_get (C : okx X cc nL own Ts R) {a ci index : Nat} {fs : List Value} {Cn : String} {T : u_T} {N : Nat} {nm ds : String} (i : Nat) {M : Md} (hi : Ms[i]? = some M) (hF : hasF M a ci fs) (hc : vwCl[ci]? = some (Cn, T, N)) (hin : ∀ w ∈ u_ws Cn T N, w ∈ Ts) (k : Nat) (hk : k < N) (hT : T k = (Cn, nm, ds, (T k).2.2.2)) (hlink : Cond.fieldLink own index Cn nm ds ∈ Ts) {v : Value} (hv : fs[k]? = some v) (hdg : decode cc pc = .ok (.getfield index, 3))
    (kk : V X k1 k2 (pc + 3) lv (v :: st) Ms) : V X k1 k2 pc lv (.ref a :: st) Ms := by
  intro H locs ls w n a' s h
  obtain ⟨ws, h1, h2, hP⟩ := w M (List.mem_of_getElem? hi)
  obtain ⟨k0, hk0⟩ := hF ws h1
  have e1 : (T k).1 = Cn := by rw [hT]
  have e2 : (T k).2.1 = nm := by rw [hT]
  have e3 : (T k).2.2.1 = ds := by rw [hT]
  exact va_get (ref := Cn) C.1 C.2.1 C.2.2.2.2.1 hin C.2.2.2.1 C.2.2.2.2.2.2.2.1 hP k0 hk0 hc k hk (by rw [e2, e3]; exact C.2.2.2.2.1 _ hlink) (fun x hx => by rw [e1] at hx; exact hx) hv hdg (kk H locs ls w n a' s h)
theorem v_put (C : okx X cc nL own Ts R) {a ci index : Nat} {fs : List Value} {Cn : String} {T : u_T} {N : Nat} {nm ds : String} (i : Nat) (hi : Ms[i]? = some (cM a (.inr (ci, fs)))) (hc : vwCl[ci]? = some (Cn, T, N)) (hin : ∀ w ∈ u_ws Cn T N, w ∈ Ts) (ty0 : Nat → FieldType) (hty : ∀ k, k < N → parseFieldDescriptor (T k).2.2.1 = some (ty0 k)) (hnm : ∀ a, a < N → ∀ b, b < N → a ≠ b → (T a).2.1 ≠ (T b).2.1) (k : Nat) (hk : k < N) (hT : T k = (Cn, nm, ds, false)) (hlink : Cond.fieldLink own index Cn nm ds ∈ Ts) {v : Value} (hn : narrow (ty0 k) v = v) (hfit : fits (ty0 k) v = true) (hl : k < fs.length) (hdg : decode cc pc = .ok (.putfield index, 3))
    (kk : V X k1 k2 (pc + 3) lv st (Ms.set i (cM a (.inr (ci, fs.set k v))))) : V X k1 k2 pc lv (v :: .ref a :: st) Ms := by
  intro H locs ls w n a' s h
  obtain ⟨hexec, hb, hml, hown, hts, hR, hlk, hK, hA⟩ := C
  have e1 : (T k).1 = Cn := by rw [hT]
  have e2 : (T k).2.1 = nm := by rw [hT]
  have e3 : (T k).2.2.1 = ds := by rw [hT]
  have hap := va_apart (own := own) hts hin ty0 hty hnm hK hc
  obtain ⟨r, h1, cell, q1, q2, q3, q4⟩ := mAt_c.mp (w _ (List.mem_of_getElem? hi))
  have hr : r = (Cn, T, N) := Option.some.inj (h1.symm.trans hc)
  subst hr
  obtain ⟨hS, hfc, kC, hkC, hkind⟩ := hK.1 ci _ hc
  obtain ⟨cf, kf, fi, f, hf, hsl⟩ := hS k hk
  have hlay := hts _ (hin _ (u_in_lay hk))
  unfold u_lay at hlay
  rw [if_neg (by rw [hT]; exact fun h => by cases h)] at hlay
  have hst := (u_facts hfc hkC (u_lays hts hin hk) hf).1
  have h6 := u_store hfc hkC hkind hlay hf (hty k hk) hn hfit
  have hlink2 : (Cond.fieldLink own index Cn (T k).2.1 (T k).2.2.1).before (Xargs X) (Xs X) = true := by rw [e2, e3]; exact hts _ hlink
  have hff : (Xs X).fieldFound? Cn (T k).2.1 (T k).2.2.1 = some (cf, kf, fi, f) := by
    have hf2 : (Xs X).fieldFound? (T k).1 (T k).2.1 (T k).2.2.1 = some (cf, kf, fi, f) := hf
    rw [e1] at hf2
    exact hf2
  have ha : a ∈ adr Ms := adr_in hi (List.mem_singleton.mpr rfl)
  refine W.putK hexec hb (f := f) ⟨hown, hlink2, ⟨_, _, _, hff⟩, hst⟩ (by rw [q2]; exact h6) q1 q3 (by rw [hsl]; exact k2_hasslot (q4 k hk)) rfl rfl hdg fun H' g1 g2 g3 => ?_
  rw [hsl] at g1 ⊢
  have hmap : (Ms.set i (cM a (.inr (ci, fs.set k v)))).map (fun M => M.1) = Ms.map (fun M => M.1) := set_map (by rw [List.getElem?_map, hi]; rfl)
  exact kk H' _ ls (wd_set w n hi rfl (mAt_c.mpr ⟨_, hc, t_OB.to (V := updV (vp_V fs) k v) ⟨_, g1, q2, q3, t_set q4 hap hk v⟩ (fun j _ => vp_updV_set hl v j)⟩) g3) (by rw [adr_map hmap]; exact n) (by rw [adr_map hmap]; exact a') (s.put g2 g3 (a' a ha)) h
theorem v_iald (C : okx X cc nL own Ts R) {a n : Nat} {f : Nat → Int32} (i : Nat) (hi : Ms[i]? = some (cM a (.inl (XI X, n, .inl f)))) {x : Int32} (hx : vp_in x n) (hdg : decode cc pc = .ok (.iaload, 1))
    (kk : V X k1 k2 (pc + 1) lv (.int (f x.toNatClampNeg) :: st) Ms) : V X k1 k2 pc lv (.int x :: .ref a :: st) Ms := by
  intro H locs ls w nd a' s h
  obtain ⟨ws, h1, h2, hP⟩ := w _ (List.mem_of_getElem? hi)
  have h1 : ws = [(a, .inl (XI X, n, .inl f))] := h1
  subst h1
  exact va_iald C.1 C.2.1 C.2.2.2.2.2.2.2.1 hP 0 0 rfl rfl hx hdg (kk H locs ls w nd a' s h)
theorem v_alen (C : okx X cc nL own Ts R) {a n : Nat} {f : Nat → Int32} (i : Nat) (hi : Ms[i]? = some (cM a (.inl (XI X, n, .inl f)))) (hdg : decode cc pc = .ok (.arraylength, 1))
    (kk : V X k1 k2 (pc + 1) lv (.int (nI n) :: st) Ms) : V X k1 k2 pc lv (.ref a :: st) Ms := by
  intro H locs ls w nd a' s h
  obtain ⟨ws, h1, h2, hP⟩ := w _ (List.mem_of_getElem? hi)
  have h1 : ws = [(a, .inl (XI X, n, .inl f))] := h1
  subst h1
  exact va_alen (ty := .int) C.1 C.2.1 C.2.2.2.2.2.2.2.1 hP 0 0 rfl rfl rfl hdg (kk H locs ls w nd a' s h)
theorem v_iast (C : okx X cc nL own Ts R) {a n : Nat} {f : Nat → Int32} (i : Nat) (hi : Ms[i]? = some (cM a (.inl (XI X, n, .inl f)))) {x y : Int32} (hx : vp_in x n) (hdg : decode cc pc = .ok (.iastore, 1))
    (kk : V X k1 k2 (pc + 1) lv st (Ms.set i (cM a (.inl (XI X, n, .inl (upd f x.toNatClampNeg y)))))) : V X k1 k2 pc lv (.int y :: .int x :: .ref a :: st) Ms := by
  intro H locs ls w nd a' s h
  have ha : a ∈ adr Ms := adr_in hi (List.mem_singleton.mpr rfl)
  have hcell : H[a]? = some (vp_cell (XI X) (n, .inl f)) := mAt_c.mp (w _ (List.mem_of_getElem? hi))
  have hK := C.2.2.2.2.2.2.2.1
  refine W.iast C.1 C.2.1 hcell ((hK.2 0 _ rfl).1 n (fun j => .int (f j))) (fun q => by cases q) (by show ¬ (x < 0 ∨ (arrV _ _ _).slots.size ≤ _); rw [arrV_size]; exact hx) rfl rfl hdg fun H1 g1 g2 g3 => ?_
  have hmap : (Ms.set i (cM a (.inl (XI X, n, .inl (upd f x.toNatClampNeg y))))).map (fun M => M.1) = Ms.map (fun M => M.1) := set_map (by rw [List.getElem?_map, hi]; rfl)
  refine kk H1 _ ls (wd_set w nd hi rfl (mAt_c.mpr ?_) g3) (by rw [adr_map hmap]; exact nd) (by rw [adr_map hmap]; exact a') (s.put g2 g3 (a' a ha)) h
  show H1[a]? = some (vp_cell _ _)
  rw [g1]
  rw [vp_cell_i, vp_cell_i, arrV_store]
  congr 2
  funext q
  by_cases hq : q = x.toNatClampNeg
  · subst hq
    simp [updV, upd]
  · simp [updV, upd, hq]
end VROWS
/-! contracts over modules -/
def pre (D : va_G) (cI cB : ClassId) (Ms : List Md) (sz : Nat) : State → Prop := fun U => U.heap.size = sz ∧ wd D Ms U.heap ∧ va_K D vwCl (Xty cI cB) U ∧ (adr Ms).Nodup ∧ nst U
def Qm (D : va_G) (Ms : List Md) (sz : Nat) (post : Option Value → List Md → Prop) : Array Value → State → Outcome → State → Prop := fun _ st oc t => (∃ (ov : Option Value) (Ms' : List Md), oc = .returned ov ∧ post ov Ms' ∧ Ms'.map (fun M => M.1) = Ms.map (fun M => M.1) ∧ wd D Ms' t.heap) ∧ va_F (mA Ms sz) st t
def Ct (cI cB : ClassId) (y : MethodName) (ws : List Cond) (rm : Room) (av : List Value) (Ms : List Md) (post : Option Value → List Md → Prop) : Prop := ∀ (l : Launch) (D : va_G) (sz : Nat), Met l y ws rm (va_Pc av (pre D cI cB Ms sz)) (Qm D Ms sz post) 0 0 (mA Ms sz)
def fin (X : Cx) (Mc : List Md) (post : Option Value → List Md → Prop) (ret : Option FieldType) : Prop := XQ X = MQ (Xbelow X) (Qm (XD X) Mc (Xs X).heap.size post) (Xargs X) (Xs X) 0 0 (mA Mc (Xs X).heap.size) ∧ XA X = mA Mc (Xs X).heap.size ∧ (Xmeth X).sig.returnType = ret
section VEND
variable {X : Cx} {cc : ByteArray} {nL : Nat} {own : String} {Ts : List Cond} {R : Room} {k1 k2 pc : Nat} {lv : List (Nat × Value)} {st : List Value} {Ms Mc : List Md} {post : Option Value → List Md → Prop}
theorem v_iret (C : okx X cc nL own Ts R) (E : fin X Mc post (some .int)) {v : Int32} (hdg : decode cc pc = .ok (.ireturn, 1)) (hp : post (some (.int v)) Ms) (ha : Ms.map (fun M => M.1) = Mc.map (fun M => M.1)) : V X 0 0 pc lv [.int v] Ms := by
  intro H locs ls w nd a' s h
  unfold WX
  rw [E.1]
  have s2 := s
  rw [E.2.1] at s2
  exact W.iret C.1 C.2.1 E.2.2 (fun t ht hW => ⟨⟨_, Ms, rfl, hp, ha, by rw [ht]; exact w⟩, s2.F ht⟩) s2.2.2 hdg C.2.2.2.2.2.2.1
theorem v_zret (C : okx X cc nL own Ts R) (E : fin X Mc post (some .boolean)) {v : Int32} (hdg : decode cc pc = .ok (.ireturn, 1)) (hv : v = 0 ∨ v = 1) (hp : post (some (.int v)) Ms) (ha : Ms.map (fun M => M.1) = Mc.map (fun M => M.1)) : V X 0 0 pc lv [.int v] Ms := by
  intro H locs ls w nd a' s h
  unfold WX
  rw [E.1]
  have s2 := s
  rw [E.2.1] at s2
  exact W.zret C.1 C.2.1 E.2.2 (by rcases hv with rfl | rfl <;> decide) (fun t ht hW => ⟨⟨_, Ms, rfl, hp, ha, by rw [ht]; exact w⟩, s2.F ht⟩) s2.2.2 hdg C.2.2.2.2.2.2.1
theorem v_ret (C : okx X cc nL own Ts R) (E : fin X Mc post none) (hdg : decode cc pc = .ok (.return_, 1)) (hp : post none Ms) (ha : Ms.map (fun M => M.1) = Mc.map (fun M => M.1)) : V X 0 0 pc lv [] Ms := by
  intro H locs ls w nd a' s h
  unfold WX
  rw [E.1]
  have s2 := s
  rw [E.2.1] at s2
  exact W.vret C.1 C.2.1 E.2.2 (fun t ht hW => ⟨⟨_, Ms, rfl, hp, ha, by rw [ht]; exact w⟩, s2.F ht⟩) s2.2.2 hdg C.2.2.2.2.2.2.1
end VEND
theorem ct_of {cI cB : ClassId} {y : MethodName} {ws ws' : List Cond} {rm : Room} {av : List Value} {Mc : List Md} {post : Option Value → List Md → Prop} {cc : ByteArray} {maxL : Nat} {ret : Option FieldType} (hy : plainName y.cls = true) (hw : ws = Cond.code y cc maxL ret :: ws') (hl : (lg_sl av).length ≤ maxL) (lv0 : List (Nat × Value)) (hl0 : lv_args 0 av = lv0)
    (body : ∀ X : Cx, XI X = cI → XB X = cB → okx X cc maxL y.cls ws rm → fin X Mc post ret → V X 0 0 0 lv0 [] Mc) : Ct cI cB y ws rm av Mc post := by
  intro l D sz
  refine Met.ofW (cc := cc) (maxL := maxL) (ret := ret) hy hw ?_
  intro p e s m args below meth c s₁ B hml hv
  obtain ⟨rfl, hsz, hwd, hK, hnd, hns⟩ := hv
  subst hsz
  have b := body (p, l, e, (headSpec ws rm).room, s, m, av.toArray, below, meth, c, mA Mc s.heap.size, MQ below (Qm D Mc s.heap.size post) av.toArray s 0 0 (mA Mc s.heap.size), D, cI, cB) rfl rfl
    ⟨B.exec, B.bytes, hml, findClass_of_methodNamed B.named, atoms_spec (ws := ws) B.pre, rfl, B.notSynchronized, hK, fun q h => Or.inr h, hns⟩ ⟨rfl, rfl, B.returns⟩
  have h0 := lv_entry av hl
  rw [← hl0] at b
  rw [lg_entry_eq]
  exact b s.heap [] _ hwd hnd (fun q h => Or.inl h) va_S.rf (by show lv_has _ c.maxLocals _; rw [hml]; exact h0)
section VCALL
variable {X : Cx} {cc : ByteArray} {nL : Nat} {own : String} {Ts : List Cond} {R : Room} {k1 k2 pc : Nat} {lv : List (Nat × Value)} {st : List Value} {Ms Mc : List Md} {post : Option Value → List Md → Prop}
/-- behind a call: the modules that it had come anew, the others stay -/
theorem v_run {rest : List Value} {is : List Nat} (C : okx X cc nL own Ts R) (hp : is.map (fun i => Ms[i]?) = Mc.map some) (hnd : is.Nodup) {a0 : Array Value}
    {H : Heap} {locs : List Loc} {ls : Array Slot} (w : wd (XD X) Ms H) (nd : (adr Ms).Nodup) (a : ∀ q ∈ adr Ms, XA X q) (s : va_S (XA X) (Xs X).heap H locs) (h : lv_has ls (Xc X).maxLocals lv)
    (hr : va_Run (Xp X) (Xl X) (Xe X) (XR X) (Xs X) (Xm X) (Xargs X) (Xbelow X) (Xmeth X) (Xc X) H locs k1 k2 0 0 (F0 (Xm X) pc ls st) rest (Qm (XD X) Mc H.size post a0) (mA Mc H.size))
    (kk : ∀ (ov : Option Value) (Mc' : List Md), post ov Mc' → Mc'.map (fun M => M.1) = Mc.map (fun M => M.1) → V X k1 k2 (pc + 3) lv (ov.toList ++ rest) (rep Ms is Mc')) : WX X H locs k1 k2 (F0 (Xm X) pc ls st) := by
  intro T hT XX
  obtain ⟨v, st₀, t, T', L, h0, X', hL, e1, e2, hq, stp⟩ := hr T hT XX
  obtain ⟨⟨ov, Mc', hv, hpo, hm, hw⟩, hz, hk⟩ := hq
  cases hv
  rw [h0] at hz hk
  have hsame : (rep Ms is Mc').map (fun M => M.1) = Ms.map (fun M => M.1) := by
    refine rep_map is Ms Mc' ?_
    have h2 : is.map (fun i => (Ms.map (fun M => M.1))[i]?) = Mc.map (fun M => some M.1) := by
      have : (is.map (fun i => Ms[i]?)).map (fun o => o.map (fun M => M.1)) = (Mc.map some).map (fun o => o.map (fun M => M.1)) := by rw [hp]
      rw [List.map_map, List.map_map] at this
      refine Eq.trans (List.map_congr_left fun i _ => ?_) this
      rw [List.getElem?_map]; rfl
    rw [h2]
    have h3 : (Mc'.map (fun M => M.1)).map some = (Mc.map (fun M => M.1)).map some := by rw [hm]
    rw [List.map_map, List.map_map] at h3
    exact h3.symm
  have hlen : is.length = Mc'.length := by
    have h1 := congrArg List.length hp
    have h2 := congrArg List.length hm
    simp only [List.length_map] at h1 h2
    omega
  have hin : ∀ q ∈ adr Mc, q ∈ adr Ms := fun q hq => by
    obtain ⟨j, N, hj, hN⟩ := adr_of hq
    obtain ⟨i, -, hi⟩ := pick_in hp (List.mem_of_getElem? hj)
    exact adr_in hi hN
  have hfree : ∀ q, mA Mc H.size q → XA X q := fun q hq => hq.elim (fun h => a q (hin q h)) (fun h => C.2.2.2.2.2.2.2.2.1 q (Nat.le_trans s.1 h))
  have hwn : wd (XD X) (rep Ms is Mc') T'.heap := by
    rw [e1]
    intro N hN
    rcases rep_mem is Ms Mc' N hlen hN with h1 | ⟨i, hi1, hi2⟩
    · exact hw N h1
    · have hN2 := w N (List.mem_of_getElem? hi2)
      refine hN2.kept fun q hq2 => hk q (hN2.lt hq2) fun hq3 => ?_
      rcases hq3 with hq3 | hq3
      · obtain ⟨j, M, hj, hM⟩ := adr_of hq3
        obtain ⟨i2, hi3, hi4⟩ := pick_in hp (List.mem_of_getElem? hj)
        exact adr_disj nd hi2 hi4 (fun e => hi1 (by rw [e]; exact hi3)) hq2 hM
      · exact absurd (hN2.lt hq2) (Nat.not_lt.mpr hq3)
  obtain ⟨t2, a1, b1⟩ := kk _ Mc' hpo hm T'.heap (locs ++ L) ls hwn (by rw [adr_map hsame]; exact nd) (by rw [adr_map hsame]; exact a)
    ⟨Nat.le_trans s.1 (by rw [e1]; exact hz), fun q h1 h2 => by rw [e1, hk q (Nat.lt_of_lt_of_le h1 s.1) (fun z => h2 (hfree q z))]; exact s.2.1 q h1 h2, fun q hq => by
      rcases List.mem_append.mp hq with h | h
      · exact s.2.2 q h
      · exact hfree _ (hL q h)⟩ h T' rfl X'
  exact ⟨t2, stp t2 a1, b1⟩
theorem pre_blind {D : va_G} {cI cB : ClassId} {sz : Nat} {av : List Value} : FrameBlind (va_Pc av (pre D cI cB Mc sz)) := fun a U g mk q => by
  obtain ⟨q0, q1, q2, q3, q4, q5⟩ := q
  exact ⟨q0, q1, q2, va_K.moved (u := U) (U := U.calling g mk a) (Vm.Alike.refl U.vm) q3, q4, fun q hq => va_Nw.same (u := U) (U := U.calling g mk a) rfl rfl (q5 q hq)⟩
theorem pre_at (C : okx X cc nL own Ts R) {is : List Nat} {av : List Value} (hp : is.map (fun i => Ms[i]?) = Mc.map some) (hnd : is.Nodup) {H : Heap} (w : wd (XD X) Ms H) (nd : (adr Ms).Nodup) : ∀ U : State, U.heap = H → (Xs X).WarmedH U.vm → va_Pc av (pre (XD X) (XI X) (XB X) Mc H.size) av.toArray U := fun U hU hW =>
  ⟨rfl, by rw [hU], by rw [hU]; exact fun N hN => by obtain ⟨i, -, hi⟩ := pick_in hp hN; exact w N (List.mem_of_getElem? hi), va_K.moved hW.alike C.2.2.2.2.2.2.2.1, adr_pick nd is Mc hnd hp, fun q hq => va_Nw.warmM hW (C.2.2.2.2.2.2.2.2.2 q hq)⟩
theorem v_callV (C : okx X cc nL own Ts R) {y : MethodName} {wsY ws' : List Cond} {rm : Room} {b : Nat} {As rest : List Value} {bytes : ByteArray} {maxL index n : Nat} {ret : Option FieldType} {Cn : String} (is : List Nat)
    (hM : Ct (XI X) (XB X) y wsY rm (.ref b :: As) Mc post) (hp : is.map (fun i => Ms[i]?) = Mc.map some) (hG : GoodIn Ts (wsV own index Cn y wsY)) (hw : wsY = Cond.code y bytes maxL ret :: ws') (hn : As.length = n)
    (hd : y.cls = Cn ∧ y.cls ≠ "java/lang/invoke/MethodHandle" ∧ y.cls ≠ "java/lang/invoke/VarHandle" ∧ (parseMethodDescriptor y.desc).map (fun d => d.parameters.length) = some n) (hrm : rm.cells = 0 ∧ rm.slots = 0) (hR : rm.frames + 1 ≤ R.frames ∧ 8 + (maxL + 11) + rm.locals ≤ R.locals)
    (i0 : Nat) {M0 : Md} {ci : Nat} {fs : List Value} {T : u_T} {N : Nat} (hi0 : Ms[i0]? = some M0) (hF : hasF M0 b ci fs) (hc : vwCl[ci]? = some (Cn, T, N)) (hnd : is.Nodup) (hroom : (rest.map fun v => v.category).sum ≤ 8) (hk : k1 ≤ R.cells ∧ k2 ≤ R.slots) (hst : st = As.reverse ++ .ref b :: rest) (hdg : decode cc pc = .ok (.invokevirtual index, 3))
    (kk : ∀ (ov : Option Value) (Mc' : List Md), post ov Mc' → Mc'.map (fun M => M.1) = Mc.map (fun M => M.1) → V X k1 k2 (pc + 3) lv (ov.toList ++ rest) (rep Ms is Mc')) : V X k1 k2 pc lv st Ms := by
  intro H locs ls w nd a s h
  obtain ⟨ws, h1, h2, hP⟩ := w M0 (List.mem_of_getElem? hi0)
  obtain ⟨k0, hk0⟩ := hF ws h1
  have hRR := C.2.2.2.2.2.1
  exact v_run C hp hnd w nd a s h (va_runV (As := As) (rest := rest) ⟨C.1, C.2.1, C.2.2.1, C.2.2.2.1, C.2.2.2.2.1⟩ (hM (Xl X) (XD X) H.size) (cwV n C.2.2.2.2.1 hG hw hrm.1 hrm.2 hd (by rw [hRR]; exact hR)) ⟨pre_blind, va_recv C.2.2.2.2.2.2.2.1 hP hc hk0, pre_at C hp hnd w nd⟩ rfl hn (h.1.trans C.2.2.1) hst (lv_room hroom) hdg (by rw [hRR]; exact hk)) kk
theorem v_callS (C : okx X cc nL own Ts R) {y : MethodName} {wsY ws' : List Cond} {rm : Room} {As rest : List Value} {bytes : ByteArray} {maxL index n : Nat} {ret : Option FieldType} (is : List Nat)
    (hM : Ct (XI X) (XB X) y wsY rm As Mc post) (hp : is.map (fun i => Ms[i]?) = Mc.map some) (hG : GoodIn Ts (va_wsS own index y wsY)) (hw : wsY = Cond.code y bytes maxL ret :: ws') (hn : As.length = n)
    (hd : y.cls ≠ "java/lang/invoke/MethodHandle" ∧ y.cls ≠ "java/lang/invoke/VarHandle" ∧ (parseMethodDescriptor y.desc).map (fun d => d.parameters.length) = some n) (hrm : rm.cells = 0 ∧ rm.slots = 0) (hR : rm.frames + 1 ≤ R.frames ∧ 8 + (maxL + 11) + rm.locals ≤ R.locals)
    (hnd : is.Nodup) (hroom : (rest.map fun v => v.category).sum ≤ 8) (hk : k1 ≤ R.cells ∧ k2 ≤ R.slots) (hst : st = As.reverse ++ rest) (hdg : decode cc pc = .ok (.invokestatic index, 3))
    (kk : ∀ (ov : Option Value) (Mc' : List Md), post ov Mc' → Mc'.map (fun M => M.1) = Mc.map (fun M => M.1) → V X k1 k2 (pc + 3) lv (ov.toList ++ rest) (rep Ms is Mc')) : V X k1 k2 pc lv st Ms := by
  intro H locs ls w nd a s h
  have hRR := C.2.2.2.2.2.1
  exact v_run C hp hnd w nd a s h (va_runS (As := As) (rest := rest) ⟨C.1, C.2.1, C.2.2.1, C.2.2.2.1, C.2.2.2.2.1⟩ (hM (Xl X) (XD X) H.size) (va_cwS n C.2.2.2.2.1 hG hw hrm.1 hrm.2 hd (by rw [hRR]; exact hR)) ⟨pre_blind, pre_at C hp hnd w nd⟩ rfl hn (h.1.trans C.2.2.1) hst (lv_room hroom) hdg (by rw [hRR]; exact hk)) kk
theorem v_callN (C : okx X cc nL own Ts R) {y : MethodName} {wsY ws' : List Cond} {rm : Room} {As rest : List Value} {bytes : ByteArray} {maxL index n : Nat} {ret : Option FieldType} {host : String} (is : List Nat)
    (hM : Ct (XI X) (XB X) y wsY rm As Mc post) (hp : is.map (fun i => Ms[i]?) = Mc.map some) (hG : GoodIn Ts wsY) (hw : wsY = Cond.code y bytes maxL ret :: ws') (hn : As.length = n) (hnest : (own, index, y, host) ∈ nests) (hst2 : Cond.static y ∈ Ts) (hini : Cond.initialized y.cls ∈ Ts)
    (hd : y.cls ≠ "java/lang/invoke/MethodHandle" ∧ y.cls ≠ "java/lang/invoke/VarHandle" ∧ (parseMethodDescriptor y.desc).map (fun d => d.parameters.length) = some n) (hrm : rm.cells = 0 ∧ rm.slots = 0) (hR : rm.frames + 1 ≤ R.frames ∧ 8 + (maxL + 11) + rm.locals ≤ R.locals)
    (hnd : is.Nodup) (hroom : (rest.map fun v => v.category).sum ≤ 8) (hk : k1 ≤ R.cells ∧ k2 ≤ R.slots) (hst : st = As.reverse ++ rest) (hdg : decode cc pc = .ok (.invokestatic index, 3))
    (kk : ∀ (ov : Option Value) (Mc' : List Md), post ov Mc' → Mc'.map (fun M => M.1) = Mc.map (fun M => M.1) → V X k1 k2 (pc + 3) lv (ov.toList ++ rest) (rep Ms is Mc')) : V X k1 k2 pc lv st Ms := by
  intro H locs ls w nd a s h
  have hRR := C.2.2.2.2.2.1
  have hNw := C.2.2.2.2.2.2.2.2.2 _ hnest
  exact v_run C hp hnd w nd a s h (va_runSN (As := As) (rest := rest) ⟨C.1, C.2.1, C.2.2.1, C.2.2.2.1, C.2.2.2.2.1⟩ (hM (Xl X) (XD X) H.size) ⟨va_cnB n C.2.2.2.2.1 hG hw hrm.1 hrm.2 hNw (C.2.2.2.2.1 _ hini) hd (by rw [hRR]; exact hR), C.2.2.2.2.1 _ hst2, trivial⟩ ⟨pre_blind, pre_at C hp hnd w nd⟩ rfl hn (h.1.trans C.2.2.1) hst (lv_room hroom) hdg (by rw [hRR]; exact hk)) kk
end VCALL
section VMORE
variable {X : Cx} {cc : ByteArray} {nL : Nat} {own : String} {Ts : List Cond} {R : Room} {k1 k2 pc : Nat} {lv : List (Nat × Value)} {st : List Value} {Ms Mc : List Md}
def dv (v : Int32) (M' : List Md) : Option Value → List Md → Prop := fun ov M => ov = some (.int v) ∧ M = M'
def dn (M' : List Md) : Option Value → List Md → Prop := fun ov M => ov = none ∧ M = M'
theorem v_callVi (C : okx X cc nL own Ts R) {y : MethodName} {wsY ws' : List Cond} {rm : Room} {b : Nat} {As rest : List Value} {bytes : ByteArray} {maxL index n : Nat} {ret : Option FieldType} {Cn : String} {v : Int32} {Mc' : List Md} (is : List Nat)
    (hM : Ct (XI X) (XB X) y wsY rm (.ref b :: As) Mc (dv v Mc')) (hp : is.map (fun i => Ms[i]?) = Mc.map some) (hG : GoodIn Ts (wsV own index Cn y wsY)) (hw : wsY = Cond.code y bytes maxL ret :: ws') (hn : As.length = n)
    (hd : y.cls = Cn ∧ y.cls ≠ "java/lang/invoke/MethodHandle" ∧ y.cls ≠ "java/lang/invoke/VarHandle" ∧ (parseMethodDescriptor y.desc).map (fun d => d.parameters.length) = some n) (hrm : rm.cells = 0 ∧ rm.slots = 0) (hR : rm.frames + 1 ≤ R.frames ∧ 8 + (maxL + 11) + rm.locals ≤ R.locals)
    (i0 : Nat) {M0 : Md} {ci : Nat} {fs : List Value} {T : u_T} {N : Nat} (hi0 : Ms[i0]? = some M0) (hF : hasF M0 b ci fs) (hc : vwCl[ci]? = some (Cn, T, N)) (hnd : is.Nodup) (hroom : (rest.map fun v => v.category).sum ≤ 8) (hk : k1 ≤ R.cells ∧ k2 ≤ R.slots) (hst : st = As.reverse ++ .ref b :: rest) (hdg : decode cc pc = .ok (.invokevirtual index, 3))
    (kk : V X k1 k2 (pc + 3) lv (.int v :: rest) (rep Ms is Mc')) : V X k1 k2 pc lv st Ms :=
  v_callV C is hM hp hG hw hn hd hrm hR i0 hi0 hF hc hnd hroom hk hst hdg fun ov M h _ => by
    obtain ⟨rfl, rfl⟩ := h
    exact kk
theorem v_callVv (C : okx X cc nL own Ts R) {y : MethodName} {wsY ws' : List Cond} {rm : Room} {b : Nat} {As rest : List Value} {bytes : ByteArray} {maxL index n : Nat} {ret : Option FieldType} {Cn : String} {Mc' : List Md} (is : List Nat)
    (hM : Ct (XI X) (XB X) y wsY rm (.ref b :: As) Mc (dn Mc')) (hp : is.map (fun i => Ms[i]?) = Mc.map some) (hG : GoodIn Ts (wsV own index Cn y wsY)) (hw : wsY = Cond.code y bytes maxL ret :: ws') (hn : As.length = n)
    (hd : y.cls = Cn ∧ y.cls ≠ "java/lang/invoke/MethodHandle" ∧ y.cls ≠ "java/lang/invoke/VarHandle" ∧ (parseMethodDescriptor y.desc).map (fun d => d.parameters.length) = some n) (hrm : rm.cells = 0 ∧ rm.slots = 0) (hR : rm.frames + 1 ≤ R.frames ∧ 8 + (maxL + 11) + rm.locals ≤ R.locals)
    (i0 : Nat) {M0 : Md} {ci : Nat} {fs : List Value} {T : u_T} {N : Nat} (hi0 : Ms[i0]? = some M0) (hF : hasF M0 b ci fs) (hc : vwCl[ci]? = some (Cn, T, N)) (hnd : is.Nodup) (hroom : (rest.map fun v => v.category).sum ≤ 8) (hk : k1 ≤ R.cells ∧ k2 ≤ R.slots) (hst : st = As.reverse ++ .ref b :: rest) (hdg : decode cc pc = .ok (.invokevirtual index, 3))
    (kk : V X k1 k2 (pc + 3) lv rest (rep Ms is Mc')) : V X k1 k2 pc lv st Ms :=
  v_callV C is hM hp hG hw hn hd hrm hR i0 hi0 hF hc hnd hroom hk hst hdg fun ov M h _ => by
    obtain ⟨rfl, rfl⟩ := h
    exact kk
theorem v_callSi (C : okx X cc nL own Ts R) {y : MethodName} {wsY ws' : List Cond} {rm : Room} {As rest : List Value} {bytes : ByteArray} {maxL index n : Nat} {ret : Option FieldType} {v : Int32} {Mc' : List Md} (is : List Nat)
    (hM : Ct (XI X) (XB X) y wsY rm As Mc (dv v Mc')) (hp : is.map (fun i => Ms[i]?) = Mc.map some) (hG : GoodIn Ts (va_wsS own index y wsY)) (hw : wsY = Cond.code y bytes maxL ret :: ws') (hn : As.length = n)
    (hd : y.cls ≠ "java/lang/invoke/MethodHandle" ∧ y.cls ≠ "java/lang/invoke/VarHandle" ∧ (parseMethodDescriptor y.desc).map (fun d => d.parameters.length) = some n) (hrm : rm.cells = 0 ∧ rm.slots = 0) (hR : rm.frames + 1 ≤ R.frames ∧ 8 + (maxL + 11) + rm.locals ≤ R.locals)
    (hnd : is.Nodup) (hroom : (rest.map fun v => v.category).sum ≤ 8) (hk : k1 ≤ R.cells ∧ k2 ≤ R.slots) (hst : st = As.reverse ++ rest) (hdg : decode cc pc = .ok (.invokestatic index, 3))
    (kk : V X k1 k2 (pc + 3) lv (.int v :: rest) (rep Ms is Mc')) : V X k1 k2 pc lv st Ms :=
  v_callS C is hM hp hG hw hn hd hrm hR hnd hroom hk hst hdg fun ov M h _ => by
    obtain ⟨rfl, rfl⟩ := h
    exact kk
theorem v_callNi (C : okx X cc nL own Ts R) {y : MethodName} {wsY ws' : List Cond} {rm : Room} {As rest : List Value} {bytes : ByteArray} {maxL index n : Nat} {ret : Option FieldType} {host : String} {v : Int32} {Mc' : List Md} (is : List Nat)
    (hM : Ct (XI X) (XB X) y wsY rm As Mc (dv v Mc')) (hp : is.map (fun i => Ms[i]?) = Mc.map some) (hG : GoodIn Ts wsY) (hw : wsY = Cond.code y bytes maxL ret :: ws') (hn : As.length = n) (hnest : (own, index, y, host) ∈ nests) (hst2 : Cond.static y ∈ Ts) (hini : Cond.initialized y.cls ∈ Ts)
    (hd : y.cls ≠ "java/lang/invoke/MethodHandle" ∧ y.cls ≠ "java/lang/invoke/VarHandle" ∧ (parseMethodDescriptor y.desc).map (fun d => d.parameters.length) = some n) (hrm : rm.cells = 0 ∧ rm.slots = 0) (hR : rm.frames + 1 ≤ R.frames ∧ 8 + (maxL + 11) + rm.locals ≤ R.locals)
    (hnd : is.Nodup) (hroom : (rest.map fun v => v.category).sum ≤ 8) (hk : k1 ≤ R.cells ∧ k2 ≤ R.slots) (hst : st = As.reverse ++ rest) (hdg : decode cc pc = .ok (.invokestatic index, 3))
    (kk : V X k1 k2 (pc + 3) lv (.int v :: rest) (rep Ms is Mc')) : V X k1 k2 pc lv st Ms :=
  v_callN C is hM hp hG hw hn hnest hst2 hini hd hrm hR hnd hroom hk hst hdg fun ov M h _ => by
    obtain ⟨rfl, rfl⟩ := h
    exact kk
theorem v_mmax (C : okx X cc nL own Ts R) {index : Nat} {x y : Int32} (h1 : Cond.methodLink own index Lib.Math.max.name ∈ Ts) (h2 : Cond.static Lib.Math.max.name ∈ Ts) (h3 : Cond.initialized "java/lang/Math" ∈ Ts) (h4 : Cond.code Lib.Math.max.name Lib.Math.max.code 2 (some .int) ∈ Ts) (hf : 1 ≤ R.frames) (hl : (st.map fun v => v.category).sum + 13 ≤ R.locals) (hk : k1 ≤ R.cells ∧ k2 ≤ R.slots) (hdg : decode cc pc = .ok (.invokestatic index, 3))
    (kk : V X k1 k2 (pc + 3) lv (.int (if x < y then y else x) :: st) Ms) : V X k1 k2 pc lv (.int y :: .int x :: st) Ms := by
  intro H locs ls w nd a s h
  have hRR := C.2.2.2.2.2.1
  exact va_mmax C.1 C.2.1 h.1.symm C.2.2.2.1 (C.2.2.2.2.1 _ h1) (C.2.2.2.2.1 _ h2) (C.2.2.2.2.1 _ h3) (C.2.2.2.2.1 _ h4) (by rw [hRR]; exact hf) (by rw [hRR]; exact hl) (by rw [hRR]; exact hk.1) (by rw [hRR]; exact hk.2) hdg (kk H locs ls w nd a s h)
theorem v_mmin (C : okx X cc nL own Ts R) {index : Nat} {x y : Int32} (h1 : Cond.methodLink own index Lib.Math.min.name ∈ Ts) (h2 : Cond.static Lib.Math.min.name ∈ Ts) (h3 : Cond.initialized "java/lang/Math" ∈ Ts) (h4 : Cond.code Lib.Math.min.name Lib.Math.min.code 2 (some .int) ∈ Ts) (hf : 1 ≤ R.frames) (hl : (st.map fun v => v.category).sum + 13 ≤ R.locals) (hk : k1 ≤ R.cells ∧ k2 ≤ R.slots) (hdg : decode cc pc = .ok (.invokestatic index, 3))
    (kk : V X k1 k2 (pc + 3) lv (.int (if y < x then y else x) :: st) Ms) : V X k1 k2 pc lv (.int y :: .int x :: st) Ms := by
  intro H locs ls w nd a s h
  have hRR := C.2.2.2.2.2.1
  exact va_mmin C.1 C.2.1 h.1.symm C.2.2.2.1 (C.2.2.2.2.1 _ h1) (C.2.2.2.2.1 _ h2) (C.2.2.2.2.1 _ h3) (C.2.2.2.2.1 _ h4) (by rw [hRR]; exact hf) (by rw [hRR]; exact hl) (by rw [hRR]; exact hk.1) (by rw [hRR]; exact hk.2) hdg (kk H locs ls w nd a s h)
theorem v_j {lv' : List (Nat × Value)} {st' : List Value} {Ms' : List Md} (kk : V X k1 k2 pc lv' st' Ms') (hs : lv'.map (fun q => lget lv q.1) = lv'.map (fun q => some q.2)) (h2 : st = st') (h3 : Ms = Ms') : V X k1 k2 pc lv st Ms := v_eq hs h2 h3 kk
theorem iinc_1 {x : Int32} : x + Int32.ofInt 1 = x + 1 := rfl
theorem iinc_m1 {x : Int32} : x + Int32.ofInt (-1) = x - 1 := by rw [Int32.sub_eq_add_neg]; rfl
theorem iinc_3 {x : Int32} : x + Int32.ofInt 3 = x + 3 := rfl
theorem iinc_4 {x : Int32} : x + Int32.ofInt 4 = x + 4 := rfl
end VMORE
/-! whole numbers -/
theorem i_le {a b : Int32} : a ≤ b ↔ a.toInt ≤ b.toInt := Int32.le_iff_toInt_le
theorem i_lt {a b : Int32} : a < b ↔ a.toInt < b.toInt := Int32.lt_iff_toInt_lt
theorem i_cl (x : Int32) : x.toNatClampNeg = x.toInt.toNat := rfl
theorem i_n {n : Nat} (h : n < 2147483648) : (nI n).toInt = (n : Int) := nI_toInt h
theorem i_0 : (0 : Int32).toInt = 0 := rfl
theorem i_eq {a b : Int32} : a = b ↔ a.toInt = b.toInt := Int32.toInt_inj.symm
/-! rows of numbers as lists -/
def gt (xs : List Int32) (i : Int32) : Int32 := if i < 0 then -5 else xs.getD i.toNatClampNeg (-5)
def stL (xs : List Int32) (i v : Int32) : List Int32 := if i < 0 then xs else xs.set i.toNatClampNeg v
def adL (cap : Nat) (xs : List Int32) (v : Int32) : List Int32 := if xs.length < cap then xs ++ [v] else xs
def aaL (cap : Nat) (xs ys : List Int32) : List Int32 := ys.foldl (adL cap) xs
def amL (cap : Nat) (v : Int32) : Nat → List Int32 → List Int32
  | 0, xs => xs
  | k + 1, xs => amL cap v k (adL cap xs v)
def swL (xs : List Int32) (i j : Int32) : List Int32 := stL (stL xs i (gt xs j)) j (gt xs i)
def layf (xs : List Int32) (cap : Nat) (f : Nat → Int32) : Prop := xs.length ≤ cap ∧ cap < 1000000000 ∧ ∀ k, k < xs.length → f k = xs.getD k 0
def rowM (cI : ClassId) (r a cap : Nat) (xs : List Int32) : Md := ([r, a], fun ws => ∃ f : Nat → Int32, layf xs cap f ∧ ws = [(r, .inr (3, [.ref a, .int (nI xs.length)])), (a, .inl (cI, cap, .inl f))])
theorem rowF {cI : ClassId} {r a cap : Nat} {xs : List Int32} : hasF (rowM cI r a cap xs) r 3 [.ref a, .int (nI xs.length)] := fun ws h => by
  obtain ⟨f, -, h⟩ := h
  exact ⟨0, by rw [h]; rfl⟩
section ROW
variable {X : Cx} {k1 k2 pc : Nat} {lv : List (Nat × Value)} {st : List Value}
theorem v_orow {r a cap : Nat} {xs : List Int32} (kk : ∀ f : Nat → Int32, layf xs cap f → V X k1 k2 pc lv st [cM r (.inr (3, [.ref a, .int (nI xs.length)])), cM a (.inl (XI X, cap, .inl f))]) : V X k1 k2 pc lv st [rowM (XI X) r a cap xs] := by
  refine v_ex (F := fun f => [cM r (.inr (3, [.ref a, .int (nI xs.length)])), cM a (.inl (XI X, cap, .inl f))]) (φ := fun f => layf xs cap f) (fun H w => ?_) (fun _ => rfl) kk
  obtain ⟨ws, ⟨f, hf, rfl⟩, -, hP⟩ := w _ (List.mem_singleton.mpr rfl)
  refine ⟨f, hf, fun M hM => ?_⟩
  rcases List.mem_cons.mp hM with rfl | hM
  · exact mAt_c.mpr (hP 0 _ rfl)
  · rw [List.mem_singleton.mp hM]
    exact mAt_c.mpr (hP 1 _ rfl)
theorem v_crow {r a cap : Nat} {xs : List Int32} {n : Int32} {f : Nat → Int32} (hf : layf xs cap f) (hn : n = nI xs.length) (kk : V X k1 k2 pc lv st [rowM (XI X) r a cap xs]) : V X k1 k2 pc lv st [cM r (.inr (3, [.ref a, .int n])), cM a (.inl (XI X, cap, .inl f))] := by
  subst hn
  refine v_to (Ms' := [rowM (XI X) r a cap xs]) (fun H w => ?_) rfl kk
  intro M hM
  rw [List.mem_singleton.mp hM]
  refine ⟨_, ⟨f, hf, rfl⟩, rfl, fun k q hk => ?_⟩
  match k, hk with
  | 0, hk => cases hk; exact mAt_c.mp (w _ List.mem_cons_self)
  | 1, hk => cases hk; exact mAt_c.mp (w _ (List.mem_cons_of_mem _ List.mem_cons_self))
  | k + 2, hk => simp at hk
end ROW
