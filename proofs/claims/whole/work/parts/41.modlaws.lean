/-! the model: an object of 28 fields, sixteen rows of numbers -/
def moM (m : Nat → Nat) (hl it sz sl ut ol tl sp tw tm mm rl : Int32) : Md := cM (m 0) (.inr (8, [.ref (m 1), .ref (m 2), .ref (m 3), .int hl, .ref (m 4), .int it, .ref (m 5), .int sz, .ref (m 6), .ref (m 7), .int sl, .int ut, .ref (m 8), .ref (m 9), .int ol, .ref (m 10), .ref (m 11), .ref (m 12), .int tl, .int sp, .int tw, .int tm, .ref (m 13), .int mm, .ref (m 14), .ref (m 15), .ref (m 16), .int rl]))
theorem moF {m : Nat → Nat} {hl it sz sl ut ol tl sp tw tm mm rl : Int32} : hasF (moM m hl it sz sl ut ol tl sp tw tm mm rl) (m 0) 8 [.ref (m 1), .ref (m 2), .ref (m 3), .int hl, .ref (m 4), .int it, .ref (m 5), .int sz, .ref (m 6), .ref (m 7), .int sl, .int ut, .ref (m 8), .ref (m 9), .int ol, .ref (m 10), .ref (m 11), .ref (m 12), .int tl, .int sp, .int tw, .int tm, .ref (m 13), .int mm, .ref (m 14), .ref (m 15), .ref (m 16), .int rl] := hasF_c
/-- a row of numbers of which the first ones are told -/
def arL (cI : ClassId) (a cap : Nat) (xs : List Int32) : Md := ([a], fun ws => ∃ f : Nat → Int32, layf xs cap f ∧ ws = [(a, .inl (cI, cap, .inl f))])
/-- a row of numbers by what it holds -/
def arF (cI : ClassId) (a cap : Nat) (f : Nat → Int32) : Md := cM a (.inl (cI, cap, .inl f))
theorem arL_at {D : va_G} {cI : ClassId} {a cap : Nat} {xs : List Int32} {H : Heap} : mAt D (arL cI a cap xs) H ↔ ∃ f, layf xs cap f ∧ mAt D (arF cI a cap f) H := by
  constructor
  · rintro ⟨ws, ⟨f, hf, rfl⟩, h2, h3⟩
    exact ⟨f, hf, _, rfl, h2, h3⟩
  · rintro ⟨f, hf, ws, h1, h2, h3⟩
    have h1 : ws = _ := h1
    exact ⟨ws, ⟨f, hf, h1⟩, h2, h3⟩
theorem arL_1 {cI : ClassId} {a cap : Nat} {xs : List Int32} : (arL cI a cap xs).1 = [a] := rfl
theorem arF_1 {cI : ClassId} {a cap : Nat} {f : Nat → Int32} : (arF cI a cap f).1 = [a] := rfl
theorem moM_1 {m : Nat → Nat} {hl it sz sl ut ol tl sp tw tm mm rl : Int32} : (moM m hl it sz sl ut ol tl sp tw tm mm rl).1 = [m 0] := rfl
section ARL
variable {X : Cx} {cc : ByteArray} {nL : Nat} {own : String} {Ts : List Cond} {R : Room} {k1 k2 pc : Nat} {lv : List (Nat × Value)} {st : List Value} {Ms : List Md}
theorem v_arget {M M' : Md} (i : Nat) (hi : Ms[i]? = some M) (h1 : M'.1 = M.1) (h : ∀ H, mAt (XD X) M H → mAt (XD X) M' H) (kk : V X k1 k2 pc lv st (Ms.set i M')) : V X k1 k2 pc lv st Ms := fun H locs ls w n a s hl => by
  have hmap : (Ms.set i M').map (fun M => M.1) = Ms.map (fun M => M.1) := set_map (by rw [List.getElem?_map, hi, h1]; rfl)
  refine kk H locs ls (fun N hN => ?_) (by rw [adr_map hmap]; exact n) (by rw [adr_map hmap]; exact a) s hl
  rcases rep_mem [i] Ms [M'] N rfl hN with h2 | ⟨j, -, h3⟩
  · rw [List.mem_singleton.mp h2]; exact h H (w M (List.mem_of_getElem? hi))
  · exact w N (List.mem_of_getElem? h3)
theorem v_oar (i : Nat) {a cap : Nat} {xs : List Int32} (hi : Ms[i]? = some (arL (XI X) a cap xs)) (kk : ∀ f, layf xs cap f → V X k1 k2 pc lv st (Ms.set i (arF (XI X) a cap f))) : V X k1 k2 pc lv st Ms := fun H locs ls w n aa s hl => by
  obtain ⟨f, hf, hm⟩ := arL_at.mp (w _ (List.mem_of_getElem? hi))
  have hmap : (Ms.set i (arF (XI X) a cap f)).map (fun M => M.1) = Ms.map (fun M => M.1) := set_map (by rw [List.getElem?_map, hi]; rfl)
  refine kk f hf H locs ls (fun N hN => ?_) (by rw [adr_map hmap]; exact n) (by rw [adr_map hmap]; exact aa) s hl
  rcases rep_mem [i] Ms [arF (XI X) a cap f] N rfl hN with h2 | ⟨j, -, h3⟩
  · rw [List.mem_singleton.mp h2]; exact hm
  · exact w N (List.mem_of_getElem? h3)
theorem v_car (i : Nat) {a cap : Nat} {f : Nat → Int32} (xs : List Int32) (hi : Ms[i]? = some (arF (XI X) a cap f)) (hf : layf xs cap f) (kk : V X k1 k2 pc lv st (Ms.set i (arL (XI X) a cap xs))) : V X k1 k2 pc lv st Ms := v_arget (M' := arL (XI X) a cap xs) i hi rfl (fun H h => arL_at.mpr ⟨f, hf, h⟩) kk
theorem v_lald (C : okx X cc nL own Ts R) {a cap : Nat} {xs : List Int32} (i : Nat) (hi : Ms[i]? = some (arL (XI X) a cap xs)) {x : Int32} (k : Nat) (hx : x = nI k) (hk : k < xs.length) (hdg : decode cc pc = .ok (.iaload, 1)) (kk : V X k1 k2 (pc + 1) lv (.int (xs.getD k (-5)) :: st) Ms) : V X k1 k2 pc lv (.int x :: .ref a :: st) Ms := fun H locs ls w n aa s hl => by
  obtain ⟨f, hf, ws, h1, h2, hP⟩ := arL_at.mp (w _ (List.mem_of_getElem? hi))
  have h1 : ws = [(a, .inl (XI X, cap, .inl f))] := h1
  subst h1
  subst hx
  have hb := hf.1
  have hb2 := hf.2.1
  refine va_iald C.1 C.2.1 C.2.2.2.2.2.2.2.1 hP 0 0 rfl rfl (vp_in_nI (by omega) (by omega)) hdg ?_
  rw [nI_clamp (by omega), hf.2.2 k hk, gd_in hk, ← gd_in (d := -5) hk]
  exact kk H locs ls w n aa s hl
theorem v_last (C : okx X cc nL own Ts R) {a cap : Nat} {xs : List Int32} (i : Nat) (hi : Ms[i]? = some (arL (XI X) a cap xs)) {x y : Int32} (hx : x = nI xs.length) (hk : xs.length < cap) (hdg : decode cc pc = .ok (.iastore, 1)) (kk : V X k1 k2 (pc + 1) lv st (Ms.set i (arL (XI X) a cap (xs ++ [y])))) : V X k1 k2 pc lv (.int y :: .int x :: .ref a :: st) Ms := by
  refine v_oar i hi fun f hf => ?_
  have hb2 := hf.2.1
  have hl : i < Ms.length := (List.getElem?_eq_some_iff.mp hi).1
  have hc : ¬ nI cap ≤ nI xs.length := by rw [nI_leI (by omega) (by omega)]; omega
  subst hx
  refine v_iast C i (f := f) (by rw [List.getElem?_set_self hl]; rfl) (lay_add hf hc) hdg ?_
  refine v_car i (xs ++ [y]) (f := upd f (nI xs.length).toNatClampNeg y) (by rw [List.set_set, List.getElem?_set_self hl]; rfl) (by rw [← adL_in hf y hc]; exact adL_lay hf y hc) ?_
  rw [List.set_set, List.set_set]
  exact kk
theorem v_lset (C : okx X cc nL own Ts R) {a cap : Nat} {xs : List Int32} (i : Nat) (hi : Ms[i]? = some (arL (XI X) a cap xs)) {x y : Int32} (k : Nat) (hx : x = nI k) (hk : k < xs.length) (hdg : decode cc pc = .ok (.iastore, 1)) (kk : V X k1 k2 (pc + 1) lv st (Ms.set i (arL (XI X) a cap (xs.set k y)))) : V X k1 k2 pc lv (.int y :: .int x :: .ref a :: st) Ms := by
  refine v_oar i hi fun f hf => ?_
  have hb := hf.1
  have hb2 := hf.2.1
  have hl : i < Ms.length := (List.getElem?_eq_some_iff.mp hi).1
  have hc : ¬ nI xs.length ≤ nI k := by rw [nI_leI (by omega) (by omega)]; omega
  subst hx
  refine v_iast C i (f := f) (by rw [List.getElem?_set_self hl]; rfl) (vp_in_nI (by omega) (by omega)) hdg ?_
  refine v_car i (xs.set k y) (f := upd f (nI k).toNatClampNeg y) (by rw [List.set_set, List.getElem?_set_self hl]; rfl) (by rw [← st_n (xs := xs) (k := k) (by omega)]; exact stL_lay hf y (nI_pos (by omega)) hc) ?_
  rw [List.set_set, List.set_set]
  exact kk
/-- fewer numbers told -/
theorem v_ltk (i n : Nat) {a cap : Nat} {xs : List Int32} (hi : Ms[i]? = some (arL (XI X) a cap xs)) (kk : V X k1 k2 pc lv st (Ms.set i (arL (XI X) a cap (xs.take n)))) : V X k1 k2 pc lv st Ms := v_arget (M' := arL (XI X) a cap (xs.take n)) i hi rfl (fun H h => by
  obtain ⟨f, hf, hm⟩ := arL_at.mp h
  refine arL_at.mpr ⟨f, ⟨by rw [List.length_take]; have := hf.1; omega, hf.2.1, fun k hk => ?_⟩, hm⟩
  have hk2 := hk
  rw [List.length_take] at hk2
  rw [hf.2.2 k (by omega), gd_in (by omega), gd_in hk, List.getElem_take]) kk
theorem v_arlen (i : Nat) {cI : ClassId} {a cap : Nat} {xs : List Int32} (hi : Ms[i]? = some (arL cI a cap xs)) (kk : xs.length ≤ cap ∧ cap < 1000000000 → V X k1 k2 pc lv st Ms) : V X k1 k2 pc lv st Ms := fun H locs ls w n aa s hl => by
  obtain ⟨f, hf, -⟩ := arL_at.mp (w _ (List.mem_of_getElem? hi))
  exact kk ⟨hf.1, hf.2.1⟩ H locs ls w n aa s hl
end ARL
def nthR (S : Bk) (r : Nat) : List Int32 := S.1.getD r []
def nthW (S : Bk) (w : Nat) : List Int32 := S.2.2.2.2.1.getD w []
def nthS (S : Bk) (s : Nat) : List Int32 := S.2.2.2.1.getD s []
def sgn0 (x : Int32) : Int32 := if x = 0 then -1 else x
def low (x : Int32) : Prop := 97 ≤ x ∧ x ≤ 122
/-- a state as it should be -/
def wfB (S : Bk) : Prop := S.1.length ≤ 30 ∧ S.2.1.length = S.1.length ∧ S.2.2.1.length = S.1.length ∧ S.2.2.2.1.length = 26 ∧ S.2.2.2.2.1.length ≤ 20 ∧ S.2.2.2.2.2.length = S.2.2.2.2.1.length ∧ (∀ r, r < S.1.length → 1 ≤ (nthR S r).length ∧ (nthR S r).length ≤ 4 ∧ (∀ x ∈ nthR S r, low x) ∧ (S.2.1.getD r (-5) = 0 ∨ (65 ≤ S.2.1.getD r (-5) ∧ S.2.1.getD r (-5) ≤ 90)) ∧ 0 ≤ S.2.2.1.getD r (-5) ∧ S.2.2.1.getD r (-5) ≤ 5) ∧ (∀ s, s < 26 → 1 ≤ (nthS S s).length ∧ (nthS S s).length ≤ 2 ∧ ∀ x ∈ nthS S s, low x) ∧ ∀ w, w < S.2.2.2.2.1.length → 1 ≤ (nthW S w).length ∧ (nthW S w).length ≤ 12 ∧ (∀ x ∈ nthW S w, low x) ∧ 0 ≤ S.2.2.2.2.2.getD w (-5) ∧ S.2.2.2.2.2.getD w (-5) ≤ 2
/-- the model's row of a state -/
def allR (S : Bk) (f : Nat → Int32) : Prop := wfB S ∧ f 0 = nI S.1.length ∧ f 1 = nI S.2.2.2.2.1.length ∧ (∀ r, r < S.1.length → f (2 + 7 * r) = nI (nthR S r).length ∧ (∀ j, j < (nthR S r).length → f (2 + 7 * r + 1 + j) = (nthR S r).getD j (-5)) ∧ f (2 + 7 * r + 5) = sgn0 (S.2.1.getD r (-5)) ∧ f (2 + 7 * r + 6) = S.2.2.1.getD r (-5)) ∧ (∀ s, s < 26 → f (212 + 3 * s) = nI (nthS S s).length ∧ ∀ j, j < (nthS S s).length → f (212 + 3 * s + 1 + j) = (nthS S s).getD j (-5)) ∧ ∀ w, w < S.2.2.2.2.1.length → f (290 + 14 * w) = S.2.2.2.2.2.getD w (-5) ∧ f (290 + 14 * w + 1) = nI (nthW S w).length ∧ ∀ j, j < (nthW S w).length → f (290 + 14 * w + 2 + j) = (nthW S w).getD j (-5)
def inB (v lo hi : Int64) : Bool := decide (lo ≤ v ∧ v ≤ hi)
theorem l_le {a b : Int64} : a ≤ b ↔ a.toInt ≤ b.toInt := Int64.le_iff_toInt_le
theorem l_lt {a b : Int64} : a < b ↔ a.toInt < b.toInt := Int64.lt_iff_toInt_lt
theorem i_l (a : Int32) : a.toInt64.toInt = a.toInt := Int32.toInt_toInt64 a
theorem inB_i {v lo hi : Int32} : inB v.toInt64 lo.toInt64 hi.toInt64 = decide (lo ≤ v ∧ v ≤ hi) := by
  unfold inB
  rw [decide_eq_decide, l_le, l_le, i_l, i_l, i_l, i_le, i_le]
section ARF
variable {X : Cx} {cc : ByteArray} {nL : Nat} {own : String} {Ts : List Cond} {R : Room} {k1 k2 pc : Nat} {lv : List (Nat × Value)} {st : List Value} {Ms : List Md}
theorem v_fald (C : okx X cc nL own Ts R) {a cap : Nat} {f : Nat → Int32} (i : Nat) (hi : Ms[i]? = some (arF (XI X) a cap f)) {x : Int32} (k : Nat) (hx : x = nI k) (hk : k < cap ∧ cap < 1000000000) (hdg : decode cc pc = .ok (.iaload, 1)) (kk : V X k1 k2 (pc + 1) lv (.int (f k) :: st) Ms) : V X k1 k2 pc lv (.int x :: .ref a :: st) Ms := by
  subst hx
  refine v_iald C i hi (vp_in_nI hk.1 (by omega)) hdg ?_
  rw [nI_clamp (by omega)]
  exact kk
theorem v_fast (C : okx X cc nL own Ts R) {a cap : Nat} {f : Nat → Int32} (i : Nat) (hi : Ms[i]? = some (arF (XI X) a cap f)) {x y : Int32} (k : Nat) (hx : x = nI k) (hk : k < cap ∧ cap < 1000000000) (hdg : decode cc pc = .ok (.iastore, 1)) (kk : V X k1 k2 (pc + 1) lv st (Ms.set i (arF (XI X) a cap (upd f k y)))) : V X k1 k2 pc lv (.int y :: .int x :: .ref a :: st) Ms := by
  subst hx
  refine v_iast C i hi (vp_in_nI hk.1 (by omega)) hdg ?_
  rw [nI_clamp (by omega)]
  exact kk
end ARF
theorem in_f1 {v lo hi : Int64} (h : lg_cmp v lo < 0) : bI (inB v lo hi) = 0 := by
  have h := (lg_cmp_lt _ _).mp h
  unfold inB; rw [decide_eq_false (fun z => by have h2 := l_le.mp z.1; rw [l_lt] at h; omega)]; rfl
theorem in_f2 {v lo hi : Int64} (h : 0 < lg_cmp v hi) : bI (inB v lo hi) = 0 := by
  have h := (lg_cmp_gt _ _).mp h
  unfold inB; rw [decide_eq_false (fun z => by have h2 := l_le.mp z.2; rw [l_lt] at h; omega)]; rfl
theorem in_t {v lo hi : Int64} (h1 : ¬ lg_cmp v lo < 0) (h2 : ¬ 0 < lg_cmp v hi) : bI (inB v lo hi) = 1 := by
  rw [lg_cmp_lt, l_lt] at h1
  rw [lg_cmp_gt, l_lt] at h2
  unfold inB; rw [decide_eq_true ⟨l_le.mpr (by omega), l_le.mpr (by omega)⟩]; rfl
theorem inB_n {i : Int32} {n : Nat} {L : List (List Int32)} (hn : n = L.length) (hN : n < 1000000) : inB i.toInt64 0 ((nI n).toInt64 - 1) = hasL L i := by
  subst hn
  unfold inB hasL
  rw [decide_eq_decide]
  have e1 : ((nI L.length).toInt64 - 1).toInt = (L.length : Int) - 1 := by
    rw [Int64.toInt_sub, i_l, i_n (by omega), show (1 : Int64).toInt = 1 from rfl]
    rw [Int.bmod_eq_of_le (by omega) (by omega)]
  rw [l_le, l_le, i_l, e1, show (0 : Int64).toInt = 0 from rfl, i_lt, i_0, i_cl]
  omega
theorem low_ne {x : Int32} (h : low x) : ¬ x = -5 := fun z => by rw [z] at h; exact absurd h.1 (by decide)
theorem hldL_len {S : Bk} {xs : List Int32} {I P : Nat} (hw : wfB S) (hI : I < S.1.length) (h : hldL S xs I P = true) : P + (nthR S I).length ≤ xs.length := by
  have h := of_decide_eq_true h
  have hr := hw.2.2.2.2.2.2.1 I hI
  have hl := hr.1
  have hlt : (nthR S I).length - 1 < (nthR S I).length := by omega
  have h2 := h _ hlt
  have h3 : P + ((nthR S I).length - 1) < xs.length := by
    refine at_lt (fun z => ?_)
    rw [z] at h2
    refine low_ne (hr.2.2.1 _ (List.getElem_mem hlt)) ?_
    rw [← gd_in (d := -5) hlt]
    exact h2
  omega
theorem hldL_f {S : Bk} {xs : List Int32} {I P : Nat} (hw : wfB S) (hI : I < S.1.length) (h : ¬ P + (nthR S I).length ≤ xs.length) : hldL S xs I P = false := by
  cases hq : hldL S xs I P with
  | false => rfl
  | true => exact absurd (hldL_len hw hI hq) h
theorem bst_rk (S : Bk) (xs : List Int32) (P : Nat) : ∀ n, ((bst S xs P n).1 = -5 ∧ (bst S xs P n).2 = 0) ∨ ∃ I, I < n ∧ bst S xs P n = (nI I, rk S I)
  | 0 => Or.inl ⟨rfl, rfl⟩
  | n + 1 => by
    by_cases h : (bst S xs P n).2 < rk S n ∧ hld S xs n P = true
    · exact Or.inr ⟨n, by omega, bst_yes h.1 h.2⟩
    · rw [bst_no h]
      rcases bst_rk S xs P n with h | ⟨I, h1, h2⟩
      · exact Or.inl h
      · exact Or.inr ⟨I, by omega, h2⟩
theorem rk_n {S : Bk} {k : Nat} : rk S k = nI (2 * (nthR S k).length + (if S.2.2.1.getD k (-5) = 0 then 0 else 1)) := by
  unfold rk nthR
  rw [show (2 : Int32) = nI 2 from rfl, pk_mul]
  split
  · rw [show (0 : Int32) = nI 0 from rfl, nI_add]
  · rw [show (1 : Int32) = nI 1 from rfl, nI_add]
theorem rk_pos {S : Bk} {k : Nat} (hw : wfB S) (hk : k < S.1.length) : 0 < rk S k := by
  have h := hw.2.2.2.2.2.2.1 k hk
  rw [rk_n, show (0 : Int32) = nI 0 from rfl]
  refine nI_lt (by omega) ?_
  split <;> omega
