def fdo (x : List Int32) : List (List Int32) → Nat → Option Nat
  | [], _ => none
  | y :: L, k => if y = x then some k else fdo x L (k + 1)
def opI : Option Nat → Int32
  | none => -5
  | some k => nI k
def cnt (x : List Int32) (L : List (List Int32)) : Nat := (L.filter (fun y => decide (y = x))).length
def sumL (L : List (List Int32)) : Nat := (L.map (fun y => y.length)).sum
def adLn (most w : Nat) (L : List (List Int32)) (xs : List Int32) : List (List Int32) := if L.length < most then L ++ [xs.take w] else L
def ptL (w : Nat) (L : List (List Int32)) (i : Int32) (xs : List Int32) : List (List Int32) := if hasL L i = true then L.set i.toNatClampNeg (xs.take w) else L
def poL (L : List (List Int32)) (i v : Int32) : List (List Int32) := if hasL L i = true then L.set i.toNatClampNeg [v] else L
def swG {α : Type} (d : α) (L : List α) (i j : Nat) : List α := (L.set i (L.getD j d)).set j (L.getD i d)
def mvUG {α : Type} (d : α) : Nat → Nat → List α → List α
  | 0, _, L => L
  | n + 1, k, L => mvUG d n (k + 1) (swG d L k (k + 1))
def mvDG {α : Type} (d : α) : Nat → Nat → List α → List α
  | 0, _, L => L
  | n + 1, k, L => mvDG d n (k - 1) (swG d L k (k - 1))
def mvG {α : Type} (d : α) (L : List α) (I J : Nat) : List α := mvDG d (I - J) I (mvUG d (J - I) I L)
def rmG {α : Type} (d : α) (L : List α) (I : Nat) : List α := (mvG d L I (L.length - 1)).dropLast
theorem swG_len {α : Type} {d : α} {L : List α} {i j : Nat} : (swG d L i j).length = L.length := by unfold swG; rw [List.length_set, List.length_set]
theorem mvUG_step {α : Type} {d : α} {J k : Nat} {ys : List α} (h : k < J) : mvUG d (J - k) k ys = mvUG d (J - (k + 1)) (k + 1) (swG d ys k (k + 1)) := by
  rw [show J - k = (J - (k + 1)) + 1 by omega]; rfl
theorem mvDG_step {α : Type} {d : α} {J k : Nat} {ys : List α} (h : J < k + 1) : mvDG d (k + 1 - J) (k + 1) ys = mvDG d (k - J) k (swG d ys (k + 1) k) := by
  rw [show k + 1 - J = (k - J) + 1 by omega]; rfl
theorem v_rowsrl {X : Cx} {k1 k2 pc : Nat} {lv : List (Nat × Value)} {st : List Value} {Ms : List Md} {cI : ClassId} {rs c ca l la most w : Nat} {L : List (List Int32)} (i : Nat) (hi : Ms[i]? = some (rowsM cI rs c ca l la most w L)) (kk : (∃ C, rl most w L C) → V X k1 k2 pc lv st Ms) : V X k1 k2 pc lv st Ms := fun H locs ls ww n a s h => by
  obtain ⟨C, hC, -⟩ := rows_at.mp (ww _ (List.mem_of_getElem? hi))
  exact kk ⟨C, hC⟩ H locs ls ww n a s h
theorem bI_0 {b : Bool} (h : bI b = 0) : b = false := by cases b; rfl; exact absurd h (by decide)
theorem bI_1 {b : Bool} (h : ¬ bI b = 0) : b = true := by cases b; exact absurd rfl h; rfl
theorem gl_n {L : List (List Int32)} {k : Nat} (hk : k < L.length) (hN : L.length < 1000000000) : gt (lens L) (nI k) = nI (L.getD k []).length := by
  rw [gt_n (by omega), gd_in (by rw [lens_len]; exact hk), gd_in hk]
  simp [lens]
theorem gg_n {L : List (List Int32)} {k j : Nat} (hk : k < L.length) (hN : L.length < 1000000000) (hj : j < 1000000000) : gg L (nI k) (nI j) = (L.getD k []).getD j (-5) := by
  unfold gg
  rw [ln_n (by omega), gt_n (by omega)]
theorem like_0 {x y : List Int32} (hx : x.length < 1000000000) (hy : y.length < 1000000000) (c : ¬ nI x.length = nI y.length) : bI (decide (x = y)) = 0 := by
  rw [decide_eq_false (fun z => c (by rw [z]))]; rfl
theorem like_len {x y : List Int32} (hx : x.length < 1000000000) (hy : y.length < 1000000000) (c : nI x.length = nI y.length) : x.length = y.length := (nI_eq (by omega) (by omega)).mp c
theorem like_ne {x y : List Int32} {k : Nat} (h : ¬ x.getD k (-5) = y.getD k (-5)) : bI (decide (x = y)) = 0 := by
  rw [decide_eq_false (fun z => h (by rw [z]))]; rfl
theorem like_1 {x y : List Int32} (hl : x.length = y.length) (h : ∀ j, j < y.length → x.getD j (-5) = y.getD j (-5)) : bI (decide (x = y)) = 1 := by
  have : x = y := List.ext_getElem hl fun j h1 h2 => by
    have := h j h2
    rw [gd_in h1, gd_in h2] at this
    exact this
  rw [decide_eq_true this]; rfl
theorem fdo_hit {x : List Int32} {L : List (List Int32)} {k : Nat} (hk : k < L.length) (h : L.getD k [] = x) : fdo x (L.drop k) k = some k := by
  rw [gd_in hk] at h
  rw [List.drop_eq_getElem_cons hk]
  exact if_pos h
theorem fdo_step {x : List Int32} {L : List (List Int32)} {k : Nat} (hk : k < L.length) (h : ¬ L.getD k [] = x) : fdo x (L.drop k) k = fdo x (L.drop (k + 1)) (k + 1) := by
  rw [gd_in hk] at h
  rw [List.drop_eq_getElem_cons hk]
  exact if_neg h
theorem cnt_hit {x : List Int32} {L : List (List Int32)} {k : Nat} (hk : k < L.length) (h : L.getD k [] = x) : cnt x (L.drop k) = cnt x (L.drop (k + 1)) + 1 := by
  rw [gd_in hk] at h
  rw [List.drop_eq_getElem_cons hk]
  unfold cnt
  rw [List.filter_cons_of_pos (by simpa using h), List.length_cons]
theorem cnt_step {x : List Int32} {L : List (List Int32)} {k : Nat} (hk : k < L.length) (h : ¬ L.getD k [] = x) : cnt x (L.drop k) = cnt x (L.drop (k + 1)) := by
  rw [gd_in hk] at h
  rw [List.drop_eq_getElem_cons hk]
  unfold cnt
  rw [List.filter_cons_of_neg (by simpa using h)]
theorem sumL_step {L : List (List Int32)} {k : Nat} (hk : k < L.length) : sumL (L.drop k) = (L.getD k []).length + sumL (L.drop (k + 1)) := by
  rw [gd_in hk, List.drop_eq_getElem_cons hk]
  unfold sumL
  rw [List.map_cons, List.sum_cons]
theorem lens_add {most : Nat} {L : List (List Int32)} (h : L.length < most) : adL most (lens L) 0 = lens (L ++ [[]]) := by
  unfold adL
  rw [lens_len, if_pos h]
  simp [lens]
  rfl
theorem rl_add {most w : Nat} {L : List (List Int32)} {C : List Int32} (hC : rl most w L C) (h : L.length < most) : rl most w (L ++ [[]]) C := by
  refine ⟨hC.1, hC.2.1, by rw [List.length_append, List.length_singleton]; omega, fun i x hi => ?_⟩
  by_cases hl : i < L.length
  · rw [List.getElem?_append_left hl] at hi
    exact hC.2.2.2 i x hi
  · have h3 := (List.getElem?_eq_some_iff.mp hi).1
    rw [List.length_append, List.length_singleton] at h3
    rw [List.getElem?_append_right (by omega), show i - L.length = 0 by omega] at hi
    cases hi
    exact ⟨Nat.zero_le _, fun j hj => absurd hj (Nat.not_lt_zero j)⟩
theorem lens_set {L : List (List Int32)} {k : Nat} {x : List Int32} (hk : k < 1000000000) : stL (lens L) (nI k) (nI x.length) = lens (L.set k x) := by
  unfold stL
  rw [if_neg (nI_pos (by omega)), nI_clamp (by omega)]
  unfold lens
  rw [List.map_set]
/-- line I is written to its first k numbers -/
def prl (most w I k : Nat) (xs C0 C : List Int32) : Prop := C.length = most * w ∧ (∀ p, (p < I * w ∨ I * w + k ≤ p) → C.getD p 0 = C0.getD p 0) ∧ ∀ j, j < k → C.getD (I * w + j) 0 = xs.getD j 0
theorem st_n {xs : List Int32} {k : Nat} (hk : k < 1000000000) (v : Int32) : stL xs (nI k) v = xs.set k v := by
  unfold stL
  rw [if_neg (nI_pos (by omega)), nI_clamp (by omega)]
theorem gd_set {C : List Int32} {p q : Nat} {v : Int32} (hp : p < C.length) : (C.set p v).getD q 0 = if q = p then v else C.getD q 0 := by
  by_cases h : q = p
  · subst h
    rw [if_pos rfl, gd_in (by rw [List.length_set]; exact hp), List.getElem_set_self]
  · rw [if_neg h, List.getD_eq_getElem?_getD, List.getD_eq_getElem?_getD, List.getElem?_set_ne (fun z => h z.symm)]
theorem prl_step {most w I k : Nat} {xs C0 C : List Int32} (h : prl most w I k xs C0 C) (hk : k < xs.length) (hI : I * w + k < most * w) : prl most w I (k + 1) xs C0 (C.set (I * w + k) (xs.getD k (-5))) := by
  obtain ⟨h1, h2, h3⟩ := h
  refine ⟨by rw [List.length_set]; exact h1, fun p hp => ?_, fun j hj => ?_⟩
  · rw [gd_set (by omega), if_neg (by omega)]
    exact h2 p (by omega)
  · rw [gd_set (by omega)]
    by_cases e : j = k
    · rw [if_pos (by omega), e, gd_in hk, gd_in hk]
    · rw [if_neg (by omega)]
      exact h3 j (by omega)
theorem prl_0 {most w I : Nat} {xs C0 : List Int32} (h : C0.length = most * w) : prl most w I 0 xs C0 C0 := ⟨h, fun _ _ => rfl, fun j hj => absurd hj (Nat.not_lt_zero j)⟩
theorem prl_end {most w I : Nat} {xs : List Int32} {L : List (List Int32)} {C0 C : List Int32} (hC : rl most w L C0) (h : prl most w I (min xs.length w) xs C0 C) : rl most w (L.set I (xs.take w)) C := by
  obtain ⟨h1, h2, h3⟩ := h
  refine ⟨hC.1, h1, by rw [List.length_set]; exact hC.2.2.1, fun i x hi => ?_⟩
  by_cases e : I = i
  · subst e
    have hl : I < L.length := by
      have := (List.getElem?_eq_some_iff.mp hi).1
      rwa [List.length_set] at this
    rw [List.getElem?_set_self hl] at hi
    cases hi
    refine ⟨by rw [List.length_take]; omega, fun j hj => ?_⟩
    rw [List.length_take] at hj
    rw [h3 j (by omega), gd_in (by omega), gd_in (by rw [List.length_take]; exact hj), List.getElem_take]
  · rw [List.getElem?_set_ne e] at hi
    obtain ⟨g1, g2⟩ := hC.2.2.2 i x hi
    refine ⟨g1, fun j hj => ?_⟩
    rw [h2 _ ?_]
    · exact g2 j hj
    · rcases Nat.lt_or_ge i I with q | q
      · left
        have : (i + 1) * w ≤ I * w := Nat.mul_le_mul_right w (by omega)
        rw [Nat.add_mul, Nat.one_mul] at this
        omega
      · right
        have : (I + 1) * w ≤ i * w := Nat.mul_le_mul_right w (by omega)
        rw [Nat.add_mul, Nat.one_mul] at this
        omega
theorem min_nI {a b : Nat} (ha : a < 1000000000) (hb : b < 1000000000) : (if nI b < nI a then nI b else nI a) = nI (min a b) := by
  by_cases h : b < a
  · rw [if_pos (nI_lt h (by omega)), Nat.min_eq_right (by omega)]
  · rw [if_neg (nI_nlt (by omega) (by omega)), Nat.min_eq_left (by omega)]
theorem mul_lt {I most w k : Nat} (hI : I < most) (hk : k < w) : I * w + k < most * w := by
  have : (I + 1) * w ≤ most * w := Nat.mul_le_mul_right w (by omega)
  rw [Nat.add_mul, Nat.one_mul] at this
  omega
theorem rl_one {most w I : Nat} {L : List (List Int32)} {C : List Int32} (hC : rl most w L C) (hI : I < L.length) (hw : 0 < w) (v : Int32) : rl most w (L.set I [v]) (C.set (I * w) v) := by
  have h0 := prl_step (prl_0 (I := I) (xs := [v]) hC.2.1) (show 0 < [v].length from Nat.one_pos) (mul_lt (Nat.lt_of_lt_of_le hI hC.2.2.1) hw)
  have := prl_end (xs := [v]) (I := I) hC (by rw [show min [v].length w = 0 + 1 by simp; omega]; exact h0)
  rw [List.take_of_length_le (by simp; omega)] at this
  exact this
theorem rl_nil {most w : Nat} {L : List (List Int32)} {C : List Int32} (hC : rl most w L C) : rl most w [] C := ⟨hC.1, hC.2.1, Nat.zero_le _, fun i x h => by simp at h⟩
theorem rl_drop {most w : Nat} {L : List (List Int32)} {C : List Int32} (hC : rl most w L C) : rl most w L.dropLast C := ⟨hC.1, hC.2.1, by rw [List.length_dropLast]; have := hC.2.2.1; omega, fun i x h => hC.2.2.2 i x (by
  rw [List.getElem?_dropLast] at h
  split at h
  · exact h
  · cases h)⟩
theorem lens_drop (L : List (List Int32)) : (lens L).dropLast = lens L.dropLast := by unfold lens; rw [List.map_dropLast]
theorem ad_all {cap : Nat} : ∀ (ys xs : List Int32), aaL cap xs ys = xs ++ ys.take (cap - xs.length)
  | [], xs => by simp [aaL]
  | y :: ys, xs => by
    show aaL cap (adL cap xs y) ys = _
    rw [ad_all ys]
    unfold adL
    by_cases h : xs.length < cap
    · rw [if_pos h, List.length_append, List.length_singleton, show cap - xs.length = (cap - (xs.length + 1)) + 1 by omega, List.take_succ_cons, List.append_assoc]; rfl
    · rw [if_neg h, show cap - xs.length = 0 by omega]; simp
theorem lens_take {most : Nat} (L : List (List Int32)) : aaL most [] (lens L) = lens (L.take most) := by
  rw [ad_all]
  simp [lens, List.map_take]
/-- the first k numbers of another row -/
theorem rl_copy {most w most2 : Nat} {L2 : List (List Int32)} {C0 C C2 : List Int32} {L : List (List Int32)} (hC : rl most w L C0) (h2 : rl most2 w L2 C2) (hl : C.length = most * w) (h : ∀ p, p < (L2.take most).length * w → C.getD p 0 = C2.getD p 0) : rl most w (L2.take most) C := by
  refine ⟨hC.1, hl, by rw [List.length_take]; omega, fun i x hi => ?_⟩
  have hi2 := (List.getElem?_eq_some_iff.mp hi).1
  have hi3 : L2[i]? = some x := by
    rw [List.getElem?_take] at hi
    split at hi
    · exact hi
    · cases hi
  obtain ⟨g1, g2⟩ := h2.2.2.2 i x hi3
  refine ⟨g1, fun j hj => ?_⟩
  rw [h _ (mul_lt hi2 (by omega)), g2 j hj]
theorem sw_n {C : List Int32} {p q : Nat} (hp : p < C.length) (hq : q < C.length) (hN : C.length < 1000000000) : swL C (nI p) (nI q) = swG 0 C p q := by
  unfold swL swG
  rw [st_n (by omega), st_n (by omega), gt_n (by omega), gt_n (by omega), gd_in hp, gd_in hq, gd_in hp, gd_in hq]
theorem sw_len {xs : List Int32} {i j : Int32} : (swL xs i j).length = xs.length := by unfold swL; rw [stL_len, stL_len]
theorem gd_sw {C : List Int32} {p q x : Nat} (hp : p < C.length) (hq : q < C.length) : (swG 0 C p q).getD x 0 = if x = q then C.getD p 0 else if x = p then C.getD q 0 else C.getD x 0 := by
  unfold swG
  rw [gd_set (by rw [List.length_set]; exact hq), gd_set hp]
/-- k numbers of two lines have changed places -/
def prs (most w I J k : Nat) (C0 C : List Int32) : Prop := C.length = most * w ∧ ∀ p, C.getD p 0 = if I * w ≤ p ∧ p < I * w + k then C0.getD (J * w + (p - I * w)) 0 else if J * w ≤ p ∧ p < J * w + k then C0.getD (I * w + (p - J * w)) 0 else C0.getD p 0
theorem blk {I J w : Nat} (h : I < J) : I * w + w ≤ J * w := by
  have : (I + 1) * w ≤ J * w := Nat.mul_le_mul_right w (by omega)
  rw [Nat.add_mul, Nat.one_mul] at this
  exact this
theorem prs_0 {most w I J : Nat} {C0 : List Int32} (h : C0.length = most * w) : prs most w I J 0 C0 C0 := ⟨h, fun p => by rw [if_neg (by omega), if_neg (by omega)]⟩
theorem prs_step {most w I J k : Nat} {C0 C : List Int32} (h : prs most w I J k C0 C) (hk : k < w) (hI : I < most) (hJ : J < most) : prs most w I J (k + 1) C0 (swG 0 C (I * w + k) (J * w + k)) := by
  obtain ⟨h1, h2⟩ := h
  have b1 := mul_lt hI hk
  have b2 := mul_lt hJ hk
  refine ⟨by rw [swG_len]; exact h1, fun p => ?_⟩
  rw [gd_sw (by omega) (by omega), h2, h2, h2]
  have tri : I = J ∨ I * w + w ≤ J * w ∨ J * w + w ≤ I * w := by
    rcases Nat.lt_trichotomy I J with q | q | q
    · exact Or.inr (Or.inl (blk q))
    · exact Or.inl q
    · exact Or.inr (Or.inr (blk q))
  rcases tri with rfl | q | q
  · repeat' split
    all_goals first | rfl | omega | (congr 1; omega)
  · repeat' split
    all_goals first | rfl | omega | (congr 1; omega)
  · repeat' split
    all_goals first | rfl | omega | (congr 1; omega)
theorem gd_swG {L : List (List Int32)} {I J i : Nat} (hI : I < L.length) (hJ : J < L.length) : (swG [] L I J)[i]? = if i = J then some (L.getD I []) else if i = I then some (L.getD J []) else L[i]? := by
  unfold swG
  by_cases e : i = J
  · subst e
    rw [if_pos rfl, List.getElem?_set_self (by rw [List.length_set]; exact hJ)]
  · rw [if_neg e, List.getElem?_set_ne (fun z => e z.symm)]
    by_cases e2 : i = I
    · subst e2
      rw [if_pos rfl, List.getElem?_set_self hI]
    · rw [if_neg e2, List.getElem?_set_ne (fun z => e2 z.symm)]
theorem prs_end {most w I J : Nat} {L : List (List Int32)} {C0 C : List Int32} (hC : rl most w L C0) (h : prs most w I J w C0 C) (hI : I < L.length) (hJ : J < L.length) : rl most w (swG [] L I J) C := by
  obtain ⟨h1, h2⟩ := h
  refine ⟨hC.1, h1, by rw [swG_len]; exact hC.2.2.1, fun i x hi => ?_⟩
  rw [gd_swG hI hJ] at hi
  have gI := hC.2.2.2 I _ (List.getElem?_eq_getElem hI)
  have gJ := hC.2.2.2 J _ (List.getElem?_eq_getElem hJ)
  by_cases e : i = J
  · rw [if_pos e] at hi
    cases hi
    subst e
    rw [gd_in hI]
    refine ⟨gI.1, fun j hj => ?_⟩
    have hjw : j < w := Nat.lt_of_lt_of_le hj gI.1
    rw [h2, ← gI.2 j hj]
    by_cases q : I * w ≤ i * w + j ∧ i * w + j < I * w + w
    · rw [if_pos q]
      have : i = I := by
        rcases Nat.lt_trichotomy i I with z | z | z
        · have := blk (w := w) z; omega
        · exact z
        · have := blk (w := w) z; omega
      subst this
      congr 1; omega
    · rw [if_neg q, if_pos (by omega)]
      congr 1; omega
  · rw [if_neg e] at hi
    by_cases e2 : i = I
    · rw [if_pos e2] at hi
      cases hi
      subst e2
      rw [gd_in hJ]
      refine ⟨gJ.1, fun j hj => ?_⟩
      have hjw : j < w := Nat.lt_of_lt_of_le hj gJ.1
      rw [h2, ← gJ.2 j hj, if_pos (by omega)]
      congr 1; omega
    · rw [if_neg e2] at hi
      obtain ⟨g1, g2⟩ := hC.2.2.2 i x hi
      refine ⟨g1, fun j hj => ?_⟩
      rw [h2, if_neg ?_, if_neg ?_]
      · exact g2 j hj
      · rcases Nat.lt_trichotomy i J with z | z | z
        · have := blk (w := w) z; omega
        · exact absurd z e
        · have := blk (w := w) z; omega
      · rcases Nat.lt_trichotomy i I with z | z | z
        · have := blk (w := w) z; omega
        · exact absurd z e2
        · have := blk (w := w) z; omega
theorem lens_sw {L : List (List Int32)} {I J : Nat} (hI : I < L.length) (hJ : J < L.length) (hN : L.length < 1000000000) : swL (lens L) (nI I) (nI J) = lens (swG [] L I J) := by
  unfold swL
  rw [gl_n hI hN, gl_n hJ hN, lens_set (by omega), lens_set (by omega)]
  rfl
theorem sub5 : ¬ (0 : Int32) ≤ -5 := by decide
theorem adLn_put {most w : Nat} {L : List (List Int32)} {xs : List Int32} (hN : L.length < 1000000000) (h : L.length < most) : ptL w (L ++ [[]]) (nI L.length) xs = adLn most w L xs := by
  unfold ptL adLn
  rw [if_pos h, if_pos (by rw [hasL_n (by omega)]; simp), nI_clamp (by omega)]
  rw [List.set_append_right _ _ (Nat.le_refl _), Nat.sub_self]
  rfl
theorem ln_len {most w : Nat} {L : List (List Int32)} {C : List Int32} (hC : rl most w L C) {i : Int32} : (ln L i).length < 1000000000 := by
  rcases gt_lens (rl_N hC) i with ⟨k, -, -, -, h4⟩ | ⟨-, -, h4⟩
  · rw [h4]; exact Nat.lt_of_le_of_lt (rl_len hC) hC.1.2.1
  · rw [h4]; decide
theorem cp_lt {L : List (List Int32)} {i : Int32} {k : Nat} (hN : L.length < 1000000000) (hY : (ln L i).length < 1000000000) (hk : k ≤ (ln L i).length) (c : ¬ gt (lens L) i ≤ nI k) : k < (ln L i).length := by
  rcases gt_lens hN i with ⟨m, h1, h2, h3, h4⟩ | ⟨-, h3, h4⟩
  · rw [h3, ← h4] at c
    exact up_lt rfl hY hk c
  · have h5 : (-5 : Int32).toInt = -5 := by decide
    rw [h3, i_le, h5, i_n (by omega)] at c
    omega
theorem cp_end {L : List (List Int32)} {i : Int32} {k : Nat} (hN : L.length < 1000000000) (hY : (ln L i).length < 1000000000) (hk : k ≤ (ln L i).length) (c : gt (lens L) i ≤ nI k) : k = (ln L i).length := by
  rcases gt_lens hN i with ⟨m, h1, h2, h3, h4⟩ | ⟨-, h3, h4⟩
  · rw [h3, ← h4] at c
    exact up_end rfl hY hk c
  · rw [h4] at hk ⊢
    exact Nat.le_zero.mp hk
theorem cp_set {C1 C2 : List Int32} {n1 n2 k p : Nat} (h1 : C1.length = n1) (h2 : C2.length = n2) (hk : k < n1) (hk2 : k < n2) (h : ∀ p, p < k → C1.getD p 0 = C2.getD p 0) (hp : p < k + 1) : (C1.set k (C2.getD k (-5))).getD p 0 = C2.getD p 0 := by
  rw [gd_set (by omega)]
  by_cases e : p = k
  · rw [if_pos e, e, gd_in (by omega), gd_in (by omega)]
  · rw [if_neg e]; exact h p (by omega)
