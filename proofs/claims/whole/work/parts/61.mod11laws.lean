/-! entries that are added to the model's row -/
abbrev Ye : Type := Nat × List Int32 × Int32
def ye0 : Ye := (0, [], 0)
/-- state, entries beyond the room, whether one was there already -/
abbrev Me : Type := Bk × List Ye × Bool
def byP (xs : List Int32) (d : Int32) (e : Ye) : Bool := decide (e.2.1 = xs) && decide (e.2.2 = d)
def byd (B : List Ye) (xs : List Int32) (d : Int32) : Bool := B.any (byP xs d)
theorem byd_add {B : List Ye} {xs : List Int32} {d : Int32} {k : Nat} (h : k < B.length) : byd (B.take (k + 1)) xs d = (byd (B.take k) xs d || byP xs d (B.getD k ye0)) := by
  unfold byd
  rw [List.take_succ_eq_append_getElem h, List.any_append, gd_in h]
  simp
def moR (ts : List Int32) (B : List Ye) (q : Nat → Int32) : Prop := ∀ i, i < B.length → q (3 * i) = nI (B.getD i ye0).1 ∧ q (3 * i + 1) = nI (B.getD i ye0).2.1.length ∧ q (3 * i + 2) = (B.getD i ye0).2.2 ∧ pcT ts (B.getD i ye0).1 (B.getD i ye0).2.1
theorem gd_app1 {α : Type} {l : List α} {a d : α} {i : Nat} (h : i < l.length) : (l ++ [a]).getD i d = l.getD i d := by
  rw [gd_in (by rw [List.length_append]; omega), gd_in h, List.getElem_append_left h]
theorem gd_app2 {α : Type} {l : List α} {a d : α} : (l ++ [a]).getD l.length d = a := by
  rw [gd_in (by rw [List.length_append, List.length_singleton]; omega), List.getElem_append_right (Nat.le_refl _)]
  simp
theorem len_a1 {α : Type} {l : List α} {a : α} : (l ++ [a]).length = l.length + 1 := by rw [List.length_append]; rfl
def gbQ (q : Nat → Int32) (n F l : Nat) (d : Int32) : Nat → Int32 := upd (upd (upd q (3 * n) (nI F)) (3 * n + 1) (nI l)) (3 * n + 2) d
theorem moR_add {ts : List Int32} {B : List Ye} {q : Nat → Int32} {F : Nat} {xs : List Int32} {d : Int32} (h : moR ts B q) (hp : pcT ts F xs) : moR ts (B ++ [(F, xs, d)]) (gbQ q B.length F xs.length d) := by
  intro i hi
  rw [len_a1] at hi
  unfold gbQ
  by_cases e : i < B.length
  · rw [gd_app1 e, pk_un (by omega), pk_un (by omega), pk_un (by omega), pk_un (by omega), pk_un (by omega), pk_un (by omega), pk_un (by omega), pk_un (by omega), pk_un (by omega)]
    exact h i e
  · have e2 : i = B.length := by omega
    subst e2
    rw [gd_app2, pk_un (by omega), pk_un (by omega), pk_us, pk_un (by omega), pk_us, pk_us]
    exact ⟨rfl, rfl, rfl, hp⟩
/-- numbers of a list written into a row -/
def wrL (f : Nat → Int32) (A : Nat) (xs : List Int32) (k : Nat) : Nat → Int32 := fun j => if A ≤ j ∧ j < A + k then xs.getD (j - A) (-5) else f j
theorem wrL_0 {f : Nat → Int32} {A : Nat} {xs : List Int32} : wrL f A xs 0 = f := by
  funext j
  exact if_neg (by omega)
theorem wrL_s {f : Nat → Int32} {A : Nat} {xs : List Int32} {k : Nat} : upd (wrL f A xs k) (A + k) (xs.getD k (-5)) = wrL f A xs (k + 1) := by
  funext j
  unfold upd wrL
  by_cases h : j = A + k
  · rw [if_pos h, if_pos (by omega), h, Nat.add_sub_cancel_left]
  · rw [if_neg h]
    by_cases h2 : A ≤ j ∧ j < A + k
    · rw [if_pos h2, if_pos (by omega)]
    · rw [if_neg h2, if_neg (by omega)]
theorem wrL_in {f : Nat → Int32} {A k i : Nat} {xs : List Int32} (h : i < k) : wrL f A xs k (A + i) = xs.getD i (-5) := by
  unfold wrL
  rw [if_pos (by omega), Nat.add_sub_cancel_left]
theorem wrL_out {f : Nat → Int32} {A k j : Nat} {xs : List Int32} (h : j < A ∨ A + k ≤ j) : wrL f A xs k j = f j := if_neg (by omega)
def adRB (S : Bk) (xs : List Int32) (s d : Int32) : Bk := (S.1 ++ [xs], S.2.1 ++ [s], S.2.2.1 ++ [d], S.2.2.2.1, S.2.2.2.2.1, S.2.2.2.2.2)
def adWB (S : Bk) (xs : List Int32) (k : Int32) : Bk := (S.1, S.2.1, S.2.2.1, S.2.2.2.1, S.2.2.2.2.1 ++ [xs], S.2.2.2.2.2 ++ [k])
def adR (Z : Me) (F : Nat) (xs : List Int32) (s d : Int32) : Me := (if Z.1.1.length = 30 then Z.1 else adRB Z.1 xs s d, if Z.1.1.length = 30 then Z.2.1 ++ [(F, xs, d)] else Z.2.1, Z.2.2 || (byd Z.2.1 xs d || hasRl Z.1.1 Z.1.2.2.1 xs d))
def adW (Z : Me) (F : Nat) (xs : List Int32) (k : Int32) : Me := (if Z.1.2.2.2.2.1.length = 20 then Z.1 else adWB Z.1 xs k, if Z.1.2.2.2.2.1.length = 20 then Z.2.1 ++ [(F, xs, -5)] else Z.2.1, Z.2.2 || (byd Z.2.1 xs (-5) || hasWd Z.1 xs))
def adG (Z : Me) (s : Nat) (xs : List Int32) : Me := ((Z.1.1, Z.1.2.1, Z.1.2.2.1, Z.1.2.2.2.1.set s xs, Z.1.2.2.2.2.1, Z.1.2.2.2.2.2), Z.2)
def tmB (Z : Me) : Bool := decide (0 < Z.2.1.length)
def meR (Z : Me) (ts : List Int32) (f q : Nat → Int32) : Prop := allR Z.1 f ∧ moR ts Z.2.1 q
def rul1 (xs : List Int32) (s d : Int32) : Prop := 1 ≤ xs.length ∧ xs.length ≤ 4 ∧ (∀ x ∈ xs, low x) ∧ (s = 0 ∨ (65 ≤ s ∧ s ≤ 90)) ∧ 0 ≤ d ∧ d ≤ 5
def adRF (f : Nat → Int32) (n : Nat) (xs : List Int32) (s d : Int32) : Nat → Int32 := upd (upd (upd (wrL (upd f (2 + 7 * n) (nI xs.length)) (2 + 7 * n + 1) xs xs.length) (2 + 7 * n + 5) (sgn0 s)) (2 + 7 * n + 6) d) 0 (nI (n + 1))
theorem allR_addR {S : Bk} {f : Nat → Int32} {xs : List Int32} {s d : Int32} (h : allR S f) (hx : rul1 xs s d) (hn : S.1.length < 30) : allR (adRB S xs s d) (adRF f S.1.length xs s d) := by
  obtain ⟨hw, g0, g1, hR, hS, hW⟩ := h
  obtain ⟨w1, w2, w3, w4, w5, w6, w7, w8, w9⟩ := hw
  obtain ⟨x1, x2, x3, x4, x5, x6⟩ := hx
  have lo : ∀ j, ¬ j = 0 → (j < 2 + 7 * S.1.length ∨ 2 + 7 * S.1.length + 7 ≤ j) → adRF f S.1.length xs s d j = f j := fun j h0 hj => by
    unfold adRF
    rw [pk_un h0, pk_un (by omega), pk_un (by omega), wrL_out (by omega), pk_un (by omega)]
  have hl : (adRB S xs s d).1.length = S.1.length + 1 := len_a1
  have e1 : ∀ r, r < S.1.length → nthR (adRB S xs s d) r = nthR S r := fun r hr => gd_app1 hr
  have e2 : nthR (adRB S xs s d) S.1.length = xs := gd_app2
  have e3 : ∀ r, r < S.1.length → (adRB S xs s d).2.1.getD r (-5) = S.2.1.getD r (-5) := fun r hr => gd_app1 (by omega)
  have e4 : (adRB S xs s d).2.1.getD S.1.length (-5) = s := by
    rw [← w2]
    exact gd_app2
  have e5 : ∀ r, r < S.1.length → (adRB S xs s d).2.2.1.getD r (-5) = S.2.2.1.getD r (-5) := fun r hr => gd_app1 (by omega)
  have e6 : (adRB S xs s d).2.2.1.getD S.1.length (-5) = d := by
    rw [← w3]
    exact gd_app2
  refine ⟨⟨by rw [hl]; omega, by rw [hl, ← w2]; exact len_a1, by rw [hl, ← w3]; exact len_a1, w4, w5, w6, fun r hr => ?_, w8, w9⟩, ?_, ?_, fun r hr => ?_, fun t ht => ?_, fun w (hw3 : w < S.2.2.2.2.1.length) => ?_⟩
  · rw [hl] at hr
    by_cases e : r < S.1.length
    · rw [e1 r e, e3 r e, e5 r e]
      exact w7 r e
    · have e7 : r = S.1.length := by omega
      subst e7
      rw [e2, e4, e6]
      exact ⟨x1, x2, x3, x4, x5, x6⟩
  · rw [hl]
    exact pk_us
  · rw [lo 1 (by omega) (by omega)]
    exact g1
  · rw [hl] at hr
    by_cases e : r < S.1.length
    · obtain ⟨q1, q2, q3, q4⟩ := hR r e
      have hl4 := (w7 _ e).2.1
      rw [e1 r e, e3 r e, e5 r e]
      exact ⟨by rw [lo _ (by omega) (by omega)]; exact q1, fun j hj => by rw [lo _ (by omega) (by omega)]; exact q2 j hj, by rw [lo _ (by omega) (by omega)]; exact q3, by rw [lo _ (by omega) (by omega)]; exact q4⟩
    · have e7 : r = S.1.length := by omega
      subst e7
      rw [e2, e4, e6]
      unfold adRF
      refine ⟨?_, fun j hj => ?_, ?_, ?_⟩
      · rw [pk_un (by omega), pk_un (by omega), pk_un (by omega), wrL_out (by omega), pk_us]
      · rw [pk_un (by omega), pk_un (by omega), pk_un (by omega), wrL_in hj]
      · rw [pk_un (by omega), pk_un (by omega), pk_us]
      · rw [pk_un (by omega), pk_us]
  · obtain ⟨q1, q2⟩ := hS t ht
    have hl4 := (w8 t ht).2.1
    exact ⟨by rw [lo _ (by omega) (by omega)]; exact q1, fun j (hj : j < (nthS S t).length) => by rw [lo _ (by omega) (by omega)]; exact q2 j hj⟩
  · obtain ⟨q1, q2, q3⟩ := hW w hw3
    have hl4 := (w9 _ hw3).2.1
    exact ⟨by rw [lo _ (by omega) (by omega)]; exact q1, by rw [lo _ (by omega) (by omega)]; exact q2, fun j (hj : j < (nthW S w).length) => by rw [lo _ (by omega) (by omega)]; exact q3 j hj⟩
def wrd1 (xs : List Int32) (k : Int32) : Prop := 1 ≤ xs.length ∧ xs.length ≤ 12 ∧ (∀ x ∈ xs, low x) ∧ 0 ≤ k ∧ k ≤ 2
def adWF (f : Nat → Int32) (n : Nat) (xs : List Int32) (k : Int32) : Nat → Int32 := upd (wrL (upd (upd f (290 + 14 * n) k) (290 + 14 * n + 1) (nI xs.length)) (290 + 14 * n + 2) xs xs.length) 1 (nI (n + 1))
theorem allR_addW {S : Bk} {f : Nat → Int32} {xs : List Int32} {k : Int32} (h : allR S f) (hx : wrd1 xs k) (hn : S.2.2.2.2.1.length < 20) : allR (adWB S xs k) (adWF f S.2.2.2.2.1.length xs k) := by
  obtain ⟨hw, g0, g1, hR, hS, hW⟩ := h
  obtain ⟨w1, w2, w3, w4, w5, w6, w7, w8, w9⟩ := hw
  have lo : ∀ j, ¬ j = 1 → j < 290 + 14 * S.2.2.2.2.1.length → adWF f S.2.2.2.2.1.length xs k j = f j := fun j h0 hj => by
    unfold adWF
    rw [pk_un h0, wrL_out (by omega), pk_un (by omega), pk_un (by omega)]
  have hl : (adWB S xs k).2.2.2.2.1.length = S.2.2.2.2.1.length + 1 := len_a1
  have e1 : ∀ r, r < S.2.2.2.2.1.length → nthW (adWB S xs k) r = nthW S r := fun r hr => gd_app1 hr
  have e2 : nthW (adWB S xs k) S.2.2.2.2.1.length = xs := gd_app2
  have e3 : ∀ r, r < S.2.2.2.2.1.length → (adWB S xs k).2.2.2.2.2.getD r (-5) = S.2.2.2.2.2.getD r (-5) := fun r hr => gd_app1 (by omega)
  have e4 : (adWB S xs k).2.2.2.2.2.getD S.2.2.2.2.1.length (-5) = k := by
    rw [← w6]
    exact gd_app2
  refine ⟨⟨w1, w2, w3, w4, by rw [hl]; omega, by rw [hl, ← w6]; exact len_a1, w7, w8, fun r hr => ?_⟩, ?_, ?_, fun r (hr : r < S.1.length) => ?_, fun t ht => ?_, fun w hw3 => ?_⟩
  · rw [hl] at hr
    by_cases e : r < S.2.2.2.2.1.length
    · rw [e1 r e, e3 r e]
      exact w9 r e
    · have e7 : r = S.2.2.2.2.1.length := by omega
      subst e7
      rw [e2, e4]
      exact hx
  · rw [lo 0 (by omega) (by omega)]
    exact g0
  · rw [hl]
    exact pk_us
  · obtain ⟨q1, q2, q3, q4⟩ := hR r hr
    have hl4 := (w7 _ hr).2.1
    exact ⟨by rw [lo _ (by omega) (by omega)]; exact q1, fun j (hj : j < (nthR S r).length) => by rw [lo _ (by omega) (by omega)]; exact q2 j hj, by rw [lo _ (by omega) (by omega)]; exact q3, by rw [lo _ (by omega) (by omega)]; exact q4⟩
  · obtain ⟨q1, q2⟩ := hS t ht
    have hl4 := (w8 t ht).2.1
    exact ⟨by rw [lo _ (by omega) (by omega)]; exact q1, fun j (hj : j < (nthS S t).length) => by rw [lo _ (by omega) (by omega)]; exact q2 j hj⟩
  · rw [hl] at hw3
    by_cases e : w < S.2.2.2.2.1.length
    · obtain ⟨q1, q2, q3⟩ := hW w e
      have hl4 := (w9 _ e).2.1
      rw [e1 w e, e3 w e]
      exact ⟨by rw [lo _ (by omega) (by omega)]; exact q1, by rw [lo _ (by omega) (by omega)]; exact q2, fun j hj => by rw [lo _ (by omega) (by omega)]; exact q3 j hj⟩
    · have e7 : w = S.2.2.2.2.1.length := by omega
      subst e7
      rw [e2, e4]
      unfold adWF
      refine ⟨?_, ?_, fun j hj => ?_⟩
      · rw [pk_un (by omega), wrL_out (by omega), pk_un (by omega), pk_us]
      · rw [pk_un (by omega), wrL_out (by omega), pk_us]
      · rw [pk_un (by omega), wrL_in hj]
def adGF (f : Nat → Int32) (s : Nat) (xs : List Int32) : Nat → Int32 := wrL (upd f (212 + 3 * s) (nI xs.length)) (212 + 3 * s + 1) xs xs.length
theorem allR_addG {S : Bk} {f : Nat → Int32} {s : Nat} {xs : List Int32} (h : allR S f) (hs : s < 26) (hx : 1 ≤ xs.length ∧ xs.length ≤ 2 ∧ ∀ y ∈ xs, low y) : allR (S.1, S.2.1, S.2.2.1, S.2.2.2.1.set s xs, S.2.2.2.2.1, S.2.2.2.2.2) (adGF f s xs) := by
  refine allR_sign h hs hx ?_ (fun j hj => ?_) (fun j hj => ?_)
  · unfold adGF
    rw [wrL_out (by omega), pk_us]
  · unfold adGF
    rw [wrL_in hj]
  · have := hx.2.1
    unfold adGF
    rw [wrL_out (by omega), pk_un (by omega)]
def hasRk (S : Bk) (xs : List Int32) (d : Int32) (r : Nat) : Bool := (List.range r).any (fun k => decide (S.2.2.1.getD k (-5) = d) && decide (S.1.getD k [] = xs))
theorem hasRk_s {S : Bk} {xs : List Int32} {d : Int32} {r : Nat} : hasRk S xs d (r + 1) = (hasRk S xs d r || (decide (S.2.2.1.getD r (-5) = d) && decide (S.1.getD r [] = xs))) := by
  unfold hasRk
  rw [List.range_succ, List.any_append]
  simp
theorem hasRk_e {S : Bk} {xs : List Int32} {d : Int32} : hasRk S xs d S.1.length = hasRl S.1 S.2.2.1 xs d := rfl
def hasWk (S : Bk) (xs : List Int32) (r : Nat) : Bool := (List.range r).any (fun k => decide (nthW S k = xs))
theorem hasWk_s {S : Bk} {xs : List Int32} {r : Nat} : hasWk S xs (r + 1) = (hasWk S xs r || decide (nthW S r = xs)) := by
  unfold hasWk
  rw [List.range_succ, List.any_append]
  simp
theorem hasWk_e {S : Bk} {xs : List Int32} : hasWk S xs S.2.2.2.2.1.length = hasWd S xs := by
  unfold hasWd
  cases hf : fdo xs S.2.2.2.2.1 0 with
  | none =>
    have h := fdo_isn hf
    refine List.any_eq_false.mpr fun k hk => ?_
    rw [show decide (nthW S k = xs) = false from decide_eq_false (h k (List.mem_range.mp hk))]
    exact Bool.false_ne_true
  | some k =>
    obtain ⟨h1, h2, h3⟩ := fdo_lt hf
    exact List.any_eq_true.mpr ⟨k, List.mem_range.mpr (by omega), decide_eq_true h3⟩
theorem bI_or {a b : Bool} : bI (a || b) = if bI a = 0 then bI b else 1 := by cases a <;> rfl
theorem nI_3 (i : Nat) : nI (3 * i) + 3 = nI (3 * (i + 1)) := nI_add _ 3
