theorem gd_st {α : Type} {l : List α} {i j : Nat} {a d : α} (hi : i < l.length) : (l.set i a).getD j d = if j = i then a else l.getD j d := by
  simp only [List.getD_eq_getElem?_getD]
  by_cases h : j = i
  · subst h
    rw [if_pos rfl, List.getElem?_set_self hi]
    rfl
  · rw [if_neg h, List.getElem?_set_ne (Ne.symm h)]
theorem swG_at {α : Type} {d : α} {L : List α} {i j k : Nat} (hi : i < L.length) (hj : j < L.length) : (swG d L i j).getD k d = if k = j then L.getD i d else if k = i then L.getD j d else L.getD k d := by
  unfold swG
  rw [gd_st (by rw [List.length_set]; exact hj)]
  by_cases h : k = j
  · rw [if_pos h, if_pos h]
  · rw [if_neg h, if_neg h, gd_st hi]
theorem mvUG_len {α : Type} {d : α} : ∀ (n k : Nat) (L : List α), (mvUG d n k L).length = L.length
  | 0, _, _ => rfl
  | n + 1, k, L => by
    show (mvUG d n (k + 1) (swG d L k (k + 1))).length = _
    rw [mvUG_len n, swG_len]
theorem mvDG_len {α : Type} {d : α} : ∀ (n k : Nat) (L : List α), (mvDG d n k L).length = L.length
  | 0, _, _ => rfl
  | n + 1, k, L => by
    show (mvDG d n (k - 1) (swG d L k (k - 1))).length = _
    rw [mvDG_len n, swG_len]
theorem mvUG_at {α : Type} {d : α} : ∀ (n k : Nat) (L : List α) (j : Nat), k + n < L.length → (mvUG d n k L).getD j d = if j = k + n then L.getD k d else if k ≤ j ∧ j < k + n then L.getD (j + 1) d else L.getD j d
  | 0, k, L, j, h => by
    show L.getD j d = _
    by_cases e : j = k + 0
    · rw [if_pos e, e, Nat.add_zero]
    · rw [if_neg e, if_neg (by omega)]
  | n + 1, k, L, j, h => by
    show (mvUG d n (k + 1) (swG d L k (k + 1))).getD j d = _
    have hk : k < L.length := by omega
    have hk1 : k + 1 < L.length := by omega
    rw [mvUG_at n (k + 1) _ j (by rw [swG_len]; omega), swG_at hk hk1, swG_at hk hk1, swG_at hk hk1]
    by_cases e : j = k + 1 + n
    · rw [if_pos e, if_pos rfl, if_pos (by omega)]
    · rw [if_neg e, if_neg (show ¬ j = k + (n + 1) by omega)]
      by_cases e2 : k + 1 ≤ j ∧ j < k + 1 + n
      · rw [if_pos e2, if_neg (show ¬ j + 1 = k + 1 by omega), if_neg (show ¬ j + 1 = k by omega), if_pos (by omega)]
      · rw [if_neg e2]
        by_cases e3 : j = k + 1
        · rw [if_pos e3]
          have hn : n = 0 := by omega
          omega
        · rw [if_neg e3]
          by_cases e4 : j = k
          · rw [if_pos e4, if_pos (by omega), e4]
          · rw [if_neg e4, if_neg (by omega)]
theorem mvDG_at {α : Type} {d : α} : ∀ (n k : Nat) (L : List α) (j : Nat), k < L.length → n ≤ k → (mvDG d n k L).getD j d = if j = k - n then L.getD k d else if k - n < j ∧ j ≤ k then L.getD (j - 1) d else L.getD j d
  | 0, k, L, j, h, hn => by
    show L.getD j d = _
    by_cases e : j = k - 0
    · rw [if_pos e, e, Nat.sub_zero]
    · rw [if_neg e, if_neg (by omega)]
  | n + 1, k, L, j, h, hn => by
    show (mvDG d n (k - 1) (swG d L k (k - 1))).getD j d = _
    have hk1 : k - 1 < L.length := by omega
    rw [mvDG_at n (k - 1) _ j (by rw [swG_len]; omega) (by omega), swG_at h hk1, swG_at h hk1, swG_at h hk1]
    by_cases e : j = k - 1 - n
    · rw [if_pos e, if_pos rfl, if_pos (by omega)]
    · rw [if_neg e, if_neg (show ¬ j = k - (n + 1) by omega)]
      by_cases e2 : k - 1 - n < j ∧ j ≤ k - 1
      · rw [if_pos e2, if_neg (show ¬ j - 1 = k - 1 by omega), if_neg (show ¬ j - 1 = k by omega), if_pos (by omega)]
      · rw [if_neg e2]
        by_cases e3 : j = k - 1
        · omega
        · rw [if_neg e3]
          by_cases e4 : j = k
          · rw [if_pos e4, if_pos (by omega), e4]
          · rw [if_neg e4, if_neg (by omega)]
/-- where the line at a place came from -/
def pmv (I J k : Nat) : Nat := if k = J then I else if I ≤ k ∧ k < J then k + 1 else if J < k ∧ k ≤ I then k - 1 else k
theorem pmv_lt {I J k n : Nat} (hI : I < n) (hJ : J < n) (hk : k < n) : pmv I J k < n := by
  unfold pmv
  split
  · exact hI
  · split
    · omega
    · split <;> omega
theorem mvG_len {α : Type} {d : α} {L : List α} {I J : Nat} : (mvG d L I J).length = L.length := by
  unfold mvG
  rw [mvDG_len, mvUG_len]
theorem mvG_at {α : Type} {d : α} {L : List α} {I J k : Nat} (hI : I < L.length) (hJ : J < L.length) : (mvG d L I J).getD k d = L.getD (pmv I J k) d := by
  unfold mvG pmv
  by_cases h : I ≤ J
  · rw [show I - J = 0 by omega]
    show (mvUG d (J - I) I L).getD k d = _
    rw [mvUG_at _ _ _ _ (by omega)]
    by_cases e : k = J
    · rw [if_pos (by omega), if_pos e]
    · rw [if_neg (by omega), if_neg e]
      by_cases e2 : I ≤ k ∧ k < J
      · rw [if_pos (by omega), if_pos e2]
      · rw [if_neg (by omega), if_neg e2, if_neg (by omega)]
  · rw [show J - I = 0 by omega]
    show (mvDG d (I - J) I L).getD k d = _
    rw [mvDG_at _ _ _ _ hI (by omega)]
    by_cases e : k = J
    · rw [if_pos (by omega), if_pos e]
    · rw [if_neg (by omega), if_neg e, if_neg (show ¬ (I ≤ k ∧ k < J) by omega)]
      by_cases e2 : J < k ∧ k ≤ I
      · rw [if_pos (by omega), if_pos e2]
      · rw [if_neg (by omega), if_neg e2]
theorem rmG_len {α : Type} {d : α} {L : List α} {I : Nat} : (rmG d L I).length = L.length - 1 := by
  unfold rmG
  rw [List.length_dropLast, mvG_len]
def prm (I k : Nat) : Nat := if k < I then k else k + 1
theorem rmG_at {α : Type} {d : α} {L : List α} {I k : Nat} (hI : I < L.length) (hk : k < L.length - 1) : (rmG d L I).getD k d = L.getD (prm I k) d := by
  unfold rmG
  have h1 : k < (mvG d L I (L.length - 1)).dropLast.length := by rw [List.length_dropLast, mvG_len]; exact hk
  rw [gd_in h1, List.getElem_dropLast, ← gd_in (d := d) (by rw [mvG_len]; omega), mvG_at hI (by omega)]
  unfold pmv prm
  rw [if_neg (by omega)]
  by_cases e : k < I
  · rw [if_pos e, if_neg (by omega), if_neg (by omega)]
  · rw [if_neg e, if_pos (by omega)]
theorem swL_eq {xs : List Int32} {i j : Nat} (hi : i < xs.length) (hj : j < xs.length) (hN : xs.length < 1000000000) : swL xs (nI i) (nI j) = swG (-5) xs i j := by
  unfold swL swG
  rw [gt_n (by omega), gt_n (by omega), st_n (by omega), st_n (by omega)]
theorem mvU_eq : ∀ (n k : Nat) (xs : List Int32), k + n < xs.length → xs.length < 1000000000 → mvU n k xs = mvUG (-5) n k xs
  | 0, _, _, _, _ => rfl
  | n + 1, k, xs, h, hN => by
    show mvU n (k + 1) (swL xs (nI k) (nI (k + 1))) = mvUG (-5) n (k + 1) (swG (-5) xs k (k + 1))
    rw [swL_eq (by omega) (by omega) hN]
    exact mvU_eq n (k + 1) _ (by rw [swG_len]; omega) (by rw [swG_len]; exact hN)
theorem mvD_eq : ∀ (n k : Nat) (xs : List Int32), k < xs.length → n ≤ k → xs.length < 1000000000 → mvD n k xs = mvDG (-5) n k xs
  | 0, _, _, _, _, _ => rfl
  | n + 1, k, xs, h, hn, hN => by
    show mvD n (k - 1) (swL xs (nI k) (nI (k - 1))) = mvDG (-5) n (k - 1) (swG (-5) xs k (k - 1))
    rw [swL_eq (by omega) (by omega) hN]
    exact mvD_eq n (k - 1) _ (by rw [swG_len]; omega) (by omega) (by rw [swG_len]; exact hN)
theorem mvL_eq {xs : List Int32} {I J : Nat} (hI : I < xs.length) (hJ : J < xs.length) (hN : xs.length < 1000000000) : mvL xs I J = mvG (-5) xs I J := by
  unfold mvL mvG
  by_cases h : I ≤ J
  · rw [show I - J = 0 by omega, mvU_eq _ _ _ (by omega) hN]
    rfl
  · rw [show J - I = 0 by omega]
    exact mvD_eq _ _ _ hI (by omega) hN
theorem rmL_eq {xs : List Int32} {I : Nat} (hI : I < xs.length) (hN : xs.length < 1000000000) : rmL xs I = rmG (-5) xs I := by
  rw [rmL_in hI]
  unfold rmG
  rw [mvL_eq hI (by omega) hN]
/-- a state whose rules are those of another one, at other places -/
theorem allR_rules {S S' : Bk} {f f' : Nat → Int32} (π : Nat → Nat) (h : allR S f) (hn : S'.1.length ≤ S.1.length) (h2 : S'.2.1.length = S'.1.length) (h3 : S'.2.2.1.length = S'.1.length) (hπ : ∀ k, k < S'.1.length → π k < S.1.length ∧ S'.1.getD k [] = S.1.getD (π k) [] ∧ S'.2.1.getD k (-5) = S.2.1.getD (π k) (-5) ∧ S'.2.2.1.getD k (-5) = S.2.2.1.getD (π k) (-5)) (hs : S'.2.2.2 = S.2.2.2) (f0 : f' 0 = nI S'.1.length) (f1 : ∀ j, j = 1 ∨ 212 ≤ j → f' j = f j) (fb : ∀ k, k < S'.1.length → ∀ i, i < 7 → f' (2 + 7 * k + i) = f (2 + 7 * π k + i)) : allR S' f' := by
  obtain ⟨hw, g0, g1, hR, hS, hW⟩ := h
  have hw2 := hw
  obtain ⟨w1, w2, w3, w4, w5, w6, w7, w8, w9⟩ := hw2
  have e1 : ∀ k, k < S'.1.length → nthR S' k = nthR S (π k) := fun k hk => (hπ k hk).2.1
  have e2 : ∀ s, nthS S' s = nthS S s := fun s => by unfold nthS; rw [hs]
  have e3 : ∀ s, nthW S' s = nthW S s := fun s => by unfold nthW; rw [hs]
  refine ⟨⟨by omega, h2, h3, by rw [hs]; exact w4, by rw [hs]; exact w5, by rw [hs]; exact w6, fun r hr => ?_, fun s hs2 => by rw [e2]; exact w8 s hs2, fun w hw3 => by rw [e3, hs]; exact w9 w (by rw [hs] at hw3; exact hw3)⟩, f0, by rw [f1 1 (Or.inl rfl), g1, hs], fun r hr => ?_, fun s hs2 => ?_, fun w hw3 => ?_⟩
  · obtain ⟨a, b, c, d⟩ := hπ r hr
    rw [e1 r hr, c, d]
    exact w7 _ a
  · obtain ⟨a, b, c, d⟩ := hπ r hr
    obtain ⟨q1, q2, q3, q4⟩ := hR _ a
    have hl := (w7 _ a).2.1
    rw [e1 r hr, c, d]
    refine ⟨(fb r hr 0 (by decide)).trans q1, fun j hj => ?_, (fb r hr 5 (by decide)).trans q3, (fb r hr 6 (by decide)).trans q4⟩
    rw [show 2 + 7 * r + 1 + j = 2 + 7 * r + (1 + j) by omega, fb r hr (1 + j) (by omega), show 2 + 7 * π r + (1 + j) = 2 + 7 * π r + 1 + j by omega]
    exact q2 j hj
  · rw [e2]
    obtain ⟨q1, q2⟩ := hS s hs2
    exact ⟨by rw [f1 _ (Or.inr (by omega))]; exact q1, fun j hj => by rw [f1 _ (Or.inr (by omega))]; exact q2 j hj⟩
  · rw [e3, hs]
    rw [hs] at hw3
    obtain ⟨q1, q2, q3⟩ := hW w hw3
    exact ⟨by rw [f1 _ (Or.inr (by omega))]; exact q1, by rw [f1 _ (Or.inr (by omega))]; exact q2, fun j hj => by rw [f1 _ (Or.inr (by omega))]; exact q3 j hj⟩
theorem allR_words {S S' : Bk} {f f' : Nat → Int32} (π : Nat → Nat) (h : allR S f) (hn : S'.2.2.2.2.1.length ≤ S.2.2.2.2.1.length) (h2 : S'.2.2.2.2.2.length = S'.2.2.2.2.1.length) (hπ : ∀ k, k < S'.2.2.2.2.1.length → π k < S.2.2.2.2.1.length ∧ S'.2.2.2.2.1.getD k [] = S.2.2.2.2.1.getD (π k) [] ∧ S'.2.2.2.2.2.getD k (-5) = S.2.2.2.2.2.getD (π k) (-5)) (h3 : S'.1 = S.1) (h4 : S'.2.1 = S.2.1) (h5 : S'.2.2.1 = S.2.2.1) (h6 : S'.2.2.2.1 = S.2.2.2.1) (f0 : f' 1 = nI S'.2.2.2.2.1.length) (f1 : ∀ j, ¬ j = 1 → j < 290 → f' j = f j) (fb : ∀ k, k < S'.2.2.2.2.1.length → ∀ i, i < 14 → f' (290 + 14 * k + i) = f (290 + 14 * π k + i)) : allR S' f' := by
  obtain ⟨hw, g0, g1, hR, hS, hW⟩ := h
  have hw2 := hw
  obtain ⟨w1, w2, w3, w4, w5, w6, w7, w8, w9⟩ := hw2
  have e1 : ∀ k, nthR S' k = nthR S k := fun k => by unfold nthR; rw [h3]
  have e2 : ∀ s, nthS S' s = nthS S s := fun s => by unfold nthS; rw [h6]
  have e3 : ∀ k, k < S'.2.2.2.2.1.length → nthW S' k = nthW S (π k) := fun k hk => (hπ k hk).2.1
  refine ⟨⟨by rw [h3]; exact w1, by rw [h3, h4]; exact w2, by rw [h3, h5]; exact w3, by rw [h6]; exact w4, by omega, h2, fun r hr => by rw [e1, h4, h5]; exact w7 r (by rw [h3] at hr; exact hr), fun s hs2 => by rw [e2]; exact w8 s hs2, fun w hw3 => ?_⟩, by rw [f1 0 (by decide) (by decide), g0, h3], f0, fun r hr => ?_, fun s hs2 => ?_, fun w hw3 => ?_⟩
  · obtain ⟨a, b, c⟩ := hπ w hw3
    rw [e3 w hw3, c]
    exact w9 _ a
  · rw [h3] at hr
    rw [e1, h4, h5]
    obtain ⟨q1, q2, q3, q4⟩ := hR r hr
    have hl := (w7 _ hr).2.1
    exact ⟨by rw [f1 _ (by omega) (by omega)]; exact q1, fun j hj => by rw [f1 _ (by omega) (by omega)]; exact q2 j hj, by rw [f1 _ (by omega) (by omega)]; exact q3, by rw [f1 _ (by omega) (by omega)]; exact q4⟩
  · rw [e2]
    obtain ⟨q1, q2⟩ := hS s hs2
    have hl := (w8 s hs2).2.1
    exact ⟨by rw [f1 _ (by omega) (by omega)]; exact q1, fun j hj => by rw [f1 _ (by omega) (by omega)]; exact q2 j hj⟩
  · obtain ⟨a, b, c⟩ := hπ w hw3
    obtain ⟨q1, q2, q3⟩ := hW _ a
    have hl := (w9 _ a).2.1
    rw [e3 w hw3, c]
    refine ⟨(fb w hw3 0 (by decide)).trans q1, (fb w hw3 1 (by decide)).trans q2, fun j hj => ?_⟩
    rw [show 290 + 14 * w + 2 + j = 290 + 14 * w + (2 + j) by omega, fb w hw3 (2 + j) (by omega), show 290 + 14 * π w + (2 + j) = 290 + 14 * π w + 2 + j by omega]
    exact q3 j hj
theorem allR_sign {S : Bk} {f f' : Nat → Int32} {s : Nat} {x : List Int32} (h : allR S f) (hs : s < 26) (hx : 1 ≤ x.length ∧ x.length ≤ 2 ∧ ∀ y ∈ x, low y) (f0 : f' (212 + 3 * s) = nI x.length) (fx : ∀ j, j < x.length → f' (212 + 3 * s + 1 + j) = x.getD j (-5)) (f1 : ∀ j, j < 212 + 3 * s ∨ 212 + 3 * s + 3 ≤ j → f' j = f j) : allR (S.1, S.2.1, S.2.2.1, S.2.2.2.1.set s x, S.2.2.2.2.1, S.2.2.2.2.2) f' := by
  obtain ⟨hw, g0, g1, hR, hS, hW⟩ := h
  have hw2 := hw
  obtain ⟨w1, w2, w3, w4, w5, w6, w7, w8, w9⟩ := hw2
  have e2 : ∀ t, nthS (S.1, S.2.1, S.2.2.1, S.2.2.2.1.set s x, S.2.2.2.2.1, S.2.2.2.2.2) t = if t = s then x else nthS S t := fun t => gd_st (by omega)
  refine ⟨⟨w1, w2, w3, by rw [List.length_set]; exact w4, w5, w6, w7, fun t ht => ?_, w9⟩, by rw [f1 0 (by omega)]; exact g0, by rw [f1 1 (by omega)]; exact g1, fun r (hr : r < S.1.length) => ?_, fun t ht => ?_, fun w (hw3 : w < S.2.2.2.2.1.length) => ?_⟩
  · rw [e2]
    split
    · exact hx
    · exact w8 t ht
  · obtain ⟨q1, q2, q3, q4⟩ := hR r hr
    have hl := (w7 _ hr).2.1
    exact ⟨by rw [f1 _ (by omega)]; exact q1, fun j (hj : j < (nthR S r).length) => by rw [f1 _ (by omega)]; exact q2 j hj, by rw [f1 _ (by omega)]; exact q3, by rw [f1 _ (by omega)]; exact q4⟩
  · rw [e2]
    by_cases e : t = s
    · rw [if_pos e, e]
      exact ⟨f0, fx⟩
    · rw [if_neg e]
      obtain ⟨q1, q2⟩ := hS t ht
      have hl := (w8 t ht).2.1
      exact ⟨by rw [f1 _ (by omega)]; exact q1, fun j hj => by rw [f1 _ (by omega)]; exact q2 j hj⟩
  · obtain ⟨q1, q2, q3⟩ := hW w hw3
    have hl := (w9 _ hw3).2.1
    exact ⟨by rw [f1 _ (by omega)]; exact q1, by rw [f1 _ (by omega)]; exact q2, fun j (hj : j < (nthW S w).length) => by rw [f1 _ (by omega)]; exact q3 j hj⟩
/-- a line taken out of the model's row -/
def toK (f : Nat → Int32) (c fr e p n1 k : Nat) : Nat → Int32 := fun j => if j = c then nI n1 else if fr + e * p ≤ j ∧ j < fr + k then f (j + e) else f j
theorem toK_0 {f : Nat → Int32} {c fr e p n1 : Nat} : upd f c (nI n1) = toK f c fr e p n1 (e * p) := by
  funext j
  unfold upd toK
  by_cases h : j = c
  · rw [if_pos h, if_pos h]
  · rw [if_neg h, if_neg h, if_neg (by omega)]
theorem toK_s {f : Nat → Int32} {c fr e p n1 k : Nat} (hc : c < fr) (hk : e * p ≤ k) : upd (toK f c fr e p n1 k) (fr + k) (toK f c fr e p n1 k (fr + k + e)) = toK f c fr e p n1 (k + 1) := by
  funext j
  unfold upd toK
  by_cases h : j = fr + k
  · rw [if_pos h, if_neg (by omega), if_neg (by omega), if_neg (by omega), if_pos (by omega), h]
  · rw [if_neg h]
    by_cases h1 : j = c
    · rw [if_pos h1, if_pos h1]
    · rw [if_neg h1, if_neg h1]
      by_cases h2 : fr + e * p ≤ j ∧ j < fr + k
      · rw [if_pos h2, if_pos (by omega)]
      · rw [if_neg h2, if_neg (by omega)]
theorem toK_c {f : Nat → Int32} {c fr e p n1 k : Nat} : toK f c fr e p n1 k c = nI n1 := if_pos rfl
theorem allR_dropR {S : Bk} {f : Nat → Int32} {I : Nat} (h : allR S f) (hI : I < S.1.length) : allR (dropR S I) (toK f 0 2 7 I (S.1.length - 1) (7 * (S.1.length - 1))) := by
  have hw := h.1
  obtain ⟨w1, w2, w3, -⟩ := hw
  have l1 : (dropR S I).1.length = S.1.length - 1 := rmG_len
  have l2 : (dropR S I).2.1.length = S.1.length - 1 := by
    show (rmL S.2.1 I).length = _
    rw [rmL_eq (by omega) (by omega), rmG_len, w2]
  have l3 : (dropR S I).2.2.1.length = S.1.length - 1 := by
    show (rmL S.2.2.1 I).length = _
    rw [rmL_eq (by omega) (by omega), rmG_len, w3]
  refine allR_rules (prm I) h (by omega) (by omega) (by omega) (fun k hk => ?_) rfl (by rw [l1]; exact toK_c) (fun j hj => ?_) (fun k hk i hi => ?_)
  · rw [l1] at hk
    refine ⟨by unfold prm; split <;> omega, rmG_at hI hk, ?_, ?_⟩
    · show (rmL S.2.1 I).getD k (-5) = _
      rw [rmL_eq (by omega) (by omega), rmG_at (by omega) (by omega)]
    · show (rmL S.2.2.1 I).getD k (-5) = _
      rw [rmL_eq (by omega) (by omega), rmG_at (by omega) (by omega)]
  · unfold toK
    rw [if_neg (by omega), if_neg (by omega)]
  · rw [l1] at hk
    unfold toK prm
    rw [if_neg (by omega)]
    by_cases e : k < I
    · rw [if_neg (by omega), if_pos e]
    · rw [if_pos (by omega), if_neg e]
      exact congrArg f (by omega)
theorem allR_dropW {S : Bk} {f : Nat → Int32} {I : Nat} (h : allR S f) (hI : I < S.2.2.2.2.1.length) : allR (dropW S I) (toK f 1 290 14 I (S.2.2.2.2.1.length - 1) (14 * (S.2.2.2.2.1.length - 1))) := by
  have hw := h.1
  obtain ⟨w1, w2, w3, w4, w5, w6, -⟩ := hw
  have l1 : (dropW S I).2.2.2.2.1.length = S.2.2.2.2.1.length - 1 := rmG_len
  have l2 : (dropW S I).2.2.2.2.2.length = S.2.2.2.2.1.length - 1 := by
    show (rmL S.2.2.2.2.2 I).length = _
    rw [rmL_eq (by omega) (by omega), rmG_len, w6]
  refine allR_words (prm I) h (by omega) (by omega) (fun k hk => ?_) rfl rfl rfl rfl (by rw [l1]; exact toK_c) (fun j hj hj2 => ?_) (fun k hk i hi => ?_)
  · rw [l1] at hk
    refine ⟨by unfold prm; split <;> omega, rmG_at hI hk, ?_⟩
    show (rmL S.2.2.2.2.2 I).getD k (-5) = _
    rw [rmL_eq (by omega) (by omega), rmG_at (by omega) (by omega)]
  · unfold toK
    rw [if_neg hj, if_neg (by omega)]
  · rw [l1] at hk
    unfold toK prm
    rw [if_neg (by omega)]
    by_cases e : k < I
    · rw [if_neg (by omega), if_pos e]
    · rw [if_pos (by omega), if_neg e]
      exact congrArg f (by omega)
theorem allR_kind {S : Bk} {f : Nat → Int32} {I : Nat} {kd : Int32} (h : allR S f) (hI : I < S.2.2.2.2.1.length) (hk : 0 ≤ kd ∧ kd ≤ 2) : allR (kindB S (nI I) kd) (upd f (290 + 14 * I) kd) := by
  have hw := h.1
  obtain ⟨w1, w2, w3, w4, w5, w6, w7, w8, w9⟩ := hw
  obtain ⟨-, g0, g1, hR, hS, hW⟩ := h
  have e : (kindB S (nI I) kd).2.2.2.2.2 = S.2.2.2.2.2.set I kd := by
    show stL S.2.2.2.2.2 (nI I) kd = _
    rw [st_n (by omega)]
  have ek : ∀ k, (kindB S (nI I) kd).2.2.2.2.2.getD k (-5) = if k = I then kd else S.2.2.2.2.2.getD k (-5) := fun k => by rw [e]; exact gd_st (by omega)
  refine ⟨⟨w1, w2, w3, w4, w5, by rw [e, List.length_set]; exact w6, w7, w8, fun w (hw : w < S.2.2.2.2.1.length) => ?_⟩, by rw [pk_un (by omega)]; exact g0, by rw [pk_un (by omega)]; exact g1, fun r (hr : r < S.1.length) => ?_, fun t (ht : t < 26) => ?_, fun w (hw3 : w < S.2.2.2.2.1.length) => ?_⟩
  · obtain ⟨a, b, c, d, e2⟩ := w9 w hw
    refine ⟨a, b, c, ?_⟩
    rw [ek]
    split
    · exact hk
    · exact ⟨d, e2⟩
  · obtain ⟨q1, q2, q3, q4⟩ := hR r hr
    have hl := (w7 _ hr).2.1
    exact ⟨by rw [pk_un (by omega)]; exact q1, fun j (hj : j < (nthR S r).length) => by rw [pk_un (by omega)]; exact q2 j hj, by rw [pk_un (by omega)]; exact q3, by rw [pk_un (by omega)]; exact q4⟩
  · obtain ⟨q1, q2⟩ := hS t ht
    have hl := (w8 t ht).2.1
    exact ⟨by rw [pk_un (by omega)]; exact q1, fun j (hj : j < (nthS S t).length) => by rw [pk_un (by omega)]; exact q2 j hj⟩
  · obtain ⟨q1, q2, q3⟩ := hW w hw3
    have hl := (w9 _ hw3).2.1
    refine ⟨?_, by rw [pk_un (by omega)]; exact q2, fun j (hj : j < (nthW S w).length) => by rw [pk_un (by omega)]; exact q3 j hj⟩
    rw [ek]
    by_cases h : w = I
    · rw [if_pos h, h, pk_us]
    · rw [if_neg h, pk_un (by omega)]
      exact q1
/-- an act's answer, state and history -/
abbrev At : Type := Int32 × Bk × List Bk
def rmRT (S : Bk) (hs : List Bk) (i : Int32) : At := if hasL S.1 i = true then (nI (dropR S i.toNatClampNeg).1.length, dropR S i.toNatClampNeg, rec4 hs S) else (-1, S, hs)
def rmWT (S : Bk) (hs : List Bk) (i : Int32) : At := if hasL S.2.2.2.2.1 i = true then (nI (dropW S i.toNatClampNeg).2.2.2.2.1.length, dropW S i.toNatClampNeg, rec4 hs S) else (-1, S, hs)
def kdT (S : Bk) (hs : List Bk) (i k : Int32) : At := if hasL S.2.2.2.2.1 i = true then (if k < 0 then (-2, S, hs) else if k ≤ 2 then (if gt S.2.2.2.2.2 i = k then (-5, S, hs) else (gt S.2.2.2.2.2 i, kindB S i k, rec4 hs S)) else (-2, S, hs)) else (-1, S, hs)
def rsT (S S2 : Bk) (b : Bool) (hs : List Bk) : At := if b = true then (nI S2.2.2.2.2.1.length, S2, rec4 hs S) else (-5, S, hs)
theorem rmRT_y {S : Bk} {hs : List Bk} {I : Nat} (h : hasL S.1 (nI I) = true) (hI : I < 1000000000) : rmRT S hs (nI I) = (nI (dropR S I).1.length, dropR S I, rec4 hs S) := by
  unfold rmRT
  rw [if_pos h, nI_clamp (by omega)]
theorem rmRT_n {S : Bk} {hs : List Bk} {i : Int32} (h : hasL S.1 i = false) : rmRT S hs i = (-1, S, hs) := if_neg (by rw [h]; exact Bool.false_ne_true)
theorem rmWT_y {S : Bk} {hs : List Bk} {I : Nat} (h : hasL S.2.2.2.2.1 (nI I) = true) (hI : I < 1000000000) : rmWT S hs (nI I) = (nI (dropW S I).2.2.2.2.1.length, dropW S I, rec4 hs S) := by
  unfold rmWT
  rw [if_pos h, nI_clamp (by omega)]
theorem rmWT_n {S : Bk} {hs : List Bk} {i : Int32} (h : hasL S.2.2.2.2.1 i = false) : rmWT S hs i = (-1, S, hs) := if_neg (by rw [h]; exact Bool.false_ne_true)
theorem kdT_n {S : Bk} {hs : List Bk} {i k : Int32} (h : hasL S.2.2.2.2.1 i = false) : kdT S hs i k = (-1, S, hs) := if_neg (by rw [h]; exact Bool.false_ne_true)
theorem kdT_2 {S : Bk} {hs : List Bk} {i k : Int32} (h : hasL S.2.2.2.2.1 i = true) (hk : ¬ (0 ≤ k ∧ k ≤ 2)) : kdT S hs i k = (-2, S, hs) := by
  unfold kdT
  rw [if_pos h]
  split
  · rfl
  · rename_i h0
    rw [if_neg (fun z => hk ⟨Int32.not_lt.mp h0, z⟩)]
theorem kdT_5 {S : Bk} {hs : List Bk} {I : Nat} {k : Int32} (h : hasL S.2.2.2.2.1 (nI I) = true) (hI : I < 1000000000) (hk : 0 ≤ k ∧ k ≤ 2) (he : S.2.2.2.2.2.getD I (-5) = k) : kdT S hs (nI I) k = (-5, S, hs) := by
  unfold kdT
  rw [if_pos h, if_neg (Int32.not_lt.mpr hk.1), if_pos hk.2, gt_n (by omega), if_pos he]
theorem kdT_y {S : Bk} {hs : List Bk} {I : Nat} {k : Int32} (h : hasL S.2.2.2.2.1 (nI I) = true) (hI : I < 1000000000) (hk : 0 ≤ k ∧ k ≤ 2) (he : ¬ S.2.2.2.2.2.getD I (-5) = k) : kdT S hs (nI I) k = (S.2.2.2.2.2.getD I (-5), kindB S (nI I) k, rec4 hs S) := by
  unfold kdT
  rw [if_pos h, if_neg (Int32.not_lt.mpr hk.1), if_pos hk.2, gt_n (by omega), if_neg he]
theorem in02 {c : Int32} : inB c.toInt64 0 2 = decide (0 ≤ c ∧ c ≤ 2) := inB_i (v := c) (lo := 0) (hi := 2)
theorem in03 {c : Int32} : inB c.toInt64 0 3 = decide (0 ≤ c ∧ c ≤ 3) := inB_i (v := c) (lo := 0) (hi := 3)
theorem in01 {c : Int32} : inB c.toInt64 0 1 = decide (0 ≤ c ∧ c ≤ 1) := inB_i (v := c) (lo := 0) (hi := 1)
def acP (cI : ClassId) (m : Nat → Nat) (it sz sl ut ol tl sp tw tm mm rl : Int32) (r : At) : Option Value → List Md → Prop := fun ov M => ov = some (.int r.1) ∧ ∃ f g h : Nat → Int32, allR r.2.1 f ∧ histR r.2.2 h ∧ M = [moM m (nI r.2.2.length) it sz sl ut ol tl sp tw tm mm rl, arF cI (m 1) 570 f, arF cI (m 2) 570 g, arF cI (m 3) 2280 h]
theorem acP_i {cI : ClassId} {m : Nat → Nat} {it sz sl ut ol tl sp tw tm mm rl v : Int32} {r : At} {S : Bk} {hs : List Bk} {f g h : Nat → Int32} (e : r = (v, S, hs)) (hA : allR S f) (hH : histR hs h) : acP cI m it sz sl ut ol tl sp tw tm mm rl r (some (.int v)) [moM m (nI hs.length) it sz sl ut ol tl sp tw tm mm rl, arF cI (m 1) 570 f, arF cI (m 2) 570 g, arF cI (m 3) 2280 h] := by
  subst e
  exact ⟨rfl, f, g, h, hA, hH, rfl⟩
def rsP (cI : ClassId) (m : Nat → Nat) (it sz sl ut ol tl sp tw tm mm rl : Int32) (s : Nat → Int32) (r : At) : Option Value → List Md → Prop := fun ov M => ov = some (.int r.1) ∧ ∃ f g h : Nat → Int32, allR r.2.1 f ∧ histR r.2.2 h ∧ M = [moM m (nI r.2.2.length) it sz sl ut ol tl sp tw tm mm rl, arF cI (m 1) 570 f, arF cI (m 2) 570 g, arF cI (m 3) 2280 h, arF cI (m 4) 570 s]
theorem rsP_i {cI : ClassId} {m : Nat → Nat} {it sz sl ut ol tl sp tw tm mm rl v : Int32} {s : Nat → Int32} {r : At} {S : Bk} {hs : List Bk} {f g h : Nat → Int32} (e : r = (v, S, hs)) (hA : allR S f) (hH : histR hs h) : rsP cI m it sz sl ut ol tl sp tw tm mm rl s r (some (.int v)) [moM m (nI hs.length) it sz sl ut ol tl sp tw tm mm rl, arF cI (m 1) 570 f, arF cI (m 2) 570 g, arF cI (m 3) 2280 h, arF cI (m 4) 570 s] := by
  subst e
  exact ⟨rfl, f, g, h, hA, hH, rfl⟩
theorem vLet_n {S : Bk} {i j : Int32} (h : hasL S.1 i = false) : vLetter S i j = -1 := if_neg (by rw [h]; exact Bool.false_ne_true)
theorem vLet_2 {S : Bk} {i j : Int32} (h : hasL S.1 i = true) (hj : ¬ 0 ≤ j) : vLetter S i j = -2 := by
  unfold vLetter
  rw [if_pos h, if_neg hj]
theorem gg_o {L : List (List Int32)} {I : Nat} {j : Int32} (hI : I < 1000000000) (hl : (L.getD I []).length < 1000000000) (h : nI (L.getD I []).length ≤ j) : gg L (nI I) j = -5 := by
  unfold gg
  rw [ln_n hI, gt_outN hl h]
theorem gg_i {L : List (List Int32)} {I J : Nat} (hI : I < 1000000000) (hJ : J < 1000000000) : gg L (nI I) (nI J) = (L.getD I []).getD J (-5) := by
  unfold gg
  rw [ln_n hI, gt_n (by omega)]
theorem vLet_g {S : Bk} {i j : Int32} (h : hasL S.1 i = true) (hj : 0 ≤ j) : vLetter S i j = gg S.1 i j := by
  unfold vLetter
  rw [if_pos h, if_pos hj]
theorem vSg_n {S : Bk} {c j : Int32} (h : cpt c = false) : vSign S c j = -1 := if_neg (by rw [h]; exact Bool.false_ne_true)
theorem vSg_2 {S : Bk} {c j : Int32} (h : cpt c = true) (hj : ¬ (0 ≤ j ∧ j ≤ 1)) : vSign S c j = -2 := by
  unfold vSign
  rw [if_pos h]
  split
  · rfl
  · rename_i h0
    rw [if_neg (fun z => hj ⟨Int32.not_lt.mp h0, by rw [i_lt] at z; rw [i_le]; have e1 : (1 : Int32).toInt = 1 := (by decide); have e2 : (2 : Int32).toInt = 2 := (by decide); omega⟩)]
theorem vSg_g {S : Bk} {c j : Int32} (h : cpt c = true) (hj : 0 ≤ j ∧ j ≤ 1) : vSign S c j = gg S.2.2.2.1 (c - 65) j := by
  unfold vSign
  rw [if_pos h, if_neg (Int32.not_lt.mpr hj.1), if_pos (by have z := hj.2; rw [i_lt]; rw [i_le] at z; have e1 : (1 : Int32).toInt = 1 := (by decide); have e2 : (2 : Int32).toInt = 2 := (by decide); omega)]
