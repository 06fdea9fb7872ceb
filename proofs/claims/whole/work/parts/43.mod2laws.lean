theorem bst_h (S : Bk) (xs : List Int32) (P : Nat) : ∀ n, (bst S xs P n).1 = -5 ∨ ∃ I, I < n ∧ (bst S xs P n).1 = nI I ∧ hld S xs I P = true
  | 0 => Or.inl rfl
  | n + 1 => by
    by_cases h : (bst S xs P n).2 < rk S n ∧ hld S xs n P = true
    · exact Or.inr ⟨n, by omega, by rw [bst_yes h.1 h.2], h.2⟩
    · rw [bst_no h]
      rcases bst_h S xs P n with h | ⟨I, h1, h2⟩
      · exact Or.inl h
      · exact Or.inr ⟨I, by omega, h2⟩
theorem nI_m5 {J : Nat} (h : J < 1000000000) : ¬ nI J = -5 := fun z => by
  rw [i_eq, i_n (by omega)] at z
  have h5 : (-5 : Int32).toInt = -5 := by decide
  rw [h5] at z
  omega
theorem hld_l {S : Bk} {xs : List Int32} {I P : Nat} (hw : wfB S) (hI : I < S.1.length) (h : hld S xs I P = true) : P + (nthR S I).length ≤ xs.length := by
  refine hldL_len hw hI ?_
  unfold hld at h
  exact (Bool.and_eq_true_iff.mp h).1
theorem amL_rep {cap : Nat} {v : Int32} : ∀ (n : Nat) (xs : List Int32), xs.length + n ≤ cap → amL cap v n xs = xs ++ List.replicate n v
  | 0, xs, _ => by rw [List.replicate_zero, List.append_nil]; rfl
  | n + 1, xs, h => by
    show amL cap v n (adL cap xs v) = _
    rw [adL_lt (by omega), amL_rep n (xs ++ [v]) (by rw [List.length_append]; simp only [List.length_singleton]; omega), List.append_assoc, List.replicate_succ]
    rfl
theorem hr_none {S : Bk} {xs : List Int32} {n p : Nat} {T R : T3} (h : ¬ xs.length ≤ p) (hn : xs.length ≤ p + n) (h2 : (bst S xs p S.1.length).1 = -5) (hR : hrF S xs n p T = R) : ∃ n', xs.length ≤ p + 1 + n' ∧ hrF S xs n' (p + 1) (adL 12 T.1 (xs.getD p (-5)), adL 12 T.2.1 (-5), T.2.2) = R := by
  cases n with
  | zero => omega
  | succ n =>
    refine ⟨n, by omega, ?_⟩
    rw [← hR]
    show _ = (if xs.length ≤ p then T else _)
    rw [if_neg h, if_pos h2]
theorem hr_use {S : Bk} {xs : List Int32} {n p I : Nat} {T R : T3} (h : ¬ xs.length ≤ p) (hn : xs.length ≤ p + n) (h2 : (bst S xs p S.1.length).1 = nI I) (hI : I < 1000000000) (hl : 1 ≤ (nthR S I).length) (hR : hrF S xs n p T = R) : ∃ n', xs.length ≤ p + (nthR S I).length + n' ∧ hrF S xs n' (p + (nthR S I).length) (useT S I T) = R := by
  cases n with
  | zero => omega
  | succ n =>
    refine ⟨n, by omega, ?_⟩
    rw [← hR]
    show _ = (if xs.length ≤ p then T else _)
    rw [if_neg h, if_neg (by rw [h2]; exact nI_m5 hI), h2, nI_clamp (by omega)]
    rfl
theorem incL_add {us rs : List Int32} {I : Nat} (h : I < us.length) (hI : I < 1000000000) : incL us (rs ++ [nI I]) = (incL us rs).set I ((incL us rs).getD I (-5) + 1) := by
  unfold incL
  rw [List.foldl_append]
  show stL _ (nI I) (gt _ (nI I) + 1) = _
  rw [st_n hI, gt_n (by omega)]
theorem incL_len {us : List Int32} : ∀ (rs : List Int32), (incL us rs).length = us.length := by
  intro rs
  induction rs generalizing us with
  | nil => rfl
  | cons r rs ih =>
    show (incL (stL us r (gt us r + 1)) rs).length = _
    rw [ih, stL_len]
theorem rep_add {xs : List Int32} {k : Nat} {v : Int32} : (xs ++ List.replicate k v) ++ [v] = xs ++ List.replicate (k + 1) v := by
  rw [List.append_assoc, List.replicate_succ']
theorem rep_addl {xs : List Int32} {k : Nat} {v : Int32} : (xs ++ List.replicate k v).length = xs.length + k := by
  rw [List.length_append, List.length_replicate]
theorem len1 {xs : List Int32} {v : Int32} : nI (xs ++ [v]).length = nI xs.length + 1 := by
  rw [List.length_append, nI_1]; rfl
theorem len1n {xs : List Int32} {v : Int32} : (xs ++ [v]).length = xs.length + 1 := by
  rw [List.length_append]; rfl
theorem low_m1 {x : Int32} (h : low x) : ¬ x = -1 := fun z => by rw [z] at h; exact absurd h.1 (by decide)
theorem sgn0_s {x : Int32} (h : ¬ sgn0 x = -1) : sgn0 x = x ∧ ¬ x = 0 := by
  unfold sgn0 at h ⊢
  split
  · rename_i hx
    rw [if_pos hx] at h
    exact absurd rfl h
  · rename_i hx
    exact ⟨rfl, hx⟩
theorem sgn0_0 {x : Int32} (h : x = 0 ∨ (65 ≤ x ∧ x ≤ 90)) (h1 : sgn0 x = -1) : x = 0 := by
  rcases h with h | h
  · exact h
  · unfold sgn0 at h1
    split at h1
    · assumption
    · rw [h1] at h; exact absurd h.1 (by decide)
theorem useT_0 {S : Bk} {I : Nat} {T : T3} (h : S.2.1.getD I (-5) = 0) (hr : T.2.1.length + (nthR S I).length ≤ 12) (hu : T.2.2.length < 12) : useT S I T = (T.1, T.2.1 ++ List.replicate (nthR S I).length (nI I), T.2.2 ++ [nI I]) := by
  unfold useT
  rw [if_pos h, adL_lt hu]
  rw [show (S.1.getD I []).length = (nthR S I).length from rfl, amL_rep _ _ hr]
theorem useT_1 {S : Bk} {I : Nat} {T : T3} (h : ¬ S.2.1.getD I (-5) = 0) (hr : T.2.1.length + (nthR S I).length ≤ 12) (hu : T.2.2.length < 12) (hs : T.1.length < 12) : useT S I T = (T.1 ++ [S.2.1.getD I (-5)], T.2.1 ++ List.replicate (nthR S I).length (nI I), T.2.2 ++ [nI I]) := by
  unfold useT
  rw [if_neg h, adL_lt hu, adL_lt hs]
  rw [show (S.1.getD I []).length = (nthR S I).length from rfl, amL_rep _ _ hr]
theorem tk1 {xs : List Int32} {k : Nat} (h : k < xs.length) : xs.take k ++ [xs.getD k (-5)] = xs.take (k + 1) := by
  rw [gd_in h, ← List.take_succ_eq_append_getElem h]
theorem tkl {xs : List Int32} {k : Nat} (h : k ≤ xs.length) : (xs.take k).length = k := by
  rw [List.length_take]; omega
def kx {α : Type} (k : Int32) (a b : α) : α := if k = 1 then a else b
theorem kx_1 {α : Type} {a b : α} : kx 1 a b = a := rfl
theorem kx_n {α : Type} {k : Int32} {a b : α} (h : ¬ k = 1) : kx k a b = b := if_neg h
