theorem hrF_snd {S : Bk} {xs : List Int32} (hw : wfB S) : ∀ (n p : Nat) (T : T3), T.1.length ≤ p → p ≤ xs.length → (hrF S xs n p T).1.length ≤ xs.length
  | 0, p, T, h1, h2 => by
    show T.1.length ≤ _
    omega
  | n + 1, p, T, h1, h2 => by
    have h30 := hw.1
    by_cases hp : xs.length ≤ p
    · rw [hrF_end hp]; omega
    · show (if xs.length ≤ p then T else _ : T3).1.length ≤ _
      rw [if_neg hp]
      rcases bst_h S xs p S.1.length with hb | ⟨I, hI, hb, hh⟩
      · rw [if_pos hb]
        refine hrF_snd hw n (p + 1) _ ?_ (by omega)
        show (adL 12 T.1 _).length ≤ _
        unfold adL
        split
        · rw [len1n]; omega
        · omega
      · have hll := hld_l hw hI hh
        have hl1 := (hw.2.2.2.2.2.2.1 I hI).1
        rw [hb, if_neg (nI_m5 (by omega)), nI_clamp (by omega)]
        have hn : (S.1.getD I []).length = (nthR S I).length := rfl
        refine hrF_snd hw n _ _ ?_ (by omega)
        show (if S.2.1.getD I (-5) = 0 then T.1 else adL 12 T.1 (S.2.1.getD I (-5))).length ≤ _
        split
        · omega
        · unfold adL
          split
          · rw [len1n]; omega
          · omega
theorem spW_le {S : Bk} {xs : List Int32} {kd : Int32} (hw : wfB S) (hL : ∀ x ∈ xs, low x) (hx : 1 ≤ xs.length ∧ xs.length ≤ 12) : (spW S xs kd).length ≤ 2 * xs.length + 1 := by
  have hb : (bare S xs kd).length ≤ 2 * xs.length := by
    unfold bare
    by_cases hk : kd = 1
    · subst hk
      rw [wr1_1, wr2_0 (by omega)]
      omega
    · rw [wr1_n hw hL hk]
      have h := hrW_ok hw hL
      obtain ⟨h1, h2, h3⟩ := flS_len hw _ h.2.1
      have hs : (hrW S xs).1.length ≤ xs.length := hrF_snd hw 12 0 _ (Nat.le_refl _) (Nat.zero_le _)
      by_cases h0 : (flS S.2.2.2.1 (hrW S xs).1).length = 0
      · rw [List.length_eq_zero_iff.mp h0, wr2_0 (by omega)]
        omega
      · rw [wr2_n h0]
        omega
  rw [spW_bare]
  unfold wr3
  split
  · unfold adL
    split
    · rw [len1n]; omega
    · omega
  · omega
theorem tlF_get : ∀ (M : Nat) (cs : List Int32) (j : Nat), j < (tlF M cs).length → (tlF M cs).getD j (-5) = cs.getD j (-5)
  | 0, cs, j, h => absurd h (Nat.not_lt_zero j)
  | M + 1, [], j, h => absurd h (Nat.not_lt_zero j)
  | M + 1, c :: cs, j, h => by
    by_cases e : sm c = true
    · have e2 : tlF (M + 1) (c :: cs) = c :: tlF M cs := if_pos e
      rw [e2] at h ⊢
      cases j with
      | zero => rfl
      | succ j =>
        rw [List.length_cons] at h
        simpa using tlF_get M cs j (by omega)
    · have e2 : tlF (M + 1) (c :: cs) = [] := if_neg e
      rw [e2] at h
      exact absurd h (Nat.not_lt_zero j)
theorem tlF_low : ∀ (M : Nat) (cs : List Int32), ∀ x ∈ tlF M cs, low x
  | 0, cs, x, h => absurd h List.not_mem_nil
  | M + 1, [], x, h => absurd h List.not_mem_nil
  | M + 1, c :: cs, x, h => by
    by_cases e : sm c = true
    · have e2 : tlF (M + 1) (c :: cs) = c :: tlF M cs := if_pos e
      rw [e2] at h
      rcases List.mem_cons.mp h with h | h
      · rw [h]; exact (show 97 ≤ c ∧ c ≤ 122 from of_decide_eq_true e)
      · exact tlF_low M cs x h
    · have e2 : tlF (M + 1) (c :: cs) = [] := if_neg e
      rw [e2] at h
      exact absurd h List.not_mem_nil
/-- a piece of a text -/
def pcT (ts : List Int32) (F : Nat) (xs : List Int32) : Prop := F + xs.length ≤ ts.length ∧ ∀ j, j < xs.length → ts.getD (F + j) (-5) = xs.getD j (-5)
theorem pcT_tl {ts : List Int32} {M P : Nat} (hP : P ≤ ts.length) : pcT ts P (tlF M (ts.drop P)) := ⟨tl_le hP, fun j hj => by rw [tlF_get M _ j hj, gd_drop]⟩
theorem pcT_1 {ts xs : List Int32} {F : Nat} {c : Int32} (h : pcT ts F xs) (hc : ts.getD (F + xs.length) (-5) = c) (h5 : ¬ c = -5) : pcT ts F (xs ++ [c]) := by
  have hl : F + xs.length < ts.length := at_lt (by rw [hc]; exact h5)
  refine ⟨by rw [len1n]; omega, fun j hj => ?_⟩
  rw [len1n] at hj
  by_cases e : j < xs.length
  · rw [h.2 j e, gd_in e, gd_in (by rw [len1n]; omega), List.getElem_append_left e]
  · have e2 : j = xs.length := by omega
    subst e2
    rw [hc, gd_in (by rw [len1n]; omega), List.getElem_append_right (Nat.le_refl _)]
    simp
theorem cvm_le {b : Bool} : cvm b ≤ 24 := by cases b <;> decide
def fwR (ts : List Int32) (R : Bool × Nat × List Int32) : Int32 := if R.1 = true ∧ ts.length ≤ R.2.1 then -5 else nI R.2.1
theorem cv_0 {ts : List Int32} {S : Bk} {b : Bool} {n P : Nat} {ns : List Int32} {R : Bool × Nat × List Int32} (hP : P ≤ ts.length) (hn : ts.length + 1 ≤ P + 2 * n) (hR : cvF ts S b n P ns = R) (h : (tlF (cvm b) (ts.drop P)).length = 0) : R = (false, P, ns) := by
  cases n with
  | zero => omega
  | succ n =>
    rw [← hR]
    refine (if_pos h).trans ?_
    rw [h]
    rfl
theorem cv_1 {ts : List Int32} {S : Bk} {b : Bool} {n P : Nat} {ns : List Int32} {R : Bool × Nat × List Int32} (hP : P ≤ ts.length) (hn : ts.length + 1 ≤ P + 2 * n) (hR : cvF ts S b n P ns = R) (h : ¬ (tlF (cvm b) (ts.drop P)).length = 0) (h2 : ts.getD (cvq ts b (P + (tlF (cvm b) (ts.drop P)).length)) (-5) = 32) : ∃ n2, ts.length + 1 ≤ cvq ts b (P + (tlF (cvm b) (ts.drop P)).length) + 1 + 2 * n2 ∧ cvF ts S b n2 (cvq ts b (P + (tlF (cvm b) (ts.drop P)).length) + 1) (adL 400 (aaL 400 ns (outW S b (cvk ts b (P + (tlF (cvm b) (ts.drop P)).length)) (tlF (cvm b) (ts.drop P)))) 32) = R := by
  cases n with
  | zero => omega
  | succ n =>
    have hq : P + (tlF (cvm b) (ts.drop P)).length ≤ cvq ts b (P + (tlF (cvm b) (ts.drop P)).length) := by
      unfold cvq tkP
      split
      · split <;> omega
      · exact Nat.le_refl _
    exact ⟨n, by omega, ((if_neg h).trans (if_pos h2)).symm.trans hR⟩
theorem cv_2 {ts : List Int32} {S : Bk} {b : Bool} {n P : Nat} {ns : List Int32} {R : Bool × Nat × List Int32} (hP : P ≤ ts.length) (hn : ts.length + 1 ≤ P + 2 * n) (hR : cvF ts S b n P ns = R) (h : ¬ (tlF (cvm b) (ts.drop P)).length = 0) (h2 : ¬ ts.getD (cvq ts b (P + (tlF (cvm b) (ts.drop P)).length)) (-5) = 32) : R = (true, cvq ts b (P + (tlF (cvm b) (ts.drop P)).length), aaL 400 ns (outW S b (cvk ts b (P + (tlF (cvm b) (ts.drop P)).length)) (tlF (cvm b) (ts.drop P)))) := by
  cases n with
  | zero => omega
  | succ n => exact hR.symm.trans ((if_neg h).trans (if_neg h2))
theorem cvq_t {ts : List Int32} {P : Nat} : cvq ts true P = tkP ts P 39 := rfl
theorem cvq_f {ts : List Int32} {P : Nat} : cvq ts false P = P := rfl
theorem isAt_t {l xs : List Int32} (h : l.length = xs.length) (h2 : ∀ j, j < xs.length → l.getD j (-5) = xs.getD j (-5)) : l = xs := by
  refine List.ext_getElem h fun j h3 h4 => ?_
  have := h2 j h4
  rw [gd_in h3, gd_in h4] at this
  exact this
/-- what is told for a spelling -/
def bkY (S : Bk) (L : List (List Int32)) (xs : List Int32) : List Int32 := if opI (fdo xs L 0) = -5 then xs else nthW S (opI (fdo xs L 0)).toNatClampNeg
def n39 (c : Int32) : Bool := !decide (c = 39)
theorem n39_low {xs : List Int32} (h : ∀ x ∈ xs, low x) : xs.filter n39 = xs := by
  refine List.filter_eq_self.mpr fun x hx => ?_
  unfold n39
  rw [decide_eq_false (low_39 (h x hx))]
  rfl
theorem opI_some {o : Option Nat} (h : ¬ opI o = -5) : ∃ k, o = some k := by
  cases o with
  | none => exact absurd rfl h
  | some k => exact ⟨k, rfl⟩
theorem bk_ok {S : Bk} {m : Bool} {l : List Int32} (hw : wfB S) (hl : ∀ x ∈ l, low x) (h24 : l.length ≤ 24) : bk2 S m l = (bkY S (spL S) (bk1 m l)).filter n39 := by
  have h20 := hw.2.2.2.2.1
  unfold bk2 bkY
  rw [sv_sp hw]
  by_cases h : opI (fdo (bk1 m l) (spL S) 0) = -5
  · rw [if_pos h, if_pos h]
    unfold bk1
    cases m with
    | true =>
      rw [if_pos rfl, if_pos rfl, adL_lt (by omega), List.dropLast_concat, List.filter_append, n39_low hl]
      exact (List.append_nil _).symm
    | false =>
      rw [if_neg Bool.false_ne_true, if_neg Bool.false_ne_true, n39_low hl]
  · rw [if_neg h, if_neg h]
    obtain ⟨k, hk⟩ := opI_some h
    have hlt := (fdo_lt hk).2.1
    rw [spL_len] at hlt
    rw [hk]
    have hww := hw.2.2.2.2.2.2.2.2 k (by omega)
    show aaL 25 [] (ln S.2.2.2.2.1 (nI k)) = (nthW S (nI k).toNatClampNeg).filter n39
    rw [nI_clamp (by omega), n39_low hww.2.2.1, ln_n (by omega), ad_all, List.nil_append]
    exact List.take_of_length_le (by show (nthW S k).length ≤ 25; omega)
def xsW (b m : Bool) (w : List Int32) : List Int32 := if b = true then bk1 m w else w
theorem cv_piece {ts : List Int32} {b : Bool} {P : Nat} (hP : P ≤ ts.length) : pcT ts P (xsW b (cvk ts b (P + (tlF (cvm b) (ts.drop P)).length)) (tlF (cvm b) (ts.drop P))) ∧ P + (xsW b (cvk ts b (P + (tlF (cvm b) (ts.drop P)).length)) (tlF (cvm b) (ts.drop P))).length = cvq ts b (P + (tlF (cvm b) (ts.drop P)).length) := by
  have h24 := (tlF_len (cvm b) (ts.drop P)).1
  have hc := cvm_le (b := b)
  cases b with
  | false => exact ⟨pcT_tl hP, rfl⟩
  | true =>
    have h := pcT_tl (M := cvm true) hP
    unfold xsW bk1 cvk cvq tkP
    rw [if_pos rfl, if_pos rfl, Bool.true_and]
    by_cases e : ts.getD (P + (tlF (cvm true) (ts.drop P)).length) (-5) = 39
    · rw [if_pos e, if_pos (decide_eq_true e), adL_lt (by omega)]
      exact ⟨pcT_1 h e (by decide), by rw [len1n]; rfl⟩
    · rw [if_neg e, if_neg (by rw [decide_eq_false e]; exact Bool.false_ne_true)]
      exact ⟨h, rfl⟩
theorem xsW_ne {b m : Bool} {w : List Int32} (hw : ∀ x ∈ w, low x) {j : Nat} (hj : j < (xsW b m w).length) : ¬ (xsW b m w).getD j (-5) = 32 := by
  rw [gd_in hj]
  have hm := List.getElem_mem hj
  intro z
  rw [z] at hm
  unfold xsW bk1 at hm
  have h0 : ¬ (32 : Int32) ∈ w := fun q => absurd (hw _ q).1 (by decide)
  split at hm
  · split at hm
    · rcases adL_mem hm with hm | hm
      · exact h0 hm
      · exact absurd hm (by decide)
    · exact h0 hm
  · exact h0 hm
theorem out_len {S : Bk} {b m : Bool} {w : List Int32} (hw : wfB S) (hl : ∀ x ∈ w, low x) (h1 : 1 ≤ w.length) (h2 : w.length ≤ cvm b) : 2 * (outW S b m w).length + 2 ≤ 13 * (w.length + 1) := by
  have h20 := hw.2.2.2.2.1
  unfold outW
  cases b with
  | false =>
    rw [if_neg Bool.false_ne_true]
    have h12 : w.length ≤ 12 := h2
    have := spW_le (kd := kndW S w) hw hl ⟨h1, h12⟩
    omega
  | true =>
    rw [if_pos rfl]
    have h24 : w.length ≤ 24 := h2
    rw [bk_ok hw hl h24]
    have hf := List.length_filter_le n39 (bkY S (spL S) (bk1 m w))
    by_cases h : opI (fdo (bk1 m w) (spL S) 0) = -5
    · have e : (bkY S (spL S) (bk1 m w)).filter n39 = w := by
        rw [← bk_ok hw hl h24]
        unfold bk2
        rw [sv_sp hw, if_pos h]
        unfold bk1
        cases m with
        | true => rw [if_pos rfl, if_pos rfl, adL_lt (by omega), List.dropLast_concat]
        | false => rw [if_neg Bool.false_ne_true, if_neg Bool.false_ne_true]
      rw [e]
      omega
    · obtain ⟨k, hk⟩ := opI_some h
      have hlt := (fdo_lt hk).2.1
      rw [spL_len] at hlt
      have hww := hw.2.2.2.2.2.2.2.2 k (by omega)
      have e : bkY S (spL S) (bk1 m w) = nthW S k := by
        unfold bkY
        rw [if_neg h, hk]
        show nthW S (nI k).toNatClampNeg = _
        rw [nI_clamp (by omega)]
      rw [e] at hf
      rw [e]
      omega
theorem aa_in {ns ys : List Int32} (h : ns.length + ys.length ≤ 400) : aaL 400 ns ys = ns ++ ys := by
  rw [ad_all, List.take_of_length_le (by omega)]
def cvT (S : Bk) (ts rs : List Int32) (b : Bool) : Int32 × List Int32 := if (cvF ts S b 60 0 []).1 = true ∧ ts.length ≤ (cvF ts S b 60 0 []).2.1 then (nI (aaL 400 [] (cvF ts S b 60 0 []).2.2).length, aaL 400 [] (cvF ts S b 60 0 []).2.2) else (-100 - nI (cvF ts S b 60 0 []).2.1, rs)
theorem cvT_f {S : Bk} {ts rs : List Int32} {b : Bool} {R : Bool × Nat × List Int32} (hR : cvF ts S b 60 0 [] = R) (h : ¬ (R.1 = true ∧ ts.length ≤ R.2.1)) : cvT S ts rs b = (-100 - nI R.2.1, rs) := by
  subst hR
  exact if_neg h
theorem cvT_y {S : Bk} {ts rs : List Int32} {b : Bool} {R : Bool × Nat × List Int32} (hR : cvF ts S b 60 0 [] = R) (h : R.1 = true ∧ ts.length ≤ R.2.1) (hl : R.2.2.length ≤ 400) : cvT S ts rs b = (nI R.2.2.length, R.2.2) := by
  subst hR
  refine (if_pos h).trans ?_
  rw [aa_in (by simpa using hl), List.nil_append]
theorem fwR_f {ts : List Int32} {R : Bool × Nat × List Int32} (hP : R.2.1 < 1000000000) (h : ¬ fwR ts R = -5) : ¬ (R.1 = true ∧ ts.length ≤ R.2.1) ∧ fwR ts R = nI R.2.1 := by
  unfold fwR at h ⊢
  split at h
  · exact absurd rfl h
  · rename_i h2
    exact ⟨h2, if_neg h2⟩
theorem fwR_t {ts : List Int32} {R : Bool × Nat × List Int32} (hP : R.2.1 < 1000000000) (h : fwR ts R = -5) : R.1 = true ∧ ts.length ≤ R.2.1 := by
  unfold fwR at h
  split at h
  · rename_i h2
    exact h2
  · exact absurd h (nI_m5 hP)
theorem cvF_le {ts : List Int32} {S : Bk} {b : Bool} : ∀ (n P : Nat) (ns : List Int32), P ≤ ts.length → (cvF ts S b n P ns).2.1 ≤ ts.length
  | 0, P, ns, h => h
  | n + 1, P, ns, h => by
    have hl := tl_le (m := cvm b) h
    have hq := cvq_le (b := b) hl
    unfold cvF
    split
    · exact hl
    · split
      · rename_i h2
        have h3 := at_lt (p := cvq ts b (P + (tlF (cvm b) (ts.drop P)).length)) (ts := ts) (by rw [h2]; decide)
        exact cvF_le n _ _ (by omega)
      · exact hq
theorem flt_y {c : Int32} (h : ¬ c = 39) : [c].filter n39 = [c] := List.filter_cons_of_pos (by unfold n39; rw [decide_eq_false h]; rfl)
theorem flt_n {c : Int32} (h : c = 39) : [c].filter n39 = [] := List.filter_cons_of_neg (by unfold n39; rw [decide_eq_true h]; exact Bool.false_ne_true)
theorem flt_lt {ys rs : List Int32} {k : Nat} (hk : k < ys.length) (h : ¬ ys.getD k (-5) = 39) (hr : rs.length + (ys.filter n39).length ≤ 420) : (rs ++ (ys.take k).filter n39).length < 420 := by
  have h1 : ys.filter n39 = (ys.take (k + 1)).filter n39 ++ (ys.drop (k + 1)).filter n39 := by rw [← List.filter_append, List.take_append_drop]
  rw [h1, ← tk1 hk, List.filter_append, flt_y h, List.length_append, List.length_append, List.length_singleton] at hr
  rw [List.length_append]
  omega
theorem tkP_ge {ts : List Int32} {P : Nat} {c : Int32} : P ≤ tkP ts P c := by
  unfold tkP
  split <;> omega
