theorem cv_step {ts : List Int32} {S : Bk} {b : Bool} {n P : Nat} {ns : List Int32} {R : Bool × Nat × List Int32} (hw : wfB S) (hP : P ≤ ts.length) (hn : ts.length + 1 ≤ P + 2 * n) (hR : cvF ts S b n P ns = R) (h1 : R.1 = true) (h2 : ts.length ≤ R.2.1) (h60 : ts.length ≤ 60) (hns : 2 * ns.length ≤ 13 * P) : ∃ w xs O : List Int32, 1 ≤ w.length ∧ (∀ x ∈ w, low x) ∧ w.length ≤ xs.length ∧ pcT ts P xs ∧ (∀ j, j < xs.length → ¬ xs.getD j (-5) = 32) ∧ (b = false → xs = w ∧ w.length ≤ 12 ∧ O = spW S w (kndW S w)) ∧ (b = true → O = (bkY S (spL S) xs).filter n39) ∧ ns.length + O.length ≤ 399 ∧ ((ts.getD (P + xs.length) (-5) = 32 ∧ P + xs.length < ts.length ∧ ∃ n2, ts.length + 1 ≤ P + xs.length + 1 + 2 * n2 ∧ cvF ts S b n2 (P + xs.length + 1) ((ns ++ O) ++ [32]) = R ∧ 2 * ((ns ++ O) ++ [32]).length ≤ 13 * (P + xs.length + 1)) ∨ (P + xs.length = ts.length ∧ R.2.2 = ns ++ O)) := by
  by_cases h : (tlF (cvm b) (ts.drop P)).length = 0
  · have e := cv_0 hP hn hR h
    rw [e] at h1
    exact absurd h1 Bool.false_ne_true
  obtain ⟨hpc, hpq⟩ := cv_piece (b := b) hP
  have hlow := tlF_low (cvm b) (ts.drop P)
  have hl := (tlF_len (cvm b) (ts.drop P)).1
  have h24 := cvm_le (b := b)
  have htl := tl_le (m := cvm b) hP
  have hq := cvq_le (b := b) htl
  have hge : P + (tlF (cvm b) (ts.drop P)).length ≤ cvq ts b (P + (tlF (cvm b) (ts.drop P)).length) := by
    unfold cvq
    split
    · exact tkP_ge
    · exact Nat.le_refl _
  have ho := out_len (S := S) (b := b) (m := cvk ts b (P + (tlF (cvm b) (ts.drop P)).length)) hw hlow (by omega) hl
  have hx := fun (j : Nat) (hj : j < (xsW b (cvk ts b (P + (tlF (cvm b) (ts.drop P)).length)) (tlF (cvm b) (ts.drop P))).length) => xsW_ne hlow hj
  have hbk : b = true → outW S b (cvk ts b (P + (tlF (cvm b) (ts.drop P)).length)) (tlF (cvm b) (ts.drop P)) = (bkY S (spL S) (xsW b (cvk ts b (P + (tlF (cvm b) (ts.drop P)).length)) (tlF (cvm b) (ts.drop P)))).filter n39 := by
    intro hb
    subst hb
    refine (if_pos rfl).trans ((bk_ok hw hlow (by omega)).trans ?_)
    rfl
  have hcv1 := fun h3 => cv_1 hP hn hR h h3
  have hcv2 := fun h3 => cv_2 hP hn hR h h3
  have hf : b = false → xsW b (cvk ts b (P + (tlF (cvm b) (ts.drop P)).length)) (tlF (cvm b) (ts.drop P)) = tlF (cvm b) (ts.drop P) ∧ (tlF (cvm b) (ts.drop P)).length ≤ 12 ∧ outW S b (cvk ts b (P + (tlF (cvm b) (ts.drop P)).length)) (tlF (cvm b) (ts.drop P)) = spW S (tlF (cvm b) (ts.drop P)) (kndW S (tlF (cvm b) (ts.drop P))) := by
    intro hb
    subst hb
    exact ⟨rfl, hl, rfl⟩
  rw [← hpq] at hq hge hcv1 hcv2
  generalize xsW b (cvk ts b (P + (tlF (cvm b) (ts.drop P)).length)) (tlF (cvm b) (ts.drop P)) = xs at *
  generalize outW S b (cvk ts b (P + (tlF (cvm b) (ts.drop P)).length)) (tlF (cvm b) (ts.drop P)) = O at *
  generalize tlF (cvm b) (ts.drop P) = w at *
  have hO : ns.length + O.length ≤ 399 := by omega
  refine ⟨w, xs, O, by omega, hlow, by omega, hpc, hx, hf, hbk, hO, ?_⟩
  by_cases h3 : ts.getD (P + xs.length) (-5) = 32
  · obtain ⟨n2, g1, g2⟩ := hcv1 h3
    rw [aa_in (by omega), adL_lt (by rw [List.length_append]; omega)] at g2
    refine Or.inl ⟨h3, at_lt (by rw [h3]; decide), n2, g1, g2, ?_⟩
    rw [len1n, List.length_append]
    omega
  · have g := hcv2 h3
    rw [aa_in (by omega)] at g
    rw [g] at h2
    exact Or.inr ⟨Nat.le_antisymm hq h2, by rw [g]⟩
