theorem re_0 {ts : List Int32} {n P cnt : Nat} {v : Rw} {D : Bk} {nw : Bool} {R : Er} (hP : P ≤ ts.length) (hn : ts.length + 1 ≤ P + 2 * n) (hR : reF ts n (P, v) D nw cnt = R) (h : (tEntry ts (P, v)).1 = false) : R = (false, (tEntry ts (P, v)).2, D, nw, cnt) := by
  cases n with
  | zero => omega
  | succ n => exact hR.symm.trans (if_neg (by rw [h]; exact Bool.false_ne_true))
def nxD (ts : List Int32) (P : Nat) (v : Rw) (D : Bk) : Bk := addEnt 60 50 D (tEntry ts (P, v)).2.2.2.2.2.2 (tEntry ts (P, v)).2.2.1 (tEntry ts (P, v)).2.2.2.1 (tEntry ts (P, v)).2.2.2.2.1 (tEntry ts (P, v)).2.2.2.2.2.1
def nxN (ts : List Int32) (P : Nat) (v : Rw) (D : Bk) (nw : Bool) : Bool := newEnt D (tEntry ts (P, v)).2.2.2.2.2.2 (tEntry ts (P, v)).2.2.1 (tEntry ts (P, v)).2.2.2.2.1 && nw
theorem tE_ge {ts : List Int32} {P : Nat} {v : Rw} (h : (tEntry ts (P, v)).1 = true) : P + 2 ≤ (tEntry ts (P, v)).2.1 := by
  by_cases h58 : ts.getD P (-5) = 58
  · by_cases h0 : (tlF 12 (ts.drop (P + 1))).length = 0
    · rw [(tW_0 h58 h0).1] at h
      exact absurd h Bool.false_ne_true
    · by_cases h33 : ts.getD (P + 1 + (tlF 12 (ts.drop (P + 1))).length) (-5) = 33
      · rw [tW_1 h58 h0 h33]
        show P + 2 ≤ P + 1 + (tlF 12 (ts.drop (P + 1))).length + 1
        omega
      · by_cases h39 : ts.getD (P + 1 + (tlF 12 (ts.drop (P + 1))).length) (-5) = 39
        · rw [tW_2 h58 h0 h33 h39]
          show P + 2 ≤ P + 1 + (tlF 12 (ts.drop (P + 1))).length + 1
          omega
        · rw [tW_3 h58 h0 h33 h39]
          show P + 2 ≤ P + 1 + (tlF 12 (ts.drop (P + 1))).length
          omega
  · cases hc : cpt (ts.getD P (-5)) with
    | true =>
      by_cases h61 : ts.getD (P + 1) (-5) = 61
      · by_cases h0 : (tlF 2 (ts.drop (P + 2))).length = 0
        · rw [(tS_1 h58 hc h61 h0).1] at h
          exact absurd h Bool.false_ne_true
        · rw [tS_2 h58 hc h61 h0]
          show P + 2 ≤ P + 2 + (tlF 2 (ts.drop (P + 2))).length
          omega
      · rw [(tS_0 h58 hc h61).1] at h
        exact absurd h Bool.false_ne_true
    | false =>
      by_cases h0 : (tlF 4 (ts.drop P)).length = 0
      · rw [(tR_0 h58 hc h0).1] at h
        exact absurd h Bool.false_ne_true
      · by_cases h61 : ts.getD (P + (tlF 4 (ts.drop P)).length) (-5) = 61
        · cases hs : sndOk (ts.getD (P + (tlF 4 (ts.drop P)).length + 1) (-5)) with
          | false =>
            rw [(tR_2 h58 hc h0 h61 hs).1] at h
            exact absurd h Bool.false_ne_true
          | true =>
            rw [tR_3 h58 hc h0 h61 hs]
            show P + 2 ≤ sdP ts (P + (tlF 4 (ts.drop P)).length + 1 + 1)
            unfold sdP
            split <;> omega
        · rw [(tR_1 h58 hc h0 h61).1] at h
          exact absurd h Bool.false_ne_true
/-- what an entry that was read holds -/
def enF (r : Rs) : Prop := (r.2.1 = 0 ∧ rul1 r.2.2.2.2.2 r.2.2.1 r.2.2.2.1) ∨ (r.2.1 = 1 ∧ wrd1 r.2.2.2.2.2 r.2.2.2.2.1) ∨ (r.2.1 = 2 ∧ (∃ s, s < 26 ∧ r.2.2.1 - 65 = nI s) ∧ 1 ≤ r.2.2.2.2.2.length ∧ r.2.2.2.2.2.length ≤ 2)
theorem tE_f {ts : List Int32} {P : Nat} {v : Rw} (h : (tEntry ts (P, v)).1 = true) : enF (tEntry ts (P, v)).2 := by
  by_cases h58 : ts.getD P (-5) = 58
  · have hl := tlF_len 12 (ts.drop (P + 1))
    have hlow := tlF_low 12 (ts.drop (P + 1))
    by_cases h0 : (tlF 12 (ts.drop (P + 1))).length = 0
    · rw [(tW_0 h58 h0).1] at h
      exact absurd h Bool.false_ne_true
    · refine Or.inr (Or.inl ?_)
      by_cases h33 : ts.getD (P + 1 + (tlF 12 (ts.drop (P + 1))).length) (-5) = 33
      · rw [tW_1 h58 h0 h33]
        exact ⟨rfl, Nat.pos_of_ne_zero h0, hl.1, hlow, (by decide : (0 : Int32) ≤ 1), (by decide : (1 : Int32) ≤ 2)⟩
      · by_cases h39 : ts.getD (P + 1 + (tlF 12 (ts.drop (P + 1))).length) (-5) = 39
        · rw [tW_2 h58 h0 h33 h39]
          exact ⟨rfl, Nat.pos_of_ne_zero h0, hl.1, hlow, (by decide : (0 : Int32) ≤ 2), (by decide : (2 : Int32) ≤ 2)⟩
        · rw [tW_3 h58 h0 h33 h39]
          exact ⟨rfl, Nat.pos_of_ne_zero h0, hl.1, hlow, (by decide : (0 : Int32) ≤ 0), (by decide : (0 : Int32) ≤ 2)⟩
  · cases hc : cpt (ts.getD P (-5)) with
    | true =>
      by_cases h61 : ts.getD (P + 1) (-5) = 61
      · by_cases h0 : (tlF 2 (ts.drop (P + 2))).length = 0
        · rw [(tS_1 h58 hc h61 h0).1] at h
          exact absurd h Bool.false_ne_true
        · rw [tS_2 h58 hc h61 h0]
          obtain ⟨s, hs, -, h2⟩ := cpt_n (of_decide_eq_true hc)
          exact Or.inr (Or.inr ⟨rfl, ⟨s, hs, h2⟩, Nat.pos_of_ne_zero h0, (tlF_len 2 (ts.drop (P + 2))).1⟩)
      · rw [(tS_0 h58 hc h61).1] at h
        exact absurd h Bool.false_ne_true
    | false =>
      have hl := tlF_len 4 (ts.drop P)
      have hlow := tlF_low 4 (ts.drop P)
      by_cases h0 : (tlF 4 (ts.drop P)).length = 0
      · rw [(tR_0 h58 hc h0).1] at h
        exact absurd h Bool.false_ne_true
      · by_cases h61 : ts.getD (P + (tlF 4 (ts.drop P)).length) (-5) = 61
        · cases hs : sndOk (ts.getD (P + (tlF 4 (ts.drop P)).length + 1) (-5)) with
          | false =>
            rw [(tR_2 h58 hc h0 h61 hs).1] at h
            exact absurd h Bool.false_ne_true
          | true =>
            rw [tR_3 h58 hc h0 h61 hs]
            refine Or.inl ⟨rfl, Nat.pos_of_ne_zero h0, hl.1, hlow, ?_, (sd_in _).1, (sd_in _).2⟩
            show (if ts.getD (P + (tlF 4 (ts.drop P)).length + 1) (-5) = 95 then (0 : Int32) else ts.getD (P + (tlF 4 (ts.drop P)).length + 1) (-5)) = 0 ∨ _
            by_cases h95 : ts.getD (P + (tlF 4 (ts.drop P)).length + 1) (-5) = 95
            · rw [if_pos h95]
              exact Or.inl rfl
            · right
              show 65 ≤ (if ts.getD (P + (tlF 4 (ts.drop P)).length + 1) (-5) = 95 then (0 : Int32) else ts.getD (P + (tlF 4 (ts.drop P)).length + 1) (-5)) ∧ (if ts.getD (P + (tlF 4 (ts.drop P)).length + 1) (-5) = 95 then (0 : Int32) else ts.getD (P + (tlF 4 (ts.drop P)).length + 1) (-5)) ≤ 90
              rw [if_neg h95]
              unfold sndOk at hs
              rw [decide_eq_false h95, Bool.false_or] at hs
              exact of_decide_eq_true hs
        · rw [(tR_1 h58 hc h0 h61).1] at h
          exact absurd h Bool.false_ne_true
theorem re_1 {ts : List Int32} {n P cnt : Nat} {v : Rw} {D : Bk} {nw : Bool} {R : Er} (hP : P ≤ ts.length) (hn : ts.length + 1 ≤ P + 2 * n) (hR : reF ts n (P, v) D nw cnt = R) (h : (tEntry ts (P, v)).1 = true) (h2 : ts.getD (tEntry ts (P, v)).2.1 (-5) = 44) : ∃ n2, ts.length + 1 ≤ (tEntry ts (P, v)).2.1 + 1 + 2 * n2 ∧ reF ts n2 ((tEntry ts (P, v)).2.1 + 1, (tEntry ts (P, v)).2.2) (nxD ts P v D) (nxN ts P v D nw) (cnt + 1) = R := by
  cases n with
  | zero => omega
  | succ n =>
    have hg := tE_ge h
    refine ⟨n, by omega, ?_⟩
    rw [← hR]
    have e : tTake ts 44 (tEntry ts (P, v)).2 = (true, ((tEntry ts (P, v)).2.1 + 1, (tEntry ts (P, v)).2.2)) := tTake_t h2
    refine Eq.symm ((if_pos h).trans ((if_pos (by rw [e])).trans ?_))
    rw [e]
    rfl
theorem re_2 {ts : List Int32} {n P cnt : Nat} {v : Rw} {D : Bk} {nw : Bool} {R : Er} (hP : P ≤ ts.length) (hn : ts.length + 1 ≤ P + 2 * n) (hR : reF ts n (P, v) D nw cnt = R) (h : (tEntry ts (P, v)).1 = true) (h2 : ¬ ts.getD (tEntry ts (P, v)).2.1 (-5) = 44) : R = (true, (tEntry ts (P, v)).2, nxD ts P v D, nxN ts P v D nw, cnt + 1) := by
  cases n with
  | zero => omega
  | succ n =>
    rw [← hR]
    have e : tTake ts 44 (tEntry ts (P, v)).2 = (false, (tEntry ts (P, v)).2) := tTake_f h2
    refine (if_pos h).trans ((if_neg (by rw [e]; exact Bool.false_ne_true)).trans ?_)
    rw [e]
    rfl
theorem reF_le {ts : List Int32} : ∀ (n : Nat) (st : Rs) (D : Bk) (nw : Bool) (cnt : Nat), st.1 ≤ ts.length → (reF ts n st D nw cnt).2.1.1 ≤ ts.length
  | 0, st, D, nw, cnt, h => h
  | n + 1, st, D, nw, cnt, h => by
    have hl := tEnt_le (S := st) h
    unfold reF
    split
    · split
      · exact reF_le n _ _ _ _ (tk_le hl (by decide))
      · exact tk_le hl (by decide)
    · exact hl
theorem feR_f {ts : List Int32} {R : Er} (hP : R.2.1.1 < 1000000000) (h : ¬ feR ts R = -5) : ¬ (R.1 = true ∧ ts.length ≤ R.2.1.1) ∧ feR ts R = nI R.2.1.1 := by
  unfold feR at h ⊢
  split at h
  · exact absurd rfl h
  · rename_i h2
    exact ⟨h2, if_neg h2⟩
theorem feR_t {ts : List Int32} {R : Er} (hP : R.2.1.1 < 1000000000) (h : feR ts R = -5) : R.1 = true ∧ ts.length ≤ R.2.1.1 := by
  unfold feR at h
  split at h
  · rename_i h2
    exact h2
  · exact absurd h (nI_m5 hP)
/-! the developers' draft beside the model's row -/
def isWe (e : Ye) : Bool := decide (e.2.2 = -5)
def isRe (e : Ye) : Bool := !isWe e
def Rl (D : Bk) (nw : Bool) (Z : Me) : Prop := nw = !Z.2.2 ∧ (Z.2.2 = false → D.1 = Z.1.1 ++ (Z.2.1.filter isRe).map (fun e => e.2.1) ∧ D.2.2.1 = Z.1.2.2.1 ++ (Z.2.1.filter isRe).map (fun e => e.2.2) ∧ D.2.1.take Z.1.1.length = Z.1.2.1 ∧ D.2.1.length = D.1.length ∧ D.2.2.2.1 = Z.1.2.2.2.1 ∧ D.2.2.2.2.1 = Z.1.2.2.2.2.1 ++ (Z.2.1.filter isWe).map (fun e => e.2.1) ∧ D.2.2.2.2.2.take Z.1.2.2.2.2.1.length = Z.1.2.2.2.2.2 ∧ D.2.2.2.2.2.length = D.2.2.2.2.1.length ∧ (Z.2.1.filter isRe ≠ [] → Z.1.1.length = 30) ∧ (Z.2.1.filter isWe ≠ [] → Z.1.2.2.2.2.1.length = 20))
theorem hasRl_1 {L : List (List Int32)} {M : List Int32} {x l : List Int32} {y d : Int32} (h : M.length = L.length) : hasRl (L ++ [x]) (M ++ [y]) l d = (hasRl L M l d || (decide (y = d) && decide (x = l))) := by
  unfold hasRl
  rw [len_a1, List.range_succ, List.any_append]
  congr 1
  · have : ∀ n, n ≤ L.length → (List.range n).any (fun k => decide ((M ++ [y]).getD k (-5) = d) && decide ((L ++ [x]).getD k [] = l)) = (List.range n).any (fun k => decide (M.getD k (-5) = d) && decide (L.getD k [] = l)) := by
      intro n
      induction n with
      | zero => intro _; rfl
      | succ n ih =>
        intro hn
        rw [List.range_succ, List.any_append, List.any_append, ih (by omega)]
        congr 1
        simp only [List.any_cons, List.any_nil, Bool.or_false]
        rw [gd_app1 (by omega), gd_app1 (by omega)]
    exact this _ (Nat.le_refl _)
  · simp only [List.any_cons, List.any_nil, Bool.or_false]
    rw [gd_app2]
    rw [show (M ++ [y]).getD L.length (-5) = y by rw [← h]; exact gd_app2]
theorem hasRl_app {l : List Int32} {d : Int32} : ∀ (X : List Ye) (L : List (List Int32)) (M : List Int32), M.length = L.length → hasRl (L ++ X.map (fun e => e.2.1)) (M ++ X.map (fun e => e.2.2)) l d = (hasRl L M l d || X.any (byP l d))
  | [], L, M, _ => by
    simp
  | e :: X, L, M, h => by
    have ih := hasRl_app (l := l) (d := d) X (L ++ [e.2.1]) (M ++ [e.2.2]) (by rw [len_a1, len_a1, h])
    rw [List.map_cons, List.map_cons, List.any_cons]
    rw [List.append_assoc, List.append_assoc] at ih
    refine ih.trans ?_
    rw [hasRl_1 h, Bool.or_assoc]
    unfold byP
    rw [Bool.and_comm (decide (e.2.1 = l))]
theorem byd_R {l : List Int32} {d : Int32} (hd : ¬ d = -5) : ∀ B : List Ye, (B.filter isRe).any (byP l d) = byd B l d
  | [] => rfl
  | e :: B => by
    show _ = (byP l d e || byd B l d)
    rw [← byd_R hd B]
    by_cases h : isRe e = true
    · rw [List.filter_cons_of_pos h, List.any_cons]
    · rw [List.filter_cons_of_neg h]
      have h5 : e.2.2 = -5 := by
        unfold isRe isWe at h
        by_cases z : e.2.2 = -5
        · exact z
        · rw [decide_eq_false z] at h
          exact absurd rfl h
      have : byP l d e = false := by
        unfold byP
        rw [h5, show decide ((-5 : Int32) = d) = false from decide_eq_false (fun z => hd z.symm), Bool.and_false]
      rw [this, Bool.false_or]
theorem byd_W {l : List Int32} : ∀ B : List Ye, (B.filter isWe).any (fun e => decide (e.2.1 = l)) = byd B l (-5)
  | [] => rfl
  | e :: B => by
    show _ = (byP l (-5) e || byd B l (-5))
    rw [← byd_W B]
    by_cases h : isWe e = true
    · rw [List.filter_cons_of_pos h, List.any_cons]
      unfold byP
      have h2 : decide (e.2.2 = -5) = true := h
      rw [h2, Bool.and_true]
    · rw [List.filter_cons_of_neg h]
      unfold byP
      have h2 : decide (e.2.2 = -5) = false := by
        cases hz : decide (e.2.2 = -5) with
        | false => rfl
        | true => exact absurd hz h
      rw [h2, Bool.and_false, Bool.false_or]
theorem fdo_any {x : List Int32} : ∀ (L : List (List Int32)) (k : Nat), (fdo x L k).isSome = L.any (fun y => decide (y = x))
  | [], _ => rfl
  | y :: L, k => by
    unfold fdo
    rw [List.any_cons]
    by_cases e : y = x
    · rw [if_pos e, decide_eq_true e, Bool.true_or]; rfl
    · rw [if_neg e, decide_eq_false e, Bool.false_or]; exact fdo_any L (k + 1)
theorem flt_1 {p : Ye → Bool} {B : List Ye} {e : Ye} (h : p e = true) : (B ++ [e]).filter p = B.filter p ++ [e] := by
  rw [List.filter_append, List.filter_cons_of_pos h]
  rfl
theorem flt_0 {p : Ye → Bool} {B : List Ye} {e : Ye} (h : p e = false) : (B ++ [e]).filter p = B.filter p := by
  rw [List.filter_append, List.filter_cons_of_neg (by rw [h]; exact Bool.false_ne_true)]
  exact List.append_nil _
theorem tk_app {xs : List Int32} {n : Nat} {v : Int32} (h : n ≤ xs.length) : (xs ++ [v]).take n = xs.take n := by
  rw [List.take_append_of_le_length h]
theorem Rl_rule {D : Bk} {nw : Bool} {Z : Me} {F : Nat} {l : List Int32} {s d : Int32} (hw : wfB Z.1) (hB : Z.2.1.length ≤ 19) (hx : rul1 l s d) (h : Rl D nw Z) : Rl (addRule 60 D l s d) (!hasRl D.1 D.2.2.1 l d && nw) (adR Z F l s d) := by
  obtain ⟨h1, h2⟩ := h
  obtain ⟨w1, w2, w3, w4, w5, w6, -⟩ := hw
  have hd5 : ¬ d = -5 := fun z => by have := hx.2.2.2.2.1; rw [z] at this; exact absurd this (by decide)
  cases ht : Z.2.2 with
  | true =>
    rw [ht] at h1
    refine ⟨?_, fun z => ?_⟩
    · rw [h1]
      show _ = !(Z.2.2 || _)
      rw [ht, Bool.true_or, Bool.not_true, Bool.and_false]
    · have z2 : (Z.2.2 || (byd Z.2.1 l d || hasRl Z.1.1 Z.1.2.2.1 l d)) = false := z
      rw [ht, Bool.true_or] at z2
      exact absurd z2 (by decide)
  | false =>
    obtain ⟨g1, g2, g3, g4, g5, g6, g7, g8, g9, g10⟩ := h2 ht
    rw [ht] at h1
    have hfl := List.length_filter_le isRe Z.2.1
    have eh : hasRl D.1 D.2.2.1 l d = (byd Z.2.1 l d || hasRl Z.1.1 Z.1.2.2.1 l d) := by
      rw [g1, g2, hasRl_app _ _ _ w3, byd_R hd5, Bool.or_comm]
    have hl1 : D.1.length < 60 := by rw [g1, List.length_append, List.length_map]; omega
    have hl2 : D.2.2.1.length = D.1.length := by rw [g1, g2, List.length_append, List.length_append, List.length_map, List.length_map, w3]
    refine ⟨?_, fun z => ?_⟩
    · show _ = !(Z.2.2 || (byd Z.2.1 l d || hasRl Z.1.1 Z.1.2.2.1 l d))
      rw [ht, Bool.false_or, eh, h1, Bool.not_false, Bool.and_true]
    · have z2 : (Z.2.2 || (byd Z.2.1 l d || hasRl Z.1.1 Z.1.2.2.1 l d)) = false := z
      rw [ht, Bool.false_or, ← eh] at z2
      have ea : addRule 60 D l s d = (D.1 ++ [l], D.2.1 ++ [s], D.2.2.1 ++ [d], D.2.2.2.1, D.2.2.2.2.1, D.2.2.2.2.2) := by
        unfold addRule
        rw [if_neg (by rw [z2]; exact Bool.false_ne_true), adLn_in hl1 hx.2.1, adL_lt (by omega), adL_lt (by omega)]
      rw [ea]
      have hre : isRe (F, l, d) = true := by
        unfold isRe isWe
        rw [decide_eq_false hd5]
        rfl
      have hwe : isWe (F, l, d) = false := decide_eq_false hd5
      by_cases h30 : Z.1.1.length = 30
      · have e : adR Z F l s d = (Z.1, Z.2.1 ++ [(F, l, d)], Z.2.2 || (byd Z.2.1 l d || hasRl Z.1.1 Z.1.2.2.1 l d)) := by
          unfold adR
          rw [if_pos h30, if_pos h30]
        rw [e]
        refine ⟨?_, ?_, ?_, ?_, g5, ?_, g7, g8, fun _ => h30, ?_⟩
        · show D.1 ++ [l] = Z.1.1 ++ ((Z.2.1 ++ [(F, l, d)]).filter isRe).map _
          rw [flt_1 hre, List.map_append, ← List.append_assoc, ← g1]
          rfl
        · show D.2.2.1 ++ [d] = Z.1.2.2.1 ++ ((Z.2.1 ++ [(F, l, d)]).filter isRe).map _
          rw [flt_1 hre, List.map_append, ← List.append_assoc, ← g2]
          rfl
        · show (D.2.1 ++ [s]).take Z.1.1.length = _
          rw [tk_app (by rw [g4, g1, List.length_append]; omega), g3]
        · show (D.2.1 ++ [s]).length = (D.1 ++ [l]).length
          rw [len_a1, len_a1, g4]
        · show D.2.2.2.2.1 = Z.1.2.2.2.2.1 ++ ((Z.2.1 ++ [(F, l, d)]).filter isWe).map _
          rw [flt_0 hwe]
          exact g6
        · show (Z.2.1 ++ [(F, l, d)]).filter isWe ≠ [] → _
          rw [flt_0 hwe]
          exact g10
      · have hnil : Z.2.1.filter isRe = [] := Classical.byContradiction fun q => h30 (g9 q)
        rw [hnil] at g1 g2
        have g1 : D.1 = Z.1.1 := g1.trans (List.append_nil _)
        have g2 : D.2.2.1 = Z.1.2.2.1 := g2.trans (List.append_nil _)
        have e : adR Z F l s d = (adRB Z.1 l s d, Z.2.1, Z.2.2 || (byd Z.2.1 l d || hasRl Z.1.1 Z.1.2.2.1 l d)) := by
          unfold adR
          rw [if_neg h30, if_neg h30]
        rw [e]
        refine ⟨?_, ?_, ?_, ?_, g5, g6, g7, g8, fun q => absurd hnil q, g10⟩
        · show D.1 ++ [l] = (Z.1.1 ++ [l]) ++ (Z.2.1.filter isRe).map _
          rw [hnil, g1]
          exact (List.append_nil _).symm
        · show D.2.2.1 ++ [d] = (Z.1.2.2.1 ++ [d]) ++ (Z.2.1.filter isRe).map _
          rw [hnil, g2]
          exact (List.append_nil _).symm
        · show (D.2.1 ++ [s]).take (Z.1.1 ++ [l]).length = Z.1.2.1 ++ [s]
          rw [List.take_of_length_le (by rw [len_a1, len_a1, g4, g1]; exact Nat.le_refl _)]
          rw [← g3, List.take_of_length_le (by rw [g4, g1]; exact Nat.le_refl _)]
        · show (D.2.1 ++ [s]).length = (D.1 ++ [l]).length
          rw [len_a1, len_a1, g4]
theorem hasWd_any {S : Bk} {xs : List Int32} : hasWd S xs = S.2.2.2.2.1.any (fun y => decide (y = xs)) := fdo_any _ _
theorem Rl_word {D : Bk} {nw : Bool} {Z : Me} {F : Nat} {l : List Int32} {k : Int32} (hw : wfB Z.1) (hB : Z.2.1.length ≤ 19) (hx : wrd1 l k) (h : Rl D nw Z) : Rl (addWord 50 D l k) (!hasWd D l && nw) (adW Z F l k) := by
  obtain ⟨h1, h2⟩ := h
  obtain ⟨w1, w2, w3, w4, w5, w6, -⟩ := hw
  cases ht : Z.2.2 with
  | true =>
    rw [ht] at h1
    refine ⟨?_, fun z => ?_⟩
    · rw [h1]
      show _ = !(Z.2.2 || _)
      rw [ht, Bool.true_or, Bool.not_true, Bool.and_false]
    · have z2 : (Z.2.2 || (byd Z.2.1 l (-5) || hasWd Z.1 l)) = false := z
      rw [ht, Bool.true_or] at z2
      exact absurd z2 (by decide)
  | false =>
    obtain ⟨g1, g2, g3, g4, g5, g6, g7, g8, g9, g10⟩ := h2 ht
    rw [ht] at h1
    have hfl := List.length_filter_le isWe Z.2.1
    have eh : hasWd D l = (byd Z.2.1 l (-5) || hasWd Z.1 l) := by
      rw [hasWd_any, hasWd_any, g6, List.any_append, List.any_map, ← byd_W, Bool.or_comm]
      rfl
    have hl1 : D.2.2.2.2.1.length < 50 := by rw [g6, List.length_append, List.length_map]; omega
    refine ⟨?_, fun z => ?_⟩
    · show _ = !(Z.2.2 || (byd Z.2.1 l (-5) || hasWd Z.1 l))
      rw [ht, Bool.false_or, eh, h1, Bool.not_false, Bool.and_true]
    · have z2 : (Z.2.2 || (byd Z.2.1 l (-5) || hasWd Z.1 l)) = false := z
      rw [ht, Bool.false_or, ← eh] at z2
      have hno : fdo l D.2.2.2.2.1 0 = none := by
        cases hf : fdo l D.2.2.2.2.1 0 with
        | none => rfl
        | some q =>
          unfold hasWd at z2
          rw [hf] at z2
          exact absurd z2.symm Bool.false_ne_true
      have ea : addWord 50 D l k = (D.1, D.2.1, D.2.2.1, D.2.2.2.1, D.2.2.2.2.1 ++ [l], D.2.2.2.2.2 ++ [k]) := by
        unfold addWord
        rw [if_pos hno, adLn_in hl1 hx.2.1, adL_lt (by omega)]
      rw [ea]
      have hwe : isWe (F, l, -5) = true := rfl
      have hre : isRe (F, l, -5) = false := rfl
      by_cases h20 : Z.1.2.2.2.2.1.length = 20
      · have e : adW Z F l k = (Z.1, Z.2.1 ++ [(F, l, -5)], Z.2.2 || (byd Z.2.1 l (-5) || hasWd Z.1 l)) := by
          unfold adW
          rw [if_pos h20, if_pos h20]
        rw [e]
        refine ⟨?_, ?_, g3, g4, g5, ?_, ?_, ?_, ?_, fun _ => h20⟩
        · show D.1 = Z.1.1 ++ ((Z.2.1 ++ [(F, l, -5)]).filter isRe).map _
          rw [flt_0 hre]
          exact g1
        · show D.2.2.1 = Z.1.2.2.1 ++ ((Z.2.1 ++ [(F, l, -5)]).filter isRe).map _
          rw [flt_0 hre]
          exact g2
        · show D.2.2.2.2.1 ++ [l] = Z.1.2.2.2.2.1 ++ ((Z.2.1 ++ [(F, l, -5)]).filter isWe).map _
          rw [flt_1 hwe, List.map_append, ← List.append_assoc, ← g6]
          rfl
        · show (D.2.2.2.2.2 ++ [k]).take Z.1.2.2.2.2.1.length = _
          rw [tk_app (by rw [g8, g6, List.length_append]; omega), g7]
        · show (D.2.2.2.2.2 ++ [k]).length = (D.2.2.2.2.1 ++ [l]).length
          rw [len_a1, len_a1, g8]
        · show (Z.2.1 ++ [(F, l, -5)]).filter isRe ≠ [] → _
          rw [flt_0 hre]
          exact g9
      · have hnil : Z.2.1.filter isWe = [] := Classical.byContradiction fun q => h20 (g10 q)
        rw [hnil] at g6
        have g6 : D.2.2.2.2.1 = Z.1.2.2.2.2.1 := g6.trans (List.append_nil _)
        have e : adW Z F l k = (adWB Z.1 l k, Z.2.1, Z.2.2 || (byd Z.2.1 l (-5) || hasWd Z.1 l)) := by
          unfold adW
          rw [if_neg h20, if_neg h20]
        rw [e]
        refine ⟨g1, g2, g3, g4, g5, ?_, ?_, ?_, g9, fun q => absurd hnil q⟩
        · show D.2.2.2.2.1 ++ [l] = (Z.1.2.2.2.2.1 ++ [l]) ++ (Z.2.1.filter isWe).map _
          rw [hnil, g6]
          exact (List.append_nil _).symm
        · show (D.2.2.2.2.2 ++ [k]).take (Z.1.2.2.2.2.1 ++ [l]).length = Z.1.2.2.2.2.2 ++ [k]
          rw [List.take_of_length_le (by rw [len_a1, len_a1, g8, g6]; exact Nat.le_refl _)]
          rw [← g7, List.take_of_length_le (by rw [g8, g6]; exact Nat.le_refl _)]
        · show (D.2.2.2.2.2 ++ [k]).length = (D.2.2.2.2.1 ++ [l]).length
          rw [len_a1, len_a1, g8]
theorem Rl_sign {D : Bk} {nw : Bool} {Z : Me} {s : Nat} {c : Int32} {l : List Int32} (hw : wfB Z.1) (hs : s < 26) (hc : c - 65 = nI s) (hl : l.length ≤ 2) (h : Rl D nw Z) : Rl (D.1, D.2.1, D.2.2.1, ptL 2 D.2.2.2.1 (c - 65) l, D.2.2.2.2.1, D.2.2.2.2.2) nw (adG Z (c - 65).toNatClampNeg l) := by
  obtain ⟨h1, h2⟩ := h
  refine ⟨h1, fun z => ?_⟩
  obtain ⟨g1, g2, g3, g4, g5, g6, g7, g8, g9, g10⟩ := h2 z
  refine ⟨g1, g2, g3, g4, ?_, g6, g7, g8, g9, g10⟩
  show ptL 2 D.2.2.2.1 (c - 65) l = Z.1.2.2.2.1.set (c - 65).toNatClampNeg l
  have w4 := hw.2.2.2.1
  unfold ptL
  rw [hc, hasL_n (by omega), if_pos (decide_eq_true (by rw [g5]; omega)), List.take_of_length_le hl, g5]
theorem Rl_step {ts : List Int32} {P : Nat} {v : Rw} {D : Bk} {nw : Bool} {Z : Me} (hw : wfB Z.1) (hB : Z.2.1.length ≤ 19) (ht : (tEntry ts (P, v)).1 = true) (h : Rl D nw Z) : Rl (nxD ts P v D) (nxN ts P v D nw) (adE Z P (tEntry ts (P, v)).2) := by
  have hf := tE_f ht
  unfold nxD nxN adE addEnt newEnt
  rcases hf with ⟨e, hx⟩ | ⟨e, hx⟩ | ⟨e, ⟨s, hs, hc⟩, hl1, hl2⟩
  · rw [if_pos e, if_pos e, if_pos e]
    exact Rl_rule hw hB hx h
  · have e0 : ¬ (tEntry ts (P, v)).2.2.1 = 0 := fun z => by rw [e] at z; exact absurd z (by decide)
    rw [if_neg e0, if_pos e, if_neg e0, if_pos e, if_neg e0, if_pos e]
    exact Rl_word hw hB hx h
  · have e0 : ¬ (tEntry ts (P, v)).2.2.1 = 0 := fun z => by rw [e] at z; exact absurd z (by decide)
    have e1 : ¬ (tEntry ts (P, v)).2.2.1 = 1 := fun z => by rw [e] at z; exact absurd z (by decide)
    rw [if_neg e0, if_neg e1, if_neg e0, if_neg e1, if_neg e0, if_neg e1, Bool.true_and]
    exact Rl_sign hw hs hc hl2 h
theorem Rl_0 {S : Bk} (hw : wfB S) : Rl (cpB 60 50 S) true (S, [], false) := by
  rw [cpB_wf hw 60 50 (by decide) (by decide)]
  obtain ⟨w1, w2, w3, w4, w5, w6, -⟩ := hw
  refine ⟨rfl, fun _ => ⟨(List.append_nil _).symm, (List.append_nil _).symm, List.take_of_length_le (by show S.2.1.length ≤ S.1.length; omega), w2, rfl, (List.append_nil _).symm, List.take_of_length_le (by show S.2.2.2.2.2.length ≤ S.2.2.2.2.1.length; omega), w6, fun q => absurd rfl q, fun q => absurd rfl q⟩⟩
theorem Rl_end {D : Bk} {nw : Bool} {Z : Me} (hw : wfB Z.1) (h : Rl D nw Z) (ht : Z.2.2 = false) (hm : tmB Z = false) : D = Z.1 := by
  obtain ⟨g1, g2, g3, g4, g5, g6, g7, g8, -⟩ := h.2 ht
  obtain ⟨w1, w2, w3, w4, w5, w6, -⟩ := hw
  have hnil : Z.2.1 = [] := by
    have := of_decide_eq_false hm
    exact List.length_eq_zero_iff.mp (by omega)
  rw [hnil] at g1 g2 g6
  have g1 : D.1 = Z.1.1 := g1.trans (List.append_nil _)
  have g2 : D.2.2.1 = Z.1.2.2.1 := g2.trans (List.append_nil _)
  have g6 : D.2.2.2.2.1 = Z.1.2.2.2.2.1 := g6.trans (List.append_nil _)
  rw [List.take_of_length_le (by rw [g4, g1]; exact Nat.le_refl _)] at g3
  rw [List.take_of_length_le (by rw [g8, g6]; exact Nat.le_refl _)] at g7
  exact Prod.ext g1 (Prod.ext g3 (Prod.ext g2 (Prod.ext g5 (Prod.ext g6 g7))))
theorem Rl_full {D : Bk} {nw : Bool} {Z : Me} (h : Rl D nw Z) (ht : Z.2.2 = false) (hm : tmB Z = true) (hD : D.1.length < 1000000000 ∧ D.2.2.2.2.1.length < 1000000000) : ¬ (nI D.1.length ≤ 30 ∧ nI D.2.2.2.2.1.length ≤ 20) := by
  obtain ⟨g1, g2, g3, g4, g5, g6, g7, g8, g9, g10⟩ := h.2 ht
  have hlen := of_decide_eq_true hm
  intro z
  have z1 := z.1
  have z2 := z.2
  rw [show (30 : Int32) = nI 30 from rfl, nI_leI (by omega) (by omega)] at z1
  rw [show (20 : Int32) = nI 20 from rfl, nI_leI (by omega) (by omega)] at z2
  rw [g1, List.length_append, List.length_map] at z1
  rw [g6, List.length_append, List.length_map] at z2
  have n1 : Z.2.1.filter isRe = [] := Classical.byContradiction fun q => by
    have := g9 q
    have := List.length_pos_iff.mpr q
    omega
  have n2 : Z.2.1.filter isWe = [] := Classical.byContradiction fun q => by
    have := g10 q
    have := List.length_pos_iff.mpr q
    omega
  have h0 : 0 < Z.2.1.length := hlen
  obtain ⟨e, he⟩ := List.exists_mem_of_length_pos h0
  cases hz : isWe e with
  | true =>
    have : e ∈ Z.2.1.filter isWe := List.mem_filter.mpr ⟨he, hz⟩
    rw [n2] at this
    exact absurd this List.not_mem_nil
  | false =>
    have : e ∈ Z.2.1.filter isRe := List.mem_filter.mpr ⟨he, by unfold isRe; rw [hz]; rfl⟩
    rw [n1] at this
    exact absurd this List.not_mem_nil
def rdT (S : Bk) (hs : List Bk) (ts : List Int32) (R : Er) : At := if R.1 = true ∧ ts.length ≤ R.2.1.1 then (if R.2.2.2.1 = true then (if nI R.2.2.1.1.length ≤ 30 ∧ nI R.2.2.1.2.2.2.2.1.length ≤ 20 then (nI R.2.2.2.2, cpB 30 20 R.2.2.1, rec4 hs S) else (-3, S, hs)) else (-4, S, hs)) else (-100 - nI R.2.1.1, S, hs)
theorem rdT_f {S : Bk} {hs : List Bk} {ts : List Int32} {R : Er} (h : ¬ (R.1 = true ∧ ts.length ≤ R.2.1.1)) : rdT S hs ts R = (-100 - nI R.2.1.1, S, hs) := if_neg h
theorem rdT_4 {S : Bk} {hs : List Bk} {ts : List Int32} {R : Er} (h : R.1 = true ∧ ts.length ≤ R.2.1.1) (h2 : R.2.2.2.1 = false) : rdT S hs ts R = (-4, S, hs) := (if_pos h).trans (if_neg (by rw [h2]; exact Bool.false_ne_true))
theorem rdT_3 {S : Bk} {hs : List Bk} {ts : List Int32} {R : Er} (h : R.1 = true ∧ ts.length ≤ R.2.1.1) (h2 : R.2.2.2.1 = true) (h3 : ¬ (nI R.2.2.1.1.length ≤ 30 ∧ nI R.2.2.1.2.2.2.2.1.length ≤ 20)) : rdT S hs ts R = (-3, S, hs) := (if_pos h).trans ((if_pos h2).trans (if_neg h3))
theorem rdT_y {S : Bk} {hs : List Bk} {ts : List Int32} {R : Er} (h : R.1 = true ∧ ts.length ≤ R.2.1.1) (h2 : R.2.2.2.1 = true) (h3 : nI R.2.2.1.1.length ≤ 30 ∧ nI R.2.2.1.2.2.2.2.1.length ≤ 20) : rdT S hs ts R = (nI R.2.2.2.2, cpB 30 20 R.2.2.1, rec4 hs S) := (if_pos h).trans ((if_pos h2).trans (if_pos h3))
theorem reF_len {ts : List Int32} : ∀ (n : Nat) (st : Rs) (D : Bk) (nw : Bool) (cnt : Nat), D.1.length ≤ 60 → D.2.2.2.2.1.length ≤ 50 → (reF ts n st D nw cnt).2.2.1.1.length ≤ 60 ∧ (reF ts n st D nw cnt).2.2.1.2.2.2.2.1.length ≤ 50
  | 0, st, D, nw, cnt, h1, h2 => ⟨h1, h2⟩
  | n + 1, st, D, nw, cnt, h1, h2 => by
    have ha : ∀ l e s d k, (addEnt 60 50 D l e s d k).1.length ≤ 60 ∧ (addEnt 60 50 D l e s d k).2.2.2.2.1.length ≤ 50 := by
      intro l e s d k
      unfold addEnt
      split
      · unfold addRule
        split
        · exact ⟨h1, h2⟩
        · refine ⟨?_, h2⟩
          show (adLn 60 4 D.1 l).length ≤ 60
          unfold adLn
          split
          · rw [len_a1]; omega
          · exact h1
      · split
        · unfold addWord
          split
          · refine ⟨h1, ?_⟩
            show (adLn 50 12 D.2.2.2.2.1 l).length ≤ 50
            unfold adLn
            split
            · rw [len_a1]; omega
            · exact h2
          · exact ⟨h1, h2⟩
        · exact ⟨h1, h2⟩
    unfold reF
    split
    · split
      · exact reF_len n _ _ _ _ (ha _ _ _ _ _).1 (ha _ _ _ _ _).2
      · exact ha _ _ _ _ _
    · exact ⟨h1, h2⟩
theorem adE_len {Z : Me} {P : Nat} {r : Rs} : (adE Z P r).2.1.length ≤ Z.2.1.length + 1 := by
  unfold adE
  split
  · show (if Z.1.1.length = 30 then _ else _ : List Ye).length ≤ _
    split
    · rw [len_a1]; exact Nat.le_refl _
    · omega
  · split
    · show (if Z.1.2.2.2.2.1.length = 20 then _ else _ : List Ye).length ≤ _
      split
      · rw [len_a1]; exact Nat.le_refl _
      · omega
    · show Z.2.1.length ≤ _
      omega
