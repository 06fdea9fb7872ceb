theorem adLn_in {most w : Nat} {L : List (List Int32)} {x : List Int32} (h : L.length < most) (hx : x.length ≤ w) : adLn most w L x = L ++ [x] := by
  unfold adLn
  rw [if_pos h, List.take_of_length_le hx]
def mpG {α : Type} (g : Nat → α) (k : Nat) : List α := (List.range k).map g
theorem mpG_len {α : Type} {g : Nat → α} {k : Nat} : (mpG g k).length = k := by unfold mpG; rw [List.length_map, List.length_range]
theorem mpG_add {α : Type} {g : Nat → α} {k : Nat} : mpG g (k + 1) = mpG g k ++ [g k] := by
  unfold mpG
  rw [List.range_succ, List.map_append]
  rfl
theorem mpG_at {α : Type} {g : Nat → α} {n k : Nat} {d : α} (h : k < n) : (mpG g n).getD k d = g k := by
  unfold mpG
  rw [gd_in (by rw [List.length_map, List.length_range]; exact h), List.getElem_map, List.getElem_range]
theorem sv_all {S : Bk} (hw : wfB S) : ∀ k, k ≤ S.2.2.2.2.1.length → (svS S k).1 = mpG (fun w => (hrW S (nthW S w)).1) k ∧ (svS S k).2.1 = mpG (fun w => (hrW S (nthW S w)).2.1) k ∧ (svS S k).2.2.1 = spG S k ∧ (svS S k).2.2.2.1 = mpG (fun w => nI (hrW S (nthW S w)).2.2.length) k
  | 0, _ => ⟨rfl, rfl, rfl, rfl⟩
  | k + 1, hk => by
    have h20 := hw.2.2.2.2.1
    obtain ⟨e1, e2, e3, e4⟩ := sv_all hw k (by omega)
    have hww := hw.2.2.2.2.2.2.2.2 k (by omega)
    have hok := hrW_ok hw hww.2.2.1
    have hsp := spW_len (kd := S.2.2.2.2.2.getD k (-5)) hw hww.2.2.1 ⟨hww.1, hww.2.1⟩
    refine ⟨?_, ?_, ?_, ?_⟩
    · show adLn 20 12 (svS S k).1 (hrW S (nthW S k)).1 = _
      rw [e1, adLn_in (by rw [mpG_len]; omega) hok.1, mpG_add]
    · show adLn 20 12 (svS S k).2.1 (hrW S (nthW S k)).2.1 = _
      rw [e2, adLn_in (by rw [mpG_len]; omega) hok.2.2.1, mpG_add]
    · show adLn 20 25 (svS S k).2.2.1 (spW S (nthW S k) (S.2.2.2.2.2.getD k (-5))) = _
      rw [e3, adLn_in (by rw [spG_len]; omega) hsp.2, spG_add]
    · show adL 20 (svS S k).2.2.2.1 _ = _
      rw [e4, adL_lt (by rw [mpG_len]; omega), mpG_add]
      rfl
theorem sv_sp {S : Bk} (hw : wfB S) : (svy S).2.2.1 = spL S := (sv_all hw _ (Nat.le_refl _)).2.2.1
theorem sv_so {S : Bk} (hw : wfB S) : (svy S).1 = mpG (fun w => (hrW S (nthW S w)).1) S.2.2.2.2.1.length := (sv_all hw _ (Nat.le_refl _)).1
theorem sv_ra {S : Bk} (hw : wfB S) : (svy S).2.1 = mpG (fun w => (hrW S (nthW S w)).2.1) S.2.2.2.2.1.length := (sv_all hw _ (Nat.le_refl _)).2.1
theorem sv_wu {S : Bk} (hw : wfB S) : (svy S).2.2.2.1 = mpG (fun w => nI (hrW S (nthW S w)).2.2.length) S.2.2.2.2.1.length := (sv_all hw _ (Nat.le_refl _)).2.2.2
theorem incL_app {vs : List Int32} : ∀ (rs us : List Int32), us.length < 1000000000 → (∀ r ∈ rs, ∃ I, I < us.length ∧ r = nI I) → incL (us ++ vs) rs = incL us rs ++ vs
  | [], _, _, _ => rfl
  | r :: rs, us, hN, h => by
    obtain ⟨I, hI, hr⟩ := h r List.mem_cons_self
    show incL (stL (us ++ vs) r (gt (us ++ vs) r + 1)) rs = incL (stL us r (gt us r + 1)) rs ++ vs
    have e1 : gt (us ++ vs) r = gt us r := by
      rw [hr, gt_n (by omega), gt_n (by omega), gd_in (by rw [List.length_append]; omega), gd_in hI, List.getElem_append_left hI]
    have e2 : ∀ v, stL (us ++ vs) r v = stL us r v ++ vs := fun v => by
      rw [hr, st_n (by omega), st_n (by omega), List.set_append_left _ _ hI]
    rw [e1, e2, incL_app rs _ (by rw [stL_len]; exact hN) (fun r2 h2 => by rw [stL_len]; exact h r2 (List.mem_cons_of_mem _ h2))]
theorem sv_us {S : Bk} (hw : wfB S) : ∀ k, k ≤ S.2.2.2.2.1.length → usS S k = (svS S k).2.2.2.2 ++ List.replicate (30 - S.1.length) 0 ∧ (svS S k).2.2.2.2.length = S.1.length
  | 0, _ => by
    have h30 := hw.1
    have e : (svS S 0).2.2.2.2 = List.replicate S.1.length 0 := by
      show amL 30 0 S.1.length [] = _
      rw [amL_rep _ _ (by simpa using h30), List.nil_append]
    rw [e]
    refine ⟨?_, List.length_replicate⟩
    show List.replicate 30 0 = _
    rw [List.replicate_append_replicate]
    exact congrArg (fun n => List.replicate n (0 : Int32)) (by omega)
  | k + 1, hk => by
    have h30 := hw.1
    obtain ⟨e1, e2⟩ := sv_us hw k (by omega)
    have hww := hw.2.2.2.2.2.2.2.2 k (by omega)
    have hok := hrW_ok hw hww.2.2.1
    refine ⟨?_, ?_⟩
    · show incL (usS S k) (hrW S (nthW S k)).2.2 = incL (svS S k).2.2.2.2 (hrW S (nthW S k)).2.2 ++ _
      rw [e1, incL_app _ _ (by omega) (fun r hr => by rw [e2]; exact hok.2.2.2.2 r hr)]
    · show (incL (svS S k).2.2.2.2 _).length = _
      rw [incL_len, e2]
theorem sv_ru {S : Bk} (hw : wfB S) {I : Nat} (hI : I < S.1.length) : (svy S).2.2.2.2.getD I (-5) = (usS S S.2.2.2.2.1.length).getD I (-5) := by
  obtain ⟨e1, e2⟩ := sv_us hw _ (Nat.le_refl _)
  rw [e1]
  show (svS S _).2.2.2.2.getD I (-5) = _
  rw [gd_in (by rw [e2]; exact hI), gd_in (by rw [List.length_append, e2]; omega), List.getElem_append_left (by rw [e2]; exact hI)]
theorem sv_rl {S : Bk} (hw : wfB S) : (svy S).2.2.2.2.length = S.1.length := (sv_us hw _ (Nat.le_refl _)).2
/-! the rules at letters are as many as letters -/
theorem hrF_len {S : Bk} {xs : List Int32} (hw : wfB S) (hx : xs.length ≤ 12) : ∀ (n p : Nat) (T : T3), T.2.1.length = p → p ≤ xs.length → xs.length ≤ p + n → (hrF S xs n p T).2.1.length = xs.length
  | 0, p, T, h1, h2, h3 => by
    show T.2.1.length = _
    omega
  | n + 1, p, T, h1, h2, h3 => by
    have h30 := hw.1
    by_cases hp : xs.length ≤ p
    · rw [hrF_end hp]; omega
    · show (if xs.length ≤ p then T else _ : T3).2.1.length = _
      rw [if_neg hp]
      rcases bst_h S xs p S.1.length with hb | ⟨I, hI, hb, hh⟩
      · rw [if_pos hb]
        exact hrF_len hw hx n (p + 1) _ (by show (adL 12 T.2.1 (-5)).length = _; rw [adL_lt (by omega), len1n]; omega) (by omega) (by omega)
      · have hll := hld_l hw hI hh
        have hl1 := (hw.2.2.2.2.2.2.1 I hI).1
        rw [hb, if_neg (nI_m5 (by omega)), nI_clamp (by omega)]
        have hn : (S.1.getD I []).length = (nthR S I).length := rfl
        refine hrF_len hw hx n _ _ ?_ (by omega) (by omega)
        show (amL 12 (nI I) (S.1.getD I []).length T.2.1).length = _
        rw [amL_rep _ _ (by omega), List.length_append, List.length_replicate]
        omega
theorem hrW_len {S : Bk} {xs : List Int32} (hw : wfB S) (hx : xs.length ≤ 12) : (hrW S xs).2.1.length = xs.length := hrF_len hw hx 12 0 _ rfl (Nat.zero_le _) (by omega)
/-! what is counted -/
theorem cnt_app {x : List Int32} {L M : List (List Int32)} : cnt x (L ++ M) = cnt x L + cnt x M := by
  unfold cnt
  rw [List.filter_append, List.length_append]
theorem cnt_R {L : List (List Int32)} {I : Nat} : ∀ n, n ≤ L.length → cnt (L.getD I []) (L.take n) = cntR (sameP L I) n
  | 0, _ => rfl
  | n + 1, h => by
    have hn : n < L.length := by omega
    rw [List.take_succ_eq_append_getElem hn, cnt_app, cnt_R n (by omega)]
    show _ = cntR (sameP L I) n + (if sameP L I n = true then 1 else 0)
    congr 1
    unfold cnt sameP
    rw [gd_in hn]
    by_cases e : L[n] = L.getD I []
    · rw [List.filter_cons_of_pos (by simpa using e), if_pos (by rw [e]; exact decide_eq_true rfl)]; rfl
    · rw [List.filter_cons_of_neg (by simpa using e), if_neg (fun z => e (of_decide_eq_true z).symm)]; rfl
theorem cnt_all {L : List (List Int32)} {I : Nat} : cnt (L.getD I []) L = cntR (sameP L I) L.length := by
  have := cnt_R (L := L) (I := I) L.length (Nat.le_refl _)
  rwa [List.take_length] at this
theorem cntR_cong {p q : Nat → Bool} : ∀ {n : Nat}, (∀ k, k < n → p k = q k) → cntR p n = cntR q n
  | 0, _ => rfl
  | n + 1, h => by
    show cntR p n + _ = cntR q n + _
    rw [cntR_cong (fun k hk => h k (by omega)), h n (by omega)]
theorem cntR_0 {p : Nat → Bool} : ∀ {n : Nat}, cntR p n = 0 ↔ ∀ k, k < n → p k = false
  | 0 => ⟨fun _ k hk => absurd hk (Nat.not_lt_zero k), fun _ => rfl⟩
  | n + 1 => by
    have ih := cntR_0 (p := p) (n := n)
    constructor
    · intro h k hk
      have h2 : cntR p n + (if p n = true then 1 else 0) = 0 := h
      by_cases e : p n = true
      · rw [if_pos e] at h2; omega
      · by_cases e2 : k = n
        · rw [e2]; simpa using e
        · exact ih.mp (by omega) k (by omega)
    · intro h
      show cntR p n + (if p n = true then 1 else 0) = 0
      rw [ih.mpr (fun k hk => h k (by omega)), if_neg (by rw [h n (by omega)]; exact Bool.false_ne_true)]
theorem fdo_first {x : List Int32} : ∀ {L : List (List Int32)} {k m : Nat}, m < L.length → L.getD m [] = x → (∀ j, j < m → ¬ L.getD j [] = x) → fdo x L k = some (k + m)
  | [], k, m, h, _, _ => absurd h (Nat.not_lt_zero m)
  | y :: L, k, m, h, h1, h2 => by
    unfold fdo
    cases m with
    | zero => rw [if_pos (by simpa using h1)]; rfl
    | succ m =>
      rw [if_neg (by simpa using h2 0 (Nat.zero_lt_succ m)), fdo_first (k := k + 1) (m := m) (by simpa using h) (by simpa using h1) (fun j hj => by simpa using h2 (j + 1) (by omega))]
      exact congrArg some (by omega)
theorem fdo_min {x : List Int32} : ∀ {L : List (List Int32)} {k m : Nat}, fdo x L k = some m → ∀ j, k + j < m → ¬ L.getD j [] = x
  | [], k, m, h, _, _ => by cases h
  | y :: L, k, m, h, j, hj => by
    unfold fdo at h
    by_cases e : y = x
    · rw [if_pos e] at h
      cases h
      omega
    · rw [if_neg e] at h
      cases j with
      | zero => simpa using e
      | succ j => simpa using fdo_min h j (by omega)
theorem fdo_isn {x : List Int32} : ∀ {L : List (List Int32)} {k : Nat}, fdo x L k = none → ∀ j, j < L.length → ¬ L.getD j [] = x
  | [], k, _, j, hj => absurd hj (Nat.not_lt_zero j)
  | y :: L, k, h, j, hj => by
    unfold fdo at h
    by_cases e : y = x
    · rw [if_pos e] at h; cases h
    · rw [if_neg e] at h
      cases j with
      | zero => simpa using e
      | succ j => simpa using fdo_isn h j (by simpa using hj)
theorem cbk_R {L : List (List Int32)} {k : Nat} (hk : k < L.length) (hN : L.length < 1000000000) : cbk L k = decide (cntR (sameP L k) k = 0) := by
  unfold cbk
  rw [decide_eq_decide]
  constructor
  · intro h
    refine cntR_0.mpr fun j hj => ?_
    refine decide_eq_false fun z => ?_
    cases hf : fdo (L.getD k []) L 0 with
    | none => exact fdo_isn hf k hk rfl
    | some m =>
      rw [hf] at h
      have hm := (fdo_lt hf).2.1
      have e : m = k := (nI_eq (by omega) (by omega)).mp h
      exact fdo_min hf j (by omega) z.symm
  · intro h
    have h2 := cntR_0.mp h
    rw [fdo_first hk rfl (fun j hj => fun z => of_decide_eq_false (h2 j hj) z.symm), Nat.zero_add]
    rfl
theorem col_M {S : Bk} (hw : wfB S) : cntR (col (svy S).2.2.1) (svy S).2.2.1.length = colM S := by
  rw [sv_sp hw, spL_len]
  unfold colM
  refine cntR_cong fun k hk => ?_
  show decide (1 < cnt ((spL S).getD k []) (spL S)) = _
  rw [cnt_all, spL_len]
theorem cbk_M {S : Bk} (hw : wfB S) : cntR (cbk (svy S).2.2.1) (svy S).2.2.1.length = cbM S := by
  have h20 := hw.2.2.2.2.1
  rw [sv_sp hw, spL_len]
  unfold cbM
  exact cntR_cong fun k hk => cbk_R (by rw [spL_len]; exact hk) (by rw [spL_len]; omega)
theorem unu_M {S : Bk} (hw : wfB S) : cntR (unu (svy S).2.2.2.2) (svy S).2.2.2.2.length = unM S := by
  rw [sv_rl hw]
  unfold unM
  refine cntR_cong fun k hk => ?_
  unfold unu
  rw [sv_ru hw hk]
theorem sumL_R {L : List (List Int32)} : ∀ n, n ≤ L.length → sumL (L.take n) = sumR (fun w => (L.getD w []).length) n
  | 0, _ => rfl
  | n + 1, h => by
    have hn : n < L.length := by omega
    rw [List.take_succ_eq_append_getElem hn]
    show sumL _ = sumR _ n + (L.getD n []).length
    rw [← sumL_R n (by omega), gd_in hn]
    unfold sumL
    rw [List.map_append, List.sum_append]
    simp
theorem sumL_all {L : List (List Int32)} : sumL L = sumR (fun w => (L.getD w []).length) L.length := by
  have := sumL_R (L := L) L.length (Nat.le_refl _)
  rwa [List.take_length] at this
theorem longS_R {L : List (List Int32)} (h : ∀ s, s < L.length → 1 ≤ (L.getD s []).length ∧ (L.getD s []).length ≤ 2) : ∀ n, n ≤ L.length → longS (L.take n) = sumR (fun s => (L.getD s []).length - 1) n
  | 0, _ => rfl
  | n + 1, hn2 => by
    have hn : n < L.length := by omega
    have hh := h n hn
    rw [List.take_succ_eq_append_getElem hn]
    show longS _ = sumR _ n + ((L.getD n []).length - 1)
    rw [← longS_R h n (by omega), gd_in hn]
    rw [gd_in hn] at hh
    unfold longS
    rw [List.filter_append, List.length_append]
    congr 1
    by_cases e : L[n].length = 2
    · rw [List.filter_cons_of_pos (by simpa using e), e]; rfl
    · rw [List.filter_cons_of_neg (by simpa using e)]
      show 0 = _
      omega
theorem longS_M {S : Bk} (hw : wfB S) : longS S.2.2.2.1 = sumR (fun s => (nthS S s).length - 1) 26 := by
  have h26 := hw.2.2.2.1
  have := longS_R (L := S.2.2.2.1) (fun s hs => ⟨(hw.2.2.2.2.2.2.2.1 s (by omega)).1, (hw.2.2.2.2.2.2.2.1 s (by omega)).2.1⟩) S.2.2.2.1.length (Nat.le_refl _)
  rw [List.take_length, h26] at this
  exact this
theorem cpB_wf {S : Bk} (hw : wfB S) (nr nw : Nat) (h1 : 30 ≤ nr) (h2 : 20 ≤ nw) : cpB nr nw S = S := by
  obtain ⟨w1, w2, w3, w4, w5, w6, -⟩ := hw
  unfold cpB
  rw [List.take_of_length_le (by omega), List.take_of_length_le (by omega), List.take_of_length_le (by omega), List.take_of_length_le (by omega), List.take_of_length_le (by omega), List.take_of_length_le (by omega)]
theorem rul_n {S : Bk} {i w : Int32} (h : hasL S.1 i = false) : vRule S i w = -1 := if_neg (by rw [h]; exact Bool.false_ne_true)
theorem rul_0 {S : Bk} {I : Nat} {w : Int32} (h : hasL S.1 (nI I) = true) (hI : I < S.1.length) (hN : S.1.length < 1000000000) (e : w = 0) : vRule S (nI I) w = nI (nthR S I).length := by
  unfold vRule
  rw [if_pos h, if_pos e, gl_n hI hN]
  rfl
theorem rul_1 {S : Bk} {I : Nat} {w : Int32} (h : hasL S.1 (nI I) = true) (hI : I < 1000000000) (e0 : ¬ w = 0) (e : w = 1) : vRule S (nI I) w = S.2.1.getD I (-5) := by
  unfold vRule
  rw [if_pos h, if_neg e0, if_pos e, gt_n (by omega)]
theorem rul_2 {S : Bk} {I : Nat} {w : Int32} (h : hasL S.1 (nI I) = true) (hI : I < 1000000000) (e0 : ¬ w = 0) (e1 : ¬ w = 1) (e : w = 2) : vRule S (nI I) w = S.2.2.1.getD I (-5) := by
  unfold vRule
  rw [if_pos h, if_neg e0, if_neg e1, if_pos e, gt_n (by omega)]
theorem rul_3 {S : Bk} {I : Nat} {w : Int32} (hw : wfB S) (h : hasL S.1 (nI I) = true) (hI : I < S.1.length) (e0 : ¬ w = 0) (e1 : ¬ w = 1) (e2 : ¬ w = 2) (e : w = 3) : vRule S (nI I) w = (usS S S.2.2.2.2.1.length).getD I (-5) := by
  unfold vRule
  rw [if_pos h, if_neg e0, if_neg e1, if_neg e2, if_pos e, gt_n (by have := hw.1; omega), sv_ru hw hI]
theorem rul_b {S : Bk} {i w : Int32} (h : hasL S.1 i = true) (e0 : ¬ w = 0) (e1 : ¬ w = 1) (e2 : ¬ w = 2) (e : ¬ w = 3) : vRule S i w = -2 := by
  unfold vRule
  rw [if_pos h, if_neg e0, if_neg e1, if_neg e2, if_neg e]
theorem wrd_n {S : Bk} {i w : Int32} (h : hasL S.2.2.2.2.1 i = false) : vWord S i w = -1 := if_neg (by rw [h]; exact Bool.false_ne_true)
theorem wrd_0 {S : Bk} {I : Nat} {w : Int32} (h : hasL S.2.2.2.2.1 (nI I) = true) (hI : I < 1000000000) (e : w = 0) : vWord S (nI I) w = S.2.2.2.2.2.getD I (-5) := by
  unfold vWord
  rw [if_pos h, if_pos e, gt_n (by omega)]
theorem wrd_1 {S : Bk} {I : Nat} {w : Int32} (h : hasL S.2.2.2.2.1 (nI I) = true) (hI : I < S.2.2.2.2.1.length) (hN : S.2.2.2.2.1.length < 1000000000) (e0 : ¬ w = 0) (e : w = 1) : vWord S (nI I) w = nI (nthW S I).length := by
  unfold vWord
  rw [if_pos h, if_neg e0, if_pos e, gl_n hI hN]
  rfl
theorem wrd_2 {S : Bk} {I : Nat} {w : Int32} (hw : wfB S) (h : hasL S.2.2.2.2.1 (nI I) = true) (hI : I < S.2.2.2.2.1.length) (e0 : ¬ w = 0) (e1 : ¬ w = 1) (e : w = 2) : vWord S (nI I) w = nI (hrW S (nthW S I)).1.length := by
  have h20 := hw.2.2.2.2.1
  unfold vWord
  rw [if_pos h, if_neg e0, if_neg e1, if_pos e, sv_so hw, gl_n (by rw [mpG_len]; exact hI) (by rw [mpG_len]; omega), mpG_at hI]
theorem wrd_3 {S : Bk} {I : Nat} {w : Int32} (hw : wfB S) (h : hasL S.2.2.2.2.1 (nI I) = true) (hI : I < S.2.2.2.2.1.length) (e0 : ¬ w = 0) (e1 : ¬ w = 1) (e2 : ¬ w = 2) (e : w = 3) : vWord S (nI I) w = nI ((spL S).getD I []).length := by
  have h20 := hw.2.2.2.2.1
  unfold vWord
  rw [if_pos h, if_neg e0, if_neg e1, if_neg e2, if_pos e, sv_sp hw, gl_n (by rw [spL_len]; exact hI) (by rw [spL_len]; omega)]
theorem wrd_4 {S : Bk} {I : Nat} {w : Int32} (hw : wfB S) (h : hasL S.2.2.2.2.1 (nI I) = true) (hI : I < S.2.2.2.2.1.length) (e0 : ¬ w = 0) (e1 : ¬ w = 1) (e2 : ¬ w = 2) (e3 : ¬ w = 3) (e : w = 4) : vWord S (nI I) w = nI (cntR (sameP (spL S) I) S.2.2.2.2.1.length) := by
  have h20 := hw.2.2.2.2.1
  unfold vWord
  rw [if_pos h, if_neg e0, if_neg e1, if_neg e2, if_neg e3, if_pos e, sv_sp hw, ln_n (by omega), cnt_all, spL_len]
theorem wrd_5 {S : Bk} {I : Nat} {w : Int32} (hw : wfB S) (h : hasL S.2.2.2.2.1 (nI I) = true) (hI : I < S.2.2.2.2.1.length) (e0 : ¬ w = 0) (e1 : ¬ w = 1) (e2 : ¬ w = 2) (e3 : ¬ w = 3) (e4 : ¬ w = 4) (e : w = 5) : vWord S (nI I) w = bI (decide (cntR (sameP (spL S) I) I = 0)) := by
  have h20 := hw.2.2.2.2.1
  unfold vWord
  rw [if_pos h, if_neg e0, if_neg e1, if_neg e2, if_neg e3, if_neg e4, if_pos e, sv_sp hw, nI_clamp (by omega), cbk_R (by rw [spL_len]; exact hI) (by rw [spL_len]; omega)]
theorem wrd_6 {S : Bk} {I : Nat} {w : Int32} (hw : wfB S) (h : hasL S.2.2.2.2.1 (nI I) = true) (hI : I < S.2.2.2.2.1.length) (e0 : ¬ w = 0) (e1 : ¬ w = 1) (e2 : ¬ w = 2) (e3 : ¬ w = 3) (e4 : ¬ w = 4) (e5 : ¬ w = 5) (e : w = 6) : vWord S (nI I) w = nI (hrW S (nthW S I)).2.2.length := by
  have h20 := hw.2.2.2.2.1
  unfold vWord
  rw [if_pos h, if_neg e0, if_neg e1, if_neg e2, if_neg e3, if_neg e4, if_neg e5, if_pos e, sv_wu hw, gt_n (by omega), mpG_at hI]
theorem wrd_b {S : Bk} {i w : Int32} (h : hasL S.2.2.2.2.1 i = true) (e0 : ¬ w = 0) (e1 : ¬ w = 1) (e2 : ¬ w = 2) (e3 : ¬ w = 3) (e4 : ¬ w = 4) (e5 : ¬ w = 5) (e : ¬ w = 6) : vWord S i w = -2 := by
  unfold vWord
  rw [if_pos h, if_neg e0, if_neg e1, if_neg e2, if_neg e3, if_neg e4, if_neg e5, if_neg e]
theorem vat_n {S : Bk} {i w j : Int32} (h : hasL S.2.2.2.2.1 i = false) : vAt S i w j = -1 := if_neg (by rw [h]; exact Bool.false_ne_true)
theorem vat_w {S : Bk} {i w j : Int32} (h : hasL S.2.2.2.2.1 i = true) (hk : ¬ (0 ≤ w ∧ w ≤ 3)) : vAt S i w j = -2 := by
  unfold vAt
  rw [if_pos h]
  split
  · rw [if_neg (fun z => hk (by rw [z]; decide)), if_neg (fun z => hk (by rw [z]; decide)), if_neg (fun z => hk (by rw [z]; decide)), if_neg (fun z => hk (by rw [z]; decide))]
  · rfl
theorem vat_j {S : Bk} {i w j : Int32} (h : hasL S.2.2.2.2.1 i = true) (hj : ¬ 0 ≤ j) : vAt S i w j = -2 := by
  unfold vAt
  rw [if_pos h, if_neg hj]
theorem vat_0 {S : Bk} {i w j : Int32} (h : hasL S.2.2.2.2.1 i = true) (hj : 0 ≤ j) (e : w = 0) : vAt S i w j = gg S.2.2.2.2.1 i j := by
  unfold vAt
  rw [if_pos h, if_pos hj, if_pos e]
theorem vat_1 {S : Bk} {i w j : Int32} (h : hasL S.2.2.2.2.1 i = true) (hj : 0 ≤ j) (e0 : ¬ w = 0) (e : w = 1) : vAt S i w j = gg (svy S).1 i j := by
  unfold vAt
  rw [if_pos h, if_pos hj, if_neg e0, if_pos e]
theorem vat_2 {S : Bk} {i w j : Int32} (h : hasL S.2.2.2.2.1 i = true) (hj : 0 ≤ j) (e0 : ¬ w = 0) (e1 : ¬ w = 1) (e : w = 2) : vAt S i w j = gg (svy S).2.2.1 i j := by
  unfold vAt
  rw [if_pos h, if_pos hj, if_neg e0, if_neg e1, if_pos e]
theorem w03 {w : Int32} (h : 0 ≤ w ∧ w ≤ 3) (e0 : ¬ w = 0) (e1 : ¬ w = 1) (e2 : ¬ w = 2) : w = 3 := by
  have h1 := i_le.mp h.1
  have h2 := i_le.mp h.2
  rw [i_eq] at e0 e1 e2 ⊢
  have q0 : (0 : Int32).toInt = 0 := by decide
  have q1 : (1 : Int32).toInt = 1 := by decide
  have q2 : (2 : Int32).toInt = 2 := by decide
  have q3 : (3 : Int32).toInt = 3 := by decide
  omega
theorem vat_3 {S : Bk} {i w j : Int32} (h : hasL S.2.2.2.2.1 i = true) (hj : 0 ≤ j) (hk : 0 ≤ w ∧ w ≤ 3) (e0 : ¬ w = 0) (e1 : ¬ w = 1) (e2 : ¬ w = 2) : vAt S i w j = gg (svy S).2.1 i j := by
  unfold vAt
  rw [if_pos h, if_pos hj, if_neg e0, if_neg e1, if_neg e2, if_pos (w03 hk e0 e1 e2)]
theorem gg_so {S : Bk} {I : Nat} {j : Int32} (hw : wfB S) (hI : I < S.2.2.2.2.1.length) : gg (svy S).1 (nI I) j = gt (hrW S (nthW S I)).1 j := by
  unfold gg
  rw [ln_n (by have := hw.2.2.2.2.1; omega), sv_so hw, mpG_at hI]
theorem gg_ra {S : Bk} {I : Nat} {j : Int32} (hw : wfB S) (hI : I < S.2.2.2.2.1.length) : gg (svy S).2.1 (nI I) j = gt (hrW S (nthW S I)).2.1 j := by
  unfold gg
  rw [ln_n (by have := hw.2.2.2.2.1; omega), sv_ra hw, mpG_at hI]
theorem gg_sp {S : Bk} {I : Nat} {j : Int32} (hw : wfB S) (hI : I < S.2.2.2.2.1.length) : gg (svy S).2.2.1 (nI I) j = gt ((spL S).getD I []) j := by
  unfold gg
  rw [ln_n (by have := hw.2.2.2.2.1; omega), sv_sp hw]
theorem gg_wd {S : Bk} {I : Nat} {j : Int32} (hw : wfB S) (hI : I < S.2.2.2.2.1.length) : gg S.2.2.2.2.1 (nI I) j = gt (nthW S I) j := by
  unfold gg
  rw [ln_n (by have := hw.2.2.2.2.1; omega)]
  rfl
def sgS (S : Bk) (s : Nat) (l : Int32) : Bk := (S.1, S.2.1, S.2.2.1, S.2.2.2.1.set s [l], S.2.2.2.2.1, S.2.2.2.2.2)
theorem col_n {S : Bk} {c l : Int32} (h : cpt c = false) : vColl S c l = -1 := if_neg (by rw [h]; exact Bool.false_ne_true)
theorem col_2 {S : Bk} {c l : Int32} (h : cpt c = true) (hl : sm l = false) : vColl S c l = -2 := by
  unfold vColl
  rw [if_pos h, if_neg (by rw [hl]; exact Bool.false_ne_true)]
theorem col_y {S : Bk} {c l : Int32} {s : Nat} (hw : wfB S) (hw2 : wfB (sgS S s l)) (h : cpt c = true) (hl : sm l = true) (hs : s < 26) (hc : c - 65 = nI s) : vColl S c l = nI (colM (sgS S s l)) := by
  have h26 := hw.2.2.2.1
  have e : sgB (cpB 60 50 S) c l = sgS S s l := by
    rw [cpB_wf hw 60 50 (by decide) (by decide)]
    unfold sgB sgS poL
    rw [hc, hasL_n (by omega), if_pos (decide_eq_true (by omega)), nI_clamp (by omega)]
  unfold vColl
  rw [if_pos h, if_pos hl, e, col_M hw2]
