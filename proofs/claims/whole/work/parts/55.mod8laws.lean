/-! what a new spelling rests on -/
def sameRS (S S' : Bk) : Prop := S'.1 = S.1 ∧ S'.2.1 = S.2.1 ∧ S'.2.2.1 = S.2.2.1 ∧ S'.2.2.2.1 = S.2.2.2.1
theorem hld_cong {S S' : Bk} {xs : List Int32} {I P : Nat} (h : sameRS S S') : hld S' xs I P = hld S xs I P := by
  unfold hld hldL
  rw [h.1, h.2.2.1]
theorem rk_cong {S S' : Bk} {k : Nat} (h : sameRS S S') : rk S' k = rk S k := by
  unfold rk
  rw [h.1, h.2.2.1]
theorem bst_cong {S S' : Bk} {xs : List Int32} {P : Nat} (h : sameRS S S') : ∀ n, bst S' xs P n = bst S xs P n
  | 0 => rfl
  | n + 1 => by
    unfold bst
    rw [bst_cong h n, rk_cong h, hld_cong h]
theorem useT_cong {S S' : Bk} {I : Nat} {T : T3} (h : sameRS S S') : useT S' I T = useT S I T := by
  unfold useT
  rw [h.1, h.2.1]
theorem hrF_cong {S S' : Bk} {xs : List Int32} (h : sameRS S S') : ∀ (n p : Nat) (T : T3), hrF S' xs n p T = hrF S xs n p T
  | 0, _, _ => rfl
  | n + 1, p, T => by
    unfold hrF
    rw [h.1, bst_cong h, hrF_cong h n, hrF_cong h n, useT_cong h]
theorem spW_cong {S S' : Bk} {xs : List Int32} {kd : Int32} (h : sameRS S S') : spW S' xs kd = spW S xs kd := by
  unfold spW hrW
  rw [hrF_cong h, h.2.2.2]
theorem mkS_rs {S : Bk} {v : Sv} : ∀ k, sameRS S (mkS S v k)
  | 0 => ⟨rfl, rfl, rfl, rfl⟩
  | k + 1 => by
    by_cases h : tbm (mkS S v k) v k = true
    · rw [mkS_t h]; exact mkS_rs k
    · rw [mkS_f (by simpa using h)]; exact mkS_rs k
theorem mkS_kd {S : Bk} {v : Sv} : ∀ k, k ≤ S.2.2.2.2.2.length → k < 1000000000 → (mkS S v k).2.2.2.2.2.length = S.2.2.2.2.2.length ∧ ∀ j, (mkS S v k).2.2.2.2.2.getD j (-5) = if j < k ∧ tbm S v j = true then 2 else S.2.2.2.2.2.getD j (-5)
  | 0, _, _ => ⟨rfl, fun j => by rw [if_neg (fun z => absurd z.1 (Nat.not_lt_zero j))]; rfl⟩
  | k + 1, hk, hN => by
    obtain ⟨e1, e2⟩ := mkS_kd (S := S) (v := v) k (by omega) (by omega)
    have et : tbm (mkS S v k) v k = tbm S v k := by
      unfold tbm
      rw [e2 k, if_neg (fun z => absurd z.1 (Nat.lt_irrefl k))]
    by_cases h : tbm S v k = true
    · rw [mkS_t (et.trans h)]
      have e3 : (kindB (mkS S v k) (nI k) 2).2.2.2.2.2 = (mkS S v k).2.2.2.2.2.set k 2 := by
        show stL (mkS S v k).2.2.2.2.2 (nI k) 2 = _
        rw [st_n (by omega)]
      refine ⟨by rw [e3, List.length_set]; exact e1, fun j => ?_⟩
      rw [e3, gd_st (by omega)]
      by_cases e : j = k
      · rw [if_pos e, if_pos ⟨by omega, by rw [e]; exact h⟩]
      · rw [if_neg e, e2 j]
        by_cases e4 : j < k ∧ tbm S v j = true
        · rw [if_pos e4, if_pos ⟨by omega, e4.2⟩]
        · rw [if_neg e4, if_neg (fun z => e4 ⟨by omega, z.2⟩)]
    · have h2 : tbm S v k = false := by simpa using h
      rw [mkS_f (et.trans h2)]
      refine ⟨e1, fun j => ?_⟩
      rw [e2 j]
      by_cases e4 : j < k ∧ tbm S v j = true
      · rw [if_pos e4, if_pos ⟨by omega, e4.2⟩]
      · rw [if_neg e4, if_neg (fun z => e4 ⟨by have : j ≠ k := fun e => h (by rw [← e]; exact z.2); omega, z.2⟩)]
theorem tbm_mk {S : Bk} {v : Sv} {k : Nat} (hk : k ≤ S.2.2.2.2.2.length) (hN : k < 1000000000) : tbm (mkS S v k) v k = tbm S v k := by
  unfold tbm
  rw [(mkS_kd k hk hN).2 k, if_neg (fun z => absurd z.1 (Nat.lt_irrefl k))]
theorem mk_sp {S : Bk} {v : Sv} {k j : Nat} (hw : wfB S) (hk : k ≤ S.2.2.2.2.1.length) (hj : j < S.2.2.2.2.1.length) : (spL (mkS S v k)).getD j [] = spW S (nthW S j) (if j < k ∧ tbm S v j = true then 2 else S.2.2.2.2.2.getD j (-5)) := by
  have h20 := hw.2.2.2.2.1
  have h6 := hw.2.2.2.2.2.1
  have e1 := mkS_wl S v k
  rw [spL_at (by rw [e1]; exact hj), spW_cong (mkS_rs k), (mkS_kd k (by omega) (by omega)).2 j]
  unfold nthW
  rw [e1]
theorem cntR_ex {p : Nat → Bool} {n : Nat} (h : ¬ cntR p n = 0) : ∃ k, k < n ∧ p k = true := by
  refine Classical.byContradiction fun z => h (cntR_0.mpr fun k hk => ?_)
  cases e : p k with
  | false => rfl
  | true => exact absurd ⟨k, hk, e⟩ z
theorem sp_low {S : Bk} {w : Nat} (hw : wfB S) (hwn : w < S.2.2.2.2.1.length) (h0 : S.2.2.2.2.2.getD w (-5) = 0) : ∀ x ∈ spW S (nthW S w) 0, low x := by
  have hww := hw.2.2.2.2.2.2.2.2 w hwn
  have := (bare_ok (kd := 0) hw hww.2.2.1 ⟨hww.1, hww.2.1⟩).2.2
  rw [spW_bare, wr3_n (by decide)]
  exact this
theorem sp_mark {S : Bk} {w : Nat} (hw : wfB S) (hwn : w < S.2.2.2.2.1.length) : (39 : Int32) ∈ spW S (nthW S w) 2 := by
  have hww := hw.2.2.2.2.2.2.2.2 w hwn
  have := (bare_ok (kd := 2) hw hww.2.2.1 ⟨hww.1, hww.2.1⟩).2.1
  rw [spW_bare, wr3_2 (by omega)]
  exact List.mem_append.mpr (Or.inr (List.mem_singleton.mpr rfl))
theorem low_39 {x : Int32} (h : low x) : ¬ x = 39 := fun z => by rw [z] at h; exact absurd h.1 (by decide)
theorem mk_same {S : Bk} {k : Nat} (hw : wfB S) (hk : k < S.2.2.2.2.1.length) (h0 : S.2.2.2.2.2.getD k (-5) = 0) : cntR (sameP (spL (mkS S (svy S) k)) k) k = 0 ↔ cntR (sameP (spL S) k) k = 0 := by
  have h20 := hw.2.2.2.2.1
  have eA := fun j (hj : j < S.2.2.2.2.1.length) => mk_sp (v := svy S) (k := k) (j := j) hw (by omega) hj
  have ek : (spL (mkS S (svy S) k)).getD k [] = spW S (nthW S k) 0 := by rw [eA k hk, if_neg (fun z => absurd z.1 (Nat.lt_irrefl k)), h0]
  have eS : (spL S).getD k [] = spW S (nthW S k) 0 := by rw [spL_at hk, h0]
  rw [cntR_0, cntR_0]
  constructor
  · intro h j hj
    induction j using Nat.strongRecOn with
    | _ j ih =>
      refine decide_eq_false fun z => ?_
      rw [eS] at z
      have hA := of_decide_eq_false (h j hj)
      rw [ek, eA j (by omega)] at hA
      by_cases ht : tbm S (svy S) j = true
      · unfold tbm at ht
        rw [sv_sp hw, cbk_R (by rw [spL_len]; omega) (by rw [spL_len]; omega)] at ht
        have h2 : ¬ cntR (sameP (spL S) j) j = 0 := by
          intro e
          rw [decide_eq_true e, Bool.not_true, Bool.and_false] at ht
          exact Bool.false_ne_true ht
        obtain ⟨i, hi, hs⟩ := cntR_ex h2
        have hs := of_decide_eq_true hs
        refine of_decide_eq_false (ih i hi (by omega)) ?_
        rw [eS, ← hs]
        exact z
      · rw [if_neg (fun q => ht q.2), ← spL_at (by omega)] at hA
        exact hA z
  · intro h j hj
    refine decide_eq_false fun z => ?_
    rw [ek, eA j (by omega)] at z
    by_cases ht : tbm S (svy S) j = true
    · rw [if_pos ⟨hj, ht⟩] at z
      have := sp_mark hw (show j < S.2.2.2.2.1.length by omega)
      rw [← z] at this
      exact low_39 (sp_low hw hk h0 _ this) rfl
    · rw [if_neg (fun q => ht q.2), ← spL_at (by omega), ← eS] at z
      exact of_decide_eq_false (h j hj) z
theorem mkS_id {S : Bk} {v : Sv} : ∀ n, n ≤ S.2.2.2.2.2.length → n < 1000000000 → cntR (tbm S v) n = 0 → mkS S v n = S
  | 0, _, _, _ => rfl
  | n + 1, hn, hN, h => by
    have h2 := cntR_0.mp h
    have e : tbm (mkS S v n) v n = false := by rw [tbm_mk (by omega) (by omega)]; exact h2 n (by omega)
    rw [mkS_f e]
    exact mkS_id n (by omega) (by omega) (cntR_0.mpr fun k hk => h2 k (by omega))
theorem tbm_y {S : Bk} {k : Nat} (hw : wfB S) (hk : k < S.2.2.2.2.1.length) (h0 : S.2.2.2.2.2.getD k (-5) = 0) (hc : ¬ cntR (sameP (spL (mkS S (svy S) k)) k) k = 0) : tbm S (svy S) k = true := by
  have h20 := hw.2.2.2.2.1
  unfold tbm
  rw [decide_eq_true h0, sv_sp hw, cbk_R (by rw [spL_len]; exact hk) (by rw [spL_len]; omega), decide_eq_false (fun z => hc ((mk_same hw hk h0).mpr z))]
  rfl
theorem tbm_n {S : Bk} {k : Nat} (hw : wfB S) (hk : k < S.2.2.2.2.1.length) (h0 : S.2.2.2.2.2.getD k (-5) = 0) (hc : cntR (sameP (spL (mkS S (svy S) k)) k) k = 0) : tbm S (svy S) k = false := by
  have h20 := hw.2.2.2.2.1
  unfold tbm
  rw [decide_eq_true h0, sv_sp hw, cbk_R (by rw [spL_len]; exact hk) (by rw [spL_len]; omega), decide_eq_true ((mk_same hw hk h0).mp hc)]
  rfl
theorem tbm_k {S : Bk} {v : Sv} {k : Nat} (h0 : ¬ S.2.2.2.2.2.getD k (-5) = 0) : tbm S v k = false := by
  unfold tbm
  rw [decide_eq_false h0]
  rfl
def mkT (S : Bk) (hs : List Bk) : At := if nI (cntR (tbm S (svy S)) S.2.2.2.2.1.length) = 0 then (-5, S, hs) else (nI (cntR (tbm S (svy S)) S.2.2.2.2.1.length), mkS S (svy S) S.2.2.2.2.1.length, rec4 hs S)
/-! a rule put to another place -/
def t2K (t1 : Nat → Int32) (n K : Nat) : Nat → Int32 := fun j => if 2 + K + 7 ≤ j ∧ j < 2 + 7 * n then t1 (j - 7) else t1 j
theorem t2K_0 {t1 : Nat → Int32} {n : Nat} (hn : 1 ≤ n) : t2K t1 n (7 * (n - 1)) = t1 := by
  funext j
  exact if_neg (by omega)
theorem t2K_s {t1 : Nat → Int32} {n K : Nat} (hK : K + 1 + 7 ≤ 7 * n) : upd (t2K t1 n (K + 1)) (2 + K + 7) (t2K t1 n (K + 1) (2 + K)) = t2K t1 n K := by
  funext j
  unfold upd t2K
  by_cases h : j = 2 + K + 7
  · rw [if_pos h, if_neg (by omega), if_pos (by omega), h]
    exact congrArg t1 (by omega)
  · rw [if_neg h]
    by_cases h2 : 2 + (K + 1) + 7 ≤ j ∧ j < 2 + 7 * n
    · rw [if_pos h2, if_pos (by omega)]
    · rw [if_neg h2, if_neg (by omega)]
def t4K (f t3 : Nat → Int32) (I J k : Nat) : Nat → Int32 := fun j => if 2 + 7 * J ≤ j ∧ j < 2 + 7 * J + k then f (2 + 7 * I + (j - (2 + 7 * J))) else t3 j
theorem t4K_0 {f t3 : Nat → Int32} {I J : Nat} : t4K f t3 I J 0 = t3 := by
  funext j
  exact if_neg (by omega)
theorem t4K_s {f t3 : Nat → Int32} {I J k : Nat} : upd (t4K f t3 I J k) (2 + 7 * J + k) (f (2 + 7 * I + k)) = t4K f t3 I J (k + 1) := by
  funext j
  unfold upd t4K
  by_cases h : j = 2 + 7 * J + k
  · rw [if_pos h, if_pos (by omega), h, Nat.add_sub_cancel_left]
  · rw [if_neg h]
    by_cases h2 : 2 + 7 * J ≤ j ∧ j < 2 + 7 * J + k
    · rw [if_pos h2, if_pos (by omega)]
    · rw [if_neg h2, if_neg (by omega)]
theorem allR_shift {S : Bk} {f : Nat → Int32} {I J : Nat} (h : allR S f) (hI : I < S.1.length) (hJ : J < S.1.length) : allR (shiftR S I J) (t4K f (upd (t2K (toK f 0 2 7 I (S.1.length - 1) (7 * (S.1.length - 1))) S.1.length (7 * J)) 0 (nI S.1.length)) I J 7) := by
  have hw := h.1
  obtain ⟨w1, w2, w3, -⟩ := hw
  have l1 : (shiftR S I J).1.length = S.1.length := mvG_len
  have l2 : (shiftR S I J).2.1.length = S.1.length := by
    show (mvL S.2.1 I J).length = _
    rw [mvL_eq (by omega) (by omega) (by omega), mvG_len, w2]
  have l3 : (shiftR S I J).2.2.1.length = S.1.length := by
    show (mvL S.2.2.1 I J).length = _
    rw [mvL_eq (by omega) (by omega) (by omega), mvG_len, w3]
  refine allR_rules (pmv I J) h (by omega) (by omega) (by omega) (fun k hk => ?_) rfl ?_ (fun j hj => ?_) (fun k hk i hi => ?_)
  · rw [l1] at hk
    refine ⟨pmv_lt hI hJ hk, mvG_at hI hJ, ?_, ?_⟩
    · show (mvL S.2.1 I J).getD k (-5) = _
      rw [mvL_eq (by omega) (by omega) (by omega), mvG_at (by omega) (by omega)]
    · show (mvL S.2.2.1 I J).getD k (-5) = _
      rw [mvL_eq (by omega) (by omega) (by omega), mvG_at (by omega) (by omega)]
  · rw [l1]
    unfold t4K
    rw [if_neg (by omega), pk_us]
  · unfold t4K t2K toK
    rw [if_neg (by omega), pk_un (by omega), if_neg (by omega), if_neg (by omega), if_neg (by omega)]
  · rw [l1] at hk
    unfold t4K
    by_cases e : k = J
    · subst e
      rw [if_pos (by omega)]
      unfold pmv
      rw [if_pos rfl]
      exact congrArg f (by omega)
    · rw [if_neg (by omega), pk_un (by omega)]
      unfold t2K pmv
      rw [if_neg e]
      by_cases e2 : J < k
      · rw [if_pos (by omega), if_neg (show ¬ (I ≤ k ∧ k < J) by omega)]
        unfold toK
        rw [if_neg (by omega)]
        by_cases e3 : k ≤ I
        · rw [if_neg (by omega), if_pos ⟨e2, e3⟩]
          exact congrArg f (by omega)
        · rw [if_pos (by omega), if_neg (by omega)]
          exact congrArg f (by omega)
      · rw [if_neg (by omega)]
        unfold toK
        rw [if_neg (by omega)]
        by_cases e3 : I ≤ k
        · rw [if_pos (by omega), if_pos ⟨e3, by omega⟩]
          exact congrArg f (by omega)
        · rw [if_neg (by omega), if_neg (by omega), if_neg (by omega)]
def mvT (S : Bk) (hs : List Bk) (i j : Int32) : At := if hasL S.1 i = true then (if hasL S.1 j = true then (if i = j then (-5, S, hs) else (nI (cntR (dif (svy (shiftR S i.toNatClampNeg j.toNatClampNeg)).2.2.1 (svy S).2.2.1) (svy (shiftR S i.toNatClampNeg j.toNatClampNeg)).2.2.1.length), shiftR S i.toNatClampNeg j.toNatClampNeg, rec4 hs S)) else (-2, S, hs)) else (-1, S, hs)
theorem mvT_1 {S : Bk} {hs : List Bk} {i j : Int32} (h : hasL S.1 i = false) : mvT S hs i j = (-1, S, hs) := if_neg (by rw [h]; exact Bool.false_ne_true)
theorem mvT_2 {S : Bk} {hs : List Bk} {i j : Int32} (h : hasL S.1 i = true) (h2 : hasL S.1 j = false) : mvT S hs i j = (-2, S, hs) := (if_pos h).trans (if_neg (by rw [h2]; exact Bool.false_ne_true))
theorem mvT_5 {S : Bk} {hs : List Bk} {i j : Int32} (h : hasL S.1 i = true) (h2 : hasL S.1 j = true) (e : i = j) : mvT S hs i j = (-5, S, hs) := (if_pos h).trans ((if_pos h2).trans (if_pos e))
theorem mvT_y {S : Bk} {hs : List Bk} {I J : Nat} (hw : wfB S) (hw2 : wfB (shiftR S I J)) (hI : I < 1000000000) (hJ : J < 1000000000) (h : hasL S.1 (nI I) = true) (h2 : hasL S.1 (nI J) = true) (e : ¬ nI I = nI J) : mvT S hs (nI I) (nI J) = (nI (cntR (dif (spL (shiftR S I J)) (spL S)) S.2.2.2.2.1.length), shiftR S I J, rec4 hs S) := by
  refine ((if_pos h).trans ((if_pos h2).trans (if_neg e))).trans ?_
  rw [nI_clamp (by omega), nI_clamp (by omega), sv_sp hw, sv_sp hw2, spL_len]
  rfl
theorem gd_take {α : Type} {l : List α} {i n : Nat} {d : α} (h : i < n) : (l.take n).getD i d = l.getD i d := by
  simp only [List.getD_eq_getElem?_getD, List.getElem?_take, if_pos h]
theorem mp_lay {L : List Int32} {f : Nat → Int32} {cap : Nat} (h : layf L cap f) : (mpG f cap).take L.length = L := by
  have hl : ((mpG f cap).take L.length).length = L.length := by rw [List.length_take, mpG_len]; have := h.1; omega
  refine List.ext_getElem hl fun k h1 h2 => ?_
  have hc := h.1
  rw [← gd_in (d := 0) h1, ← gd_in (d := 0) h2, gd_take h2, mpG_at (by omega)]
  exact h.2.2 k h2
theorem m1_lt {n : Nat} (h : n < 1000000000) : nI n - 1 < nI n := by
  rw [i_lt, show (1 : Int32) = nI 1 from rfl, pk_sub_toInt (by omega) (by decide), i_n (by omega)]
  omega
