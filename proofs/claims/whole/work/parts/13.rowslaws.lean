/-! modules made of modules -/
def jnP : List Md → va_W → Prop
  | [], ws => ws = []
  | M :: Ms, ws => ∃ w1 w2 : va_W, M.2 w1 ∧ w1.map (fun q => q.1) = M.1 ∧ jnP Ms w2 ∧ ws = w1 ++ w2
def jn (Ms : List Md) : Md := (adr Ms, jnP Ms)
theorem va_P_l {D : va_G} {w1 w2 : va_W} {H : Heap} (h : va_P D vwCl (w1 ++ w2) H) : va_P D vwCl w1 H := fun k q hk => h k q (by rw [List.getElem?_append_left (List.getElem?_eq_some_iff.mp hk).1]; exact hk)
theorem va_P_r {D : va_G} {w1 w2 : va_W} {H : Heap} (h : va_P D vwCl (w1 ++ w2) H) : va_P D vwCl w2 H := fun k q hk => h (w1.length + k) q (by rw [List.getElem?_append_right (by omega), Nat.add_sub_cancel_left]; exact hk)
theorem jnP_adr : ∀ (Ms : List Md) (ws : va_W), jnP Ms ws → ws.map (fun q => q.1) = adr Ms
  | [], ws, h => by rw [show ws = [] from h]; rfl
  | M :: Ms, ws, h => by
    obtain ⟨w1, w2, h1, h2, h3, rfl⟩ := h
    rw [List.map_append, h2, jnP_adr Ms w2 h3]; rfl
theorem jnP_wd {D : va_G} {H : Heap} : ∀ (Ms : List Md) (ws : va_W), jnP Ms ws → va_P D vwCl ws H → wd D Ms H
  | [], ws, h, hP => fun M hM => by cases hM
  | M :: Ms, ws, h, hP => by
    obtain ⟨w1, w2, h1, h2, h3, rfl⟩ := h
    intro N hN
    rcases List.mem_cons.mp hN with rfl | hN
    · exact ⟨w1, h1, h2, va_P_l hP⟩
    · exact jnP_wd Ms w2 h3 (va_P_r hP) N hN
theorem wd_jnP {D : va_G} {H : Heap} : ∀ (Ms : List Md), wd D Ms H → ∃ ws, jnP Ms ws ∧ va_P D vwCl ws H
  | [], _ => ⟨[], rfl, fun k q hk => by simp at hk⟩
  | M :: Ms, h => by
    obtain ⟨w1, h1, h2, h3⟩ := h M List.mem_cons_self
    obtain ⟨w2, h4, h5⟩ := wd_jnP Ms (fun N hN => h N (List.mem_cons_of_mem _ hN))
    exact ⟨w1 ++ w2, ⟨w1, w2, h1, h2, h4, rfl⟩, h3.app h5⟩
theorem mAt_jn {D : va_G} {Ms : List Md} {H : Heap} : mAt D (jn Ms) H ↔ wd D Ms H := by
  constructor
  · rintro ⟨ws, h, -, hP⟩
    exact jnP_wd Ms ws h hP
  · intro h
    obtain ⟨ws, h1, h2⟩ := wd_jnP Ms h
    exact ⟨ws, h1, jnP_adr Ms ws h1, h2⟩
def exM {α : Type} (as : List Nat) (φ : α → Prop) (F : α → Md) : Md := (as, fun ws => ∃ x, φ x ∧ (F x).2 ws)
theorem mAt_ex {α : Type} {as : List Nat} {φ : α → Prop} {F : α → Md} {D : va_G} {H : Heap} (ha : ∀ x, (F x).1 = as) : mAt D (exM as φ F) H ↔ ∃ x, φ x ∧ mAt D (F x) H := by
  constructor
  · rintro ⟨ws, ⟨x, h1, h2⟩, h3, h4⟩
    exact ⟨x, h1, ws, h2, h3.trans (ha x).symm, h4⟩
  · rintro ⟨x, h1, ws, h2, h3, h4⟩
    exact ⟨ws, ⟨x, h1, h2⟩, h3.trans (ha x), h4⟩
theorem hasF_jn {Ms : List Md} {M : Md} {i a ci : Nat} {fs : List Value} (hi : Ms[i]? = some M) (h : hasF M a ci fs) : hasF (jn Ms) a ci fs := by
  intro ws hw
  have hw : jnP Ms ws := hw
  induction Ms generalizing i ws with
  | nil => simp at hi
  | cons M0 Ms ih =>
    obtain ⟨w1, w2, h1, h2, h3, rfl⟩ := hw
    cases i with
    | zero =>
      rw [List.getElem?_cons_zero] at hi
      cases hi
      obtain ⟨k, hk⟩ := h w1 h1
      exact ⟨k, by rw [List.getElem?_append_left (List.getElem?_eq_some_iff.mp hk).1]; exact hk⟩
    | succ i =>
      rw [List.getElem?_cons_succ] at hi
      obtain ⟨k, hk⟩ := ih hi w2 h3 h3
      exact ⟨w1.length + k, by rw [List.getElem?_append_right (by omega), Nat.add_sub_cancel_left]; exact hk⟩
theorem hasF_ex {α : Type} {as : List Nat} {φ : α → Prop} {F : α → Md} {a ci : Nat} {fs : List Value} (h : ∀ x, hasF (F x) a ci fs) : hasF (exM as φ F) a ci fs := fun ws hw => by
  obtain ⟨x, -, h2⟩ := hw
  exact h x ws h2
theorem adr_app (A B : List Md) : adr (A ++ B) = adr A ++ adr B := by unfold adr; rw [List.flatMap_append]
theorem split_at {Ms : List Md} {i : Nat} {M : Md} (hi : Ms[i]? = some M) : Ms.take i ++ M :: Ms.drop (i + 1) = Ms := by
  have hl := (List.getElem?_eq_some_iff.mp hi)
  obtain ⟨h1, h2⟩ := hl
  rw [← h2, ← List.drop_eq_getElem_cons h1, List.take_append_drop]
section SPLICE
variable {X : Cx} {k1 k2 pc : Nat} {lv : List (Nat × Value)} {st : List Value} {Ms : List Md}
theorem v_open {M : Md} {α : Type} {φ : α → Prop} {F : α → List Md} (i : Nat) (hi : Ms[i]? = some M) (h : ∀ H, mAt (XD X) M H → ∃ x, φ x ∧ wd (XD X) (F x) H) (ha : ∀ x, adr (F x) = M.1) (kk : ∀ x, φ x → V X k1 k2 pc lv st (Ms.take i ++ (F x ++ Ms.drop (i + 1)))) : V X k1 k2 pc lv st Ms := by
  intro H locs ls w n a s hl
  obtain ⟨x, h1, h2⟩ := h H (w M (List.mem_of_getElem? hi))
  have hadr : adr (Ms.take i ++ (F x ++ Ms.drop (i + 1))) = adr Ms := by
    conv => rhs; rw [← split_at hi]
    rw [adr_app, adr_app, adr_app, ha x]; rfl
  refine kk x h1 H locs ls (fun N hN => ?_) (by rw [hadr]; exact n) (by rw [hadr]; exact a) s hl
  rcases List.mem_append.mp hN with hN | hN
  · exact w N (List.mem_of_mem_take hN)
  · rcases List.mem_append.mp hN with hN | hN
    · exact h2 N hN
    · exact w N (List.mem_of_mem_drop hN)
theorem v_close {M : Md} {Ns T : List Md} (i : Nat) (hs : Ms.drop i = Ns ++ T) (h : ∀ H, wd (XD X) Ns H → mAt (XD X) M H) (ha : M.1 = adr Ns) (kk : V X k1 k2 pc lv st (Ms.take i ++ (M :: T))) : V X k1 k2 pc lv st Ms := by
  intro H locs ls w n a s hl
  have hadr : adr (Ms.take i ++ (M :: T)) = adr Ms := by
    conv => rhs; rw [← List.take_append_drop i Ms, hs]
    rw [adr_app, adr_app, adr_app, ← ha]; rfl
  have hin : ∀ N ∈ Ns ++ T, mAt (XD X) N H := fun N hN => w N (List.mem_of_mem_drop (by rw [hs]; exact hN))
  refine kk H locs ls (fun N hN => ?_) (by rw [hadr]; exact n) (by rw [hadr]; exact a) s hl
  rcases List.mem_append.mp hN with hN | hN
  · exact w N (List.mem_of_mem_take hN)
  · rcases List.mem_cons.mp hN with rfl | hN
    · exact h H (fun K hK => hin K (List.mem_append_left _ hK))
    · exact hin N (List.mem_append_right _ hN)
end SPLICE
/-! rows of rows -/
def lens (L : List (List Int32)) : List Int32 := L.map (fun x => nI x.length)
theorem lens_len (L : List (List Int32)) : (lens L).length = L.length := List.length_map _
def rl (most w : Nat) (L : List (List Int32)) (C : List Int32) : Prop := (most < 1000000000 ∧ w < 1000000000 ∧ most * w < 1000000000) ∧ C.length = most * w ∧ L.length ≤ most ∧ ∀ i x, L[i]? = some x → x.length ≤ w ∧ ∀ j, j < x.length → C.getD (i * w + j) 0 = x.getD j 0
def rowsM (cI : ClassId) (rs c ca l la most w : Nat) (L : List (List Int32)) : Md := exM [rs, c, ca, l, la] (fun C => rl most w L C) (fun C => jn [cM rs (.inr (4, [.int (nI w), .ref c, .ref l])), rowM cI c ca (most * w) C, rowM cI l la most (lens L)])
theorem rowsF {cI : ClassId} {rs c ca l la most w : Nat} {L : List (List Int32)} : hasF (rowsM cI rs c ca l la most w L) rs 4 [.int (nI w), .ref c, .ref l] := hasF_ex fun C => hasF_jn (i := 0) rfl hasF_c
theorem rows_at {D : va_G} {cI : ClassId} {rs c ca l la most w : Nat} {L : List (List Int32)} {H : Heap} : mAt D (rowsM cI rs c ca l la most w L) H ↔ ∃ C, rl most w L C ∧ wd D [cM rs (.inr (4, [.int (nI w), .ref c, .ref l])), rowM cI c ca (most * w) C, rowM cI l la most (lens L)] H := by
  refine Iff.trans (mAt_ex (as := [rs, c, ca, l, la]) (fun _ => rfl)) ?_
  exact exists_congr fun C => and_congr_right fun _ => mAt_jn
section ROWS
variable {X : Cx} {k1 k2 pc : Nat} {lv : List (Nat × Value)} {st : List Value} {Ms : List Md}
theorem v_orows (i : Nat) {rs c ca l la most w : Nat} {L : List (List Int32)} (hi : Ms[i]? = some (rowsM (XI X) rs c ca l la most w L)) (kk : ∀ C, rl most w L C → V X k1 k2 pc lv st (Ms.take i ++ ([cM rs (.inr (4, [.int (nI w), .ref c, .ref l])), rowM (XI X) c ca (most * w) C, rowM (XI X) l la most (lens L)] ++ Ms.drop (i + 1)))) : V X k1 k2 pc lv st Ms :=
  v_open (F := fun C => [cM rs (.inr (4, [.int (nI w), .ref c, .ref l])), rowM (XI X) c ca (most * w) C, rowM (XI X) l la most (lens L)]) (φ := fun C => rl most w L C) i hi (fun H h => rows_at.mp h) (fun _ => rfl) kk
theorem v_crows (i : Nat) {rs c ca l la most w mw : Nat} (L : List (List Int32)) {C N : List Int32} {T : List Md} (hs : Ms.drop i = [cM rs (.inr (4, [.int (nI w), .ref c, .ref l])), rowM (XI X) c ca mw C, rowM (XI X) l la most N] ++ T) (hw : mw = most * w) (hC : rl most w L C) (hN : N = lens L) (kk : V X k1 k2 pc lv st (Ms.take i ++ (rowsM (XI X) rs c ca l la most w L :: T))) : V X k1 k2 pc lv st Ms := by
  subst hN; subst hw
  exact v_close (M := rowsM (XI X) rs c ca l la most w L) i hs (fun H h => rows_at.mpr ⟨C, hC, h⟩) rfl kk
end ROWS
def ln (L : List (List Int32)) (i : Int32) : List Int32 := if i < 0 then [] else L.getD i.toNatClampNeg []
def gg (L : List (List Int32)) (i j : Int32) : Int32 := gt (ln L i) j
def hasL (L : List (List Int32)) (i : Int32) : Bool := decide (¬ i < 0 ∧ i.toNatClampNeg < L.length)
theorem rl_N {most w : Nat} {L : List (List Int32)} {C : List Int32} (h : rl most w L C) : L.length < 1000000000 := by
  obtain ⟨⟨h1, -, -⟩, -, h2, -⟩ := h
  omega
theorem has_neg {L : List (List Int32)} {i : Int32} (h : i < 0) : bI (hasL L i) = 0 := by
  unfold hasL
  rw [decide_eq_false (fun z => z.1 h)]; rfl
theorem has_out {L : List (List Int32)} {i : Int32} (hN : L.length < 1000000000) (h : nI (lens L).length ≤ i) : bI (hasL L i) = 0 := by
  rw [lens_len, i_le, i_n (by omega)] at h
  unfold hasL
  rw [decide_eq_false (fun z => by have := z.2; rw [i_cl] at this; omega)]; rfl
theorem has_in {L : List (List Int32)} {i : Int32} (hN : L.length < 1000000000) (h0 : ¬ i < 0) (h : ¬ nI (lens L).length ≤ i) : bI (hasL L i) = 1 := by
  rw [lens_len, i_le, i_n (by omega)] at h
  have h0' := h0
  rw [i_lt, i_0] at h0'
  unfold hasL
  rw [decide_eq_true ⟨h0, by rw [i_cl]; omega⟩]; rfl
theorem hasL_of {L : List (List Int32)} {i : Int32} (hN : L.length < 1000000000) (h : hasL L i = true) : ∃ k, k < L.length ∧ i = nI k := by
  have h := of_decide_eq_true h
  refine ⟨i.toNatClampNeg, h.2, ?_⟩
  rw [i_eq, i_n (by omega), i_cl]
  have h0 := h.1
  rw [i_lt, i_0] at h0
  omega
theorem hasL_n {L : List (List Int32)} {k : Nat} (hk : k < 1000000000) : hasL L (nI k) = decide (k < L.length) := by
  unfold hasL
  have h1 : ¬ nI k < 0 := nI_pos (by omega)
  rw [nI_clamp (by omega)]
  by_cases h : k < L.length
  · rw [decide_eq_true ⟨h1, h⟩, decide_eq_true h]
  · rw [decide_eq_false (fun z => h z.2), decide_eq_false h]
theorem ln_n {L : List (List Int32)} {k : Nat} (hk : k < 1000000000) : ln L (nI k) = L.getD k [] := by
  unfold ln
  rw [if_neg (nI_pos (by omega)), nI_clamp (by omega)]
theorem gt_lens {L : List (List Int32)} (hN : L.length < 1000000000) (i : Int32) : (∃ k, k < L.length ∧ i = nI k ∧ gt (lens L) i = nI (L.getD k []).length ∧ ln L i = L.getD k []) ∨ (hasL L i = false ∧ gt (lens L) i = -5 ∧ ln L i = []) := by
  by_cases h : hasL L i = true
  · obtain ⟨k, h1, h2⟩ := hasL_of hN h
    refine Or.inl ⟨k, h1, h2, ?_, by rw [h2, ln_n (by omega)]⟩
    rw [h2, gt_n (by omega), gd_in (by rw [lens_len]; exact h1), gd_in h1]
    simp [lens]
  · have h : hasL L i = false := by simpa using h
    have h2 := of_decide_eq_false h
    refine Or.inr ⟨h, ?_, ?_⟩
    · unfold gt
      by_cases h0 : i < 0
      · rw [if_pos h0]
      · rw [if_neg h0]
        exact gd_out (by rw [lens_len]; exact Nat.not_lt.mp fun z => h2 ⟨h0, z⟩)
    · unfold ln
      by_cases h0 : i < 0
      · rw [if_pos h0]
      · rw [if_neg h0]
        exact gd_out (Nat.not_lt.mp fun z => h2 ⟨h0, z⟩)
theorem gg_neg {L : List (List Int32)} {i j : Int32} (h : j < 0) : gg L i j = -5 := gt_neg h
theorem gt_outN {xs : List Int32} {j : Int32} (hN : xs.length < 1000000000) (h : nI xs.length ≤ j) : gt xs j = -5 := gt_out (cap := xs.length) (f := fun k => xs.getD k 0) ⟨Nat.le_refl _, hN, fun _ _ => rfl⟩ h
theorem rl_len {most w : Nat} {L : List (List Int32)} {C : List Int32} (h : rl most w L C) {k : Nat} : (L.getD k []).length ≤ w := by
  by_cases hk : k < L.length
  · rw [gd_in hk]
    exact (h.2.2.2 k _ (List.getElem?_eq_getElem hk)).1
  · rw [gd_out (by omega)]; exact Nat.zero_le _
theorem gg_out {most w : Nat} {L : List (List Int32)} {C : List Int32} (hC : rl most w L C) {i j : Int32} (h : gt (lens L) i ≤ j) : gg L i j = -5 := by
  unfold gg
  rcases gt_lens (rl_N hC) i with ⟨k, h1, h2, h3, h4⟩ | ⟨-, h3, h4⟩
  · rw [h4]
    rw [h3] at h
    exact gt_outN (Nat.lt_of_le_of_lt (rl_len hC) hC.1.2.1) h
  · rw [h4]
    unfold gt
    split
    · rfl
    · rfl
theorem rl_at {most w : Nat} {L : List (List Int32)} {C : List Int32} (hC : rl most w L C) {k j : Nat} (hk : k < L.length) (hj : j < (L.getD k []).length) : k * w + j < most * w ∧ C.getD (k * w + j) 0 = (L.getD k []).getD j 0 := by
  have h := hC.2.2.2 k _ (List.getElem?_eq_getElem hk)
  rw [gd_in hk] at hj ⊢
  refine ⟨?_, h.2 j hj⟩
  have h1 := hC.2.2.1
  have h2 : (k + 1) * w ≤ most * w := Nat.mul_le_mul_right w (by omega)
  rw [Nat.add_mul, Nat.one_mul] at h2
  have := h.1
  omega
theorem ix_n {k w j : Nat} : nI k * nI w + nI j = nI (k * w + j) := by rw [pk_mul, nI_add]
theorem gg_in {most w : Nat} {L : List (List Int32)} {C : List Int32} (hC : rl most w L C) {i j : Int32} (h0 : ¬ j < 0) (h : ¬ gt (lens L) i ≤ j) : gt C (i * nI w + j) = gg L i j := by
  unfold gg
  rcases gt_lens (rl_N hC) i with ⟨k, h1, h2, h3, h4⟩ | ⟨-, h3, h4⟩
  · rw [h4]
    rw [h3] at h
    have hl : (L.getD k []).length < 1000000000 := Nat.lt_of_le_of_lt (rl_len hC) hC.1.2.1
    obtain ⟨m, hm, rfl⟩ := nI_of h0
    rw [nI_leI (by omega) (by omega)] at h
    have hm2 : m < (L.getD k []).length := by omega
    obtain ⟨e1, e2⟩ := rl_at hC h1 hm2
    have hb := hC.1.2.2
    have hlen := hC.2.1
    rw [h2, ix_n, gt_n (by omega), gt_n (by omega), gd_in hm2, gd_in (by omega)]
    rw [gd_in (by omega), gd_in hm2] at e2
    exact e2
  · rw [h3] at h
    have h5 : (-5 : Int32).toInt = -5 := by decide
    rw [i_lt, i_0] at h0
    rw [i_le, h5] at h
    omega
