theorem gd_out {α : Type} {l : List α} {i : Nat} {d : α} (h : l.length ≤ i) : l.getD i d = d := by simp [List.getD_eq_getElem?_getD, h]
theorem gd_in {α : Type} {l : List α} {i : Nat} {d : α} (h : i < l.length) : l.getD i d = l[i] := by simp [List.getD_eq_getElem?_getD, h]
theorem gt_neg {xs : List Int32} {i : Int32} (h : i < 0) : gt xs i = -5 := if_pos h
theorem gt_n {xs : List Int32} {k : Nat} (h : k < 2147483648) : gt xs (nI k) = xs.getD k (-5) := by
  unfold gt
  rw [if_neg (nI_pos h), nI_clamp h]
theorem gt_out {xs : List Int32} {i : Int32} {cap : Nat} {f : Nat → Int32} (hf : layf xs cap f) (h : nI xs.length ≤ i) : gt xs i = -5 := by
  obtain ⟨h1, h2, h3⟩ := hf
  have h4 := i_le.mp h
  rw [i_n (by omega)] at h4
  unfold gt
  rw [if_neg (by rw [i_lt, i_0]; omega)]
  exact gd_out (by rw [i_cl]; omega)
theorem gt_in {xs : List Int32} {i : Int32} {cap : Nat} {f : Nat → Int32} (hf : layf xs cap f) (h0 : ¬ i < 0) (h : ¬ nI xs.length ≤ i) : f i.toNatClampNeg = gt xs i := by
  obtain ⟨h1, h2, h3⟩ := hf
  rw [i_le, i_n (by omega)] at h
  rw [i_lt, i_0] at h0
  unfold gt
  rw [if_neg (by rw [i_lt, i_0]; exact h0)]
  have hk : i.toNatClampNeg < xs.length := by rw [i_cl]; omega
  rw [h3 _ hk, gd_in hk, gd_in hk]
theorem lay_in {xs : List Int32} {i : Int32} {cap : Nat} {f : Nat → Int32} (hf : layf xs cap f) (h0 : ¬ i < 0) (h : ¬ nI xs.length ≤ i) : vp_in i cap := by
  obtain ⟨h1, h2, h3⟩ := hf
  rw [i_le, i_n (by omega)] at h
  rw [i_lt, i_0] at h0
  unfold vp_in
  rw [i_lt, i_0, i_cl]
  omega
theorem lay_cap {xs : List Int32} {cap : Nat} {f : Nat → Int32} (hf : layf xs cap f) : nI xs.length ≤ nI cap := by
  obtain ⟨h1, h2, h3⟩ := hf
  exact nI_le h1 (by omega)
theorem stL_neg {xs : List Int32} {i v : Int32} (h : i < 0) : stL xs i v = xs := if_pos h
theorem stL_out {xs : List Int32} {i v : Int32} {cap : Nat} {f : Nat → Int32} (hf : layf xs cap f) (h : nI xs.length ≤ i) : stL xs i v = xs := by
  obtain ⟨h1, h2, h3⟩ := hf
  have h4 := i_le.mp h
  rw [i_n (by omega)] at h4
  unfold stL
  rw [if_neg (by rw [i_lt, i_0]; omega)]
  exact List.set_eq_of_length_le (by rw [i_cl]; omega)
theorem stL_len {xs : List Int32} {i v : Int32} : (stL xs i v).length = xs.length := by
  unfold stL
  split
  · rfl
  · exact List.length_set
theorem stL_lay {xs : List Int32} {i : Int32} {cap : Nat} {f : Nat → Int32} (hf : layf xs cap f) (v : Int32) (h0 : ¬ i < 0) (h : ¬ nI xs.length ≤ i) : layf (stL xs i v) cap (upd f i.toNatClampNeg v) := by
  obtain ⟨h1, h2, h3⟩ := hf
  rw [i_le, i_n (by omega)] at h
  unfold stL
  rw [if_neg h0]
  rw [i_lt, i_0] at h0
  have hk : i.toNatClampNeg < xs.length := by rw [i_cl]; omega
  refine ⟨by rw [List.length_set]; exact h1, h2, fun k hk2 => ?_⟩
  rw [List.length_set] at hk2
  rw [gd_in (by rw [List.length_set]; exact hk2), List.getElem_set]
  by_cases e : k = i.toNatClampNeg
  · rw [if_pos e.symm, e, pk_us]
  · rw [if_neg (fun z => e z.symm), pk_un e, h3 k hk2, gd_in hk2]
theorem lay_pos {xs : List Int32} {cap : Nat} {f : Nat → Int32} (hf : layf xs cap f) : ¬ nI xs.length < 0 := by
  obtain ⟨h1, h2, h3⟩ := hf
  exact nI_pos (by omega)
theorem lay_add {xs : List Int32} {cap : Nat} {f : Nat → Int32} (hf : layf xs cap f) (h : ¬ nI cap ≤ nI xs.length) : vp_in (nI xs.length) cap := by
  obtain ⟨h1, h2, h3⟩ := hf
  rw [nI_leI (by omega) (by omega)] at h
  exact vp_in_nI (by omega) (by omega)
theorem adL_full {xs : List Int32} {cap : Nat} {f : Nat → Int32} (hf : layf xs cap f) (v : Int32) (h : nI cap ≤ nI xs.length) : adL cap xs v = xs := by
  obtain ⟨h1, h2, h3⟩ := hf
  rw [nI_leI (by omega) (by omega)] at h
  exact if_neg (by omega)
theorem adL_in {xs : List Int32} {cap : Nat} {f : Nat → Int32} (hf : layf xs cap f) (v : Int32) (h : ¬ nI cap ≤ nI xs.length) : adL cap xs v = xs ++ [v] := by
  obtain ⟨h1, h2, h3⟩ := hf
  rw [nI_leI (by omega) (by omega)] at h
  exact if_pos (by omega)
theorem adL_lay {xs : List Int32} {cap : Nat} {f : Nat → Int32} (hf : layf xs cap f) (v : Int32) (h : ¬ nI cap ≤ nI xs.length) : layf (adL cap xs v) cap (upd f (nI xs.length).toNatClampNeg v) := by
  rw [adL_in hf v h]
  obtain ⟨h1, h2, h3⟩ := hf
  rw [nI_leI (by omega) (by omega)] at h
  rw [nI_clamp (by omega)]
  refine ⟨by rw [List.length_append, List.length_singleton]; omega, h2, fun k hk => ?_⟩
  rw [List.length_append, List.length_singleton] at hk
  rw [gd_in (by rw [List.length_append, List.length_singleton]; exact hk)]
  by_cases e : k = xs.length
  · subst e
    rw [pk_us, List.getElem_append_right (Nat.le_refl _)]
    simp
  · have hk2 : k < xs.length := by omega
    rw [pk_un e, h3 k hk2, gd_in hk2, List.getElem_append_left hk2]
theorem adL_len {xs : List Int32} {cap : Nat} {f : Nat → Int32} (hf : layf xs cap f) (v : Int32) (h : ¬ nI cap ≤ nI xs.length) : nI xs.length + 1 = nI (adL cap xs v).length := by
  rw [adL_in hf v h, List.length_append, List.length_singleton, nI_1]
def bI (b : Bool) : Int32 := if b = true then 1 else 0
theorem bI_01 (b : Bool) : bI b = 0 ∨ bI b = 1 := by cases b <;> decide
theorem full_0 {xs : List Int32} {cap : Nat} {f : Nat → Int32} (hf : layf xs cap f) (h : nI xs.length < nI cap) : bI (decide (cap ≤ xs.length)) = 0 := by
  obtain ⟨h1, h2, h3⟩ := hf
  rw [nI_ltI (by omega) (by omega)] at h
  rw [decide_eq_false (by omega)]; rfl
theorem full_1 {xs : List Int32} {cap : Nat} {f : Nat → Int32} (hf : layf xs cap f) (h : ¬ nI xs.length < nI cap) : bI (decide (cap ≤ xs.length)) = 1 := by
  obtain ⟨h1, h2, h3⟩ := hf
  rw [nI_ltI (by omega) (by omega)] at h
  rw [decide_eq_true (by omega)]; rfl
theorem lay_nil {xs : List Int32} {cap : Nat} {f : Nat → Int32} (hf : layf xs cap f) : layf [] cap f := ⟨Nat.zero_le _, hf.2.1, fun k h => absurd h (Nat.not_lt_zero k)⟩
theorem lay_drop {xs : List Int32} {cap : Nat} {f : Nat → Int32} (hf : layf xs cap f) : layf xs.dropLast cap f := by
  obtain ⟨h1, h2, h3⟩ := hf
  refine ⟨by rw [List.length_dropLast]; omega, h2, fun k hk => ?_⟩
  have hk' := hk
  rw [List.length_dropLast] at hk'
  have hk2 : k < xs.length := by omega
  rw [h3 k hk2, gd_in hk2, gd_in hk, List.getElem_dropLast]
theorem sub1 {n : Nat} (h : 1 ≤ n) : nI n - 1 = nI (n - 1) := pk_sub (b := 1) h
theorem drop_len {xs : List Int32} {cap : Nat} {f : Nat → Int32} (hf : layf xs cap f) : (if nI xs.length - 1 < 0 then (0 : Int32) else nI xs.length - 1) = nI xs.dropLast.length := by
  obtain ⟨h1, h2, h3⟩ := hf
  rw [List.length_dropLast]
  by_cases h : xs.length = 0
  · rw [h]; rfl
  · rw [sub1 (by omega), if_neg (nI_pos (by omega))]
theorem loop_up {P : Nat → Prop} (N : Nat) (h : ∀ k, k ≤ N → (k < N → P (k + 1)) → P k) : ∀ k, k ≤ N → P k := by
  have key : ∀ d k, k + d = N → P k := by
    intro d
    induction d with
    | zero => intro k hk; exact h k (by omega) (fun h2 => absurd h2 (by omega))
    | succ d ih => intro k hk; exact h k (by omega) (fun _ => ih (k + 1) (by omega))
  exact fun k hk => key (N - k) k (by omega)
theorem loop_dn {P : Nat → Prop} (N : Nat) (h : ∀ k, k ≤ N → (∀ k2, k = k2 + 1 → P k2) → P k) : ∀ k, k ≤ N → P k := by
  intro k
  induction k with
  | zero => intro hk; exact h 0 hk (fun k2 h2 => by cases h2)
  | succ k ih => intro hk; exact h (k + 1) hk (fun k2 h2 => by cases h2; exact ih (by omega))
theorem up_lt {k N : Nat} {x : Int32} (hx : x = nI k) (hN : N < 1000000000) (hk : k ≤ N) (c : ¬ nI N ≤ x) : k < N := by
  rw [hx, nI_leI (by omega) (by omega)] at c
  omega
theorem up_end {k N : Nat} {x : Int32} (hx : x = nI k) (hN : N < 1000000000) (hk : k ≤ N) (c : nI N ≤ x) : k = N := by
  rw [hx, nI_leI (by omega) (by omega)] at c
  omega
theorem amL_step {cap : Nat} {v : Int32} {N k : Nat} {ys : List Int32} (h : k < N) : amL cap v (N - k) ys = amL cap v (N - (k + 1)) (adL cap ys v) := by
  rw [show N - k = (N - (k + 1)) + 1 by omega]; rfl
theorem aaL_step {cap k : Nat} {zs ys : List Int32} (h : k < ys.length) (hN : ys.length < 1000000000) : aaL cap zs (ys.drop k) = aaL cap (adL cap zs (gt ys (nI k))) (ys.drop (k + 1)) := by
  rw [List.drop_eq_getElem_cons h, gt_n (by omega), gd_in h]; rfl
def mvU : Nat → Nat → List Int32 → List Int32
  | 0, _, xs => xs
  | n + 1, k, xs => mvU n (k + 1) (swL xs (nI k) (nI (k + 1)))
def mvD : Nat → Nat → List Int32 → List Int32
  | 0, _, xs => xs
  | n + 1, k, xs => mvD n (k - 1) (swL xs (nI k) (nI (k - 1)))
def mvL (xs : List Int32) (I J : Nat) : List Int32 := mvD (I - J) I (mvU (J - I) I xs)
def rmL (xs : List Int32) (I : Nat) : List Int32 := if I < xs.length then (mvL xs I (xs.length - 1)).dropLast else xs
theorem dn_lt {I J k : Nat} {x : Int32} (hx : x = nI k) (hI : I < 1000000000) (hJ : J < 1000000000) (hk : k ≤ I) (c : ¬ x ≤ nI J) : J < k := by
  rw [hx, nI_leI (by omega) (by omega)] at c
  omega
theorem dn_end {I J k : Nat} {x : Int32} (hx : x = nI k) (hI : I < 1000000000) (hJ : J < 1000000000) (hk : k ≤ I) (c : x ≤ nI J) : k ≤ J := by
  rw [hx, nI_leI (by omega) (by omega)] at c
  omega
theorem dn_1 (k : Nat) : nI (k + 1) - 1 = nI k := by rw [sub1 (by omega)]; rfl
theorem mvD_step {J k : Nat} {ys : List Int32} (h : J < k + 1) : mvD (k + 1 - J) (k + 1) ys = mvD (k - J) k (swL ys (nI (k + 1)) (nI k)) := by
  rw [show k + 1 - J = (k - J) + 1 by omega]; rfl
theorem mv_lt {I J k : Nat} {x : Int32} (hx : x = nI k) (hI : I < 1000000000) (hJ : J < 1000000000) (hk : k ≤ max I J) (c : ¬ nI J ≤ x) : k < J := by
  rw [hx, nI_leI (by omega) (by omega)] at c
  omega
theorem mv_end {I J k : Nat} {x : Int32} (hx : x = nI k) (hI : I < 1000000000) (hJ : J < 1000000000) (hk : k ≤ max I J) (c : nI J ≤ x) : J ≤ k := by
  rw [hx, nI_leI (by omega) (by omega)] at c
  omega
theorem mvU_step {J k : Nat} {ys : List Int32} (h : k < J) : mvU (J - k) k ys = mvU (J - (k + 1)) (k + 1) (swL ys (nI k) (nI (k + 1))) := by
  rw [show J - k = (J - (k + 1)) + 1 by omega]; rfl
theorem rm_lt {I N : Nat} (hI : I < 1000000000) (hN : N < 1000000000) (c : ¬ nI N ≤ nI I) : I < N := by
  rw [nI_leI (by omega) (by omega)] at c
  omega
theorem rmL_out {xs : List Int32} {I : Nat} (hI : I < 1000000000) (hN : xs.length < 1000000000) (c : nI xs.length ≤ nI I) : rmL xs I = xs := by
  rw [nI_leI (by omega) (by omega)] at c
  exact if_neg (by omega)
theorem rmL_in {xs : List Int32} {I : Nat} (h : I < xs.length) : rmL xs I = (mvL xs I (xs.length - 1)).dropLast := if_pos h
theorem v_rowlen {X : Cx} {k1 k2 pc : Nat} {lv : List (Nat × Value)} {st : List Value} {Ms : List Md} {cI : ClassId} {r a cap : Nat} {xs : List Int32} (i : Nat) (hi : Ms[i]? = some (rowM cI r a cap xs)) (kk : xs.length < 1000000000 → V X k1 k2 pc lv st Ms) : V X k1 k2 pc lv st Ms := fun H locs ls w n a s h => by
  obtain ⟨ws, ⟨f, hf, -⟩, -⟩ := w _ (List.mem_of_getElem? hi)
  exact kk (Nat.lt_of_le_of_lt hf.1 hf.2.1) H locs ls w n a s h
