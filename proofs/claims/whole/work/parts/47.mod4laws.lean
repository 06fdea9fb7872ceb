def spG (S : Bk) (k : Nat) : List (List Int32) := (List.range k).map (fun w => spW S (nthW S w) (S.2.2.2.2.2.getD w (-5)))
def spL (S : Bk) : List (List Int32) := spG S S.2.2.2.2.1.length
theorem spG_len {S : Bk} {k : Nat} : (spG S k).length = k := by unfold spG; rw [List.length_map, List.length_range]
theorem spG_add {S : Bk} {k : Nat} : spG S (k + 1) = spG S k ++ [spW S (nthW S k) (S.2.2.2.2.2.getD k (-5))] := by
  unfold spG
  rw [List.range_succ, List.map_append]
  rfl
theorem spG_at {S : Bk} {n k : Nat} (h : k < n) : (spG S n).getD k [] = spW S (nthW S k) (S.2.2.2.2.2.getD k (-5)) := by
  unfold spG
  rw [gd_in (by rw [List.length_map, List.length_range]; exact h), List.getElem_map, List.getElem_range]
theorem spL_len {S : Bk} : (spL S).length = S.2.2.2.2.1.length := spG_len
theorem spL_at {S : Bk} {k : Nat} (h : k < S.2.2.2.2.1.length) : (spL S).getD k [] = spW S (nthW S k) (S.2.2.2.2.2.getD k (-5)) := spG_at h
theorem lens_gd {L : List (List Int32)} {k : Nat} (h : k < L.length) : (lens L).getD k (-5) = nI (L.getD k []).length := by
  rw [gd_in (by rw [lens_len]; exact h), gd_in h]
  unfold lens
  rw [List.getElem_map]
theorem lens_addn {L : List (List Int32)} {x : List Int32} : lens L ++ [nI x.length] = lens (L ++ [x]) := by
  unfold lens
  rw [List.map_append]
  rfl
theorem sp_end {k : Nat} {L : List (List Int32)} {sp C C' : List Int32} (hC : rl 20 26 L C) (hl : L.length = k) (hk : k < 20) (hs : sp.length ≤ 26) (h : prl 20 26 k sp.length sp C C') : rl 20 26 (L ++ [sp]) C' := by
  have h2 := prl_end (rl_add hC (by omega)) (by rw [Nat.min_eq_left hs]; exact h)
  rw [List.take_of_length_le hs] at h2
  subst hl
  have e : (L ++ [[]]).set L.length sp = L ++ [sp] := by
    rw [List.set_append_right _ _ (Nat.le_refl _), Nat.sub_self]
    rfl
  rw [e] at h2
  exact h2
theorem rl_at5 {L : List (List Int32)} {C : List Int32} {I k : Nat} (hC : rl 20 26 L C) (hI : I < L.length) (hk : k < (L.getD I []).length) : I * 26 + k < C.length ∧ C.getD (I * 26 + k) (-5) = (L.getD I []).getD k (-5) := by
  obtain ⟨h1, h2⟩ := rl_at hC hI hk
  have h3 : I * 26 + k < C.length := by rw [hC.2.1]; exact h1
  refine ⟨h3, ?_⟩
  rw [gd_in h3, gd_in hk, ← gd_in (d := 0) h3, ← gd_in (d := 0) hk]
  exact h2
theorem ix26 {k j : Nat} : (26 : Int32) * nI k + nI j = nI (k * 26 + j) := by
  rw [show (26 : Int32) * nI k = nI (26 * k) from pk_mul 26 k, nI_add, Nat.mul_comm]
def sameP (L : List (List Int32)) (I w : Nat) : Bool := decide (L.getD I [] = L.getD w [])
theorem same_t {x y : List Int32} (hl : x.length = y.length) (h : ∀ j, j < x.length → x.getD j (-5) = y.getD j (-5)) : decide (x = y) = true := by
  refine decide_eq_true (List.ext_getElem hl fun j h1 h2 => ?_)
  have := h j h1
  rw [gd_in h1, gd_in h2] at this
  exact this
theorem cntR_le (p : Nat → Bool) : ∀ n, cntR p n ≤ n
  | 0 => Nat.le_refl _
  | n + 1 => by
    show cntR p n + (if p n = true then 1 else 0) ≤ n + 1
    have := cntR_le p n
    split <;> omega
def colM (S : Bk) : Nat := cntR (fun w => decide (1 < cntR (sameP (spL S) w) S.2.2.2.2.1.length)) S.2.2.2.2.1.length
def cbM (S : Bk) : Nat := cntR (fun w => decide (cntR (sameP (spL S) w) w = 0)) S.2.2.2.2.1.length
def unM (S : Bk) : Nat := cntR (fun r => decide ((usS S S.2.2.2.2.1.length).getD r (-5) = 0)) S.1.length
def sumR (g : Nat → Nat) : Nat → Nat
  | 0 => 0
  | n + 1 => sumR g n + g n
theorem c_t {p : Nat → Bool} {n : Nat} (h : p n = true) : nI (cntR p n) + 1 = nI (cntR p (n + 1)) := by rw [cntR_t h, nI_1]
theorem c_f {p : Nat → Bool} {n : Nat} (h : p n = false) : nI (cntR p n) + 0 = nI (cntR p (n + 1)) := by rw [cntR_f h, Int32.add_zero]
theorem s_a {g : Nat → Nat} {n : Nat} : nI (sumR g n) + nI (g n) = nI (sumR g (n + 1)) := nI_add _ _
