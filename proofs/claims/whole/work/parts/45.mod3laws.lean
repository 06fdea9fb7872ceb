def okT (S : Bk) (T : T3) : Prop := T.1.length ≤ 12 ∧ (∀ c ∈ T.1, low c ∨ (65 ≤ c ∧ c ≤ 90)) ∧ T.2.1.length ≤ 12 ∧ T.2.2.length ≤ 12 ∧ ∀ r ∈ T.2.2, ∃ I, I < S.1.length ∧ r = nI I
theorem adL_le {cap : Nat} {xs : List Int32} {v : Int32} (h : xs.length ≤ cap) : (adL cap xs v).length ≤ cap := by
  unfold adL
  split
  · rw [len1n]; omega
  · exact h
theorem adL_mem {cap : Nat} {xs : List Int32} {v x : Int32} (h : x ∈ adL cap xs v) : x ∈ xs ∨ x = v := by
  unfold adL at h
  split at h
  · rcases List.mem_append.mp h with h | h
    · exact Or.inl h
    · exact Or.inr (List.mem_singleton.mp h)
  · exact Or.inl h
theorem amL_le {cap : Nat} {v : Int32} : ∀ (n : Nat) (xs : List Int32), xs.length ≤ cap → (amL cap v n xs).length ≤ cap
  | 0, xs, h => h
  | n + 1, xs, h => amL_le n _ (adL_le h)
theorem okT_none {S : Bk} {T : T3} {c : Int32} (h : okT S T) (hc : low c) : okT S (adL 12 T.1 c, adL 12 T.2.1 (-5), T.2.2) := by
  refine ⟨adL_le h.1, fun x hx => ?_, adL_le h.2.2.1, h.2.2.2.1, h.2.2.2.2⟩
  rcases adL_mem hx with hx | hx
  · exact h.2.1 x hx
  · rw [hx]; exact Or.inl hc
theorem okT_use {S : Bk} {T : T3} {I : Nat} (hw : wfB S) (h : okT S T) (hI : I < S.1.length) : okT S (useT S I T) := by
  have hr := (hw.2.2.2.2.2.2.1 I hI).2.2.2.1
  unfold useT
  refine ⟨?_, fun x hx => ?_, amL_le _ _ h.2.2.1, adL_le h.2.2.2.1, fun r hr => ?_⟩
  · show (if _ then _ else _ : List Int32).length ≤ 12
    split
    · exact h.1
    · exact adL_le h.1
  · change x ∈ (if _ then _ else _ : List Int32) at hx
    split at hx
    · exact h.2.1 x hx
    · rename_i h0
      rcases adL_mem hx with hx | hx
      · exact h.2.1 x hx
      · rw [hx]; exact Or.inr (hr.resolve_left h0)
  · rcases adL_mem hr with hr | hr
    · exact h.2.2.2.2 r hr
    · exact ⟨I, hI, hr⟩
theorem hrF_ok {S : Bk} {xs : List Int32} (hw : wfB S) (hL : ∀ x ∈ xs, low x) : ∀ (n p : Nat) (T : T3), okT S T → okT S (hrF S xs n p T)
  | 0, _, T, h => h
  | n + 1, p, T, h => by
    by_cases hp : xs.length ≤ p
    · rw [hrF_end hp]; exact h
    · show okT S (if xs.length ≤ p then T else _)
      rw [if_neg hp]
      rcases bst_of S xs p S.1.length with hb | ⟨I, hI, hb⟩
      · rw [if_pos hb]
        refine hrF_ok hw hL n _ _ (okT_none h ?_)
        rw [gd_in (by omega)]
        exact hL _ (List.getElem_mem _)
      · rw [hb, if_neg (nI_m5 (by have := hw.1; omega)), nI_clamp (by have := hw.1; omega)]
        exact hrF_ok hw hL n _ _ (okT_use hw h hI)
theorem hrW_ok {S : Bk} {xs : List Int32} (hw : wfB S) (hL : ∀ x ∈ xs, low x) : okT S (hrW S xs) :=
  hrF_ok hw hL _ _ _ ⟨Nat.zero_le _, fun _ h => absurd h List.not_mem_nil, Nat.zero_le _, Nat.zero_le _, fun _ h => absurd h List.not_mem_nil⟩
def flS (SG : List (List Int32)) (snd : List Int32) : List Int32 := snd.flatMap (sgn SG)
theorem cpt_n {c : Int32} (h : 65 ≤ c ∧ c ≤ 90) : ∃ s, s < 26 ∧ c = nI (65 + s) ∧ c - 65 = nI s := by
  have h1 := i_le.mp h.1
  have h2 := i_le.mp h.2
  have e1 : (65 : Int32).toInt = 65 := by decide
  have e2 : (90 : Int32).toInt = 90 := by decide
  rw [e1] at h1
  rw [e2] at h2
  obtain ⟨s, hs, hc⟩ : ∃ s, s < 26 ∧ c = nI (65 + s) := ⟨c.toInt.toNat - 65, by omega, by rw [i_eq, i_n (by omega)]; omega⟩
  refine ⟨s, hs, hc, ?_⟩
  rw [hc, show (65 : Int32) = nI 65 from rfl, pk_sub (by omega), Nat.add_sub_cancel_left]
theorem sgn_c {SG : List (List Int32)} {s : Nat} (hs : s < 26) : sgn SG (nI (65 + s)) = SG.getD s [] := by
  have hc : cpt (nI (65 + s)) = true := decide_eq_true ⟨by rw [show (65 : Int32) = nI 65 from rfl, nI_leI (by omega) (by omega)]; omega, by rw [show (90 : Int32) = nI 90 from rfl, nI_leI (by omega) (by omega)]; omega⟩
  rw [sgn_lt hc, show (65 : Int32) = nI 65 from rfl, pk_sub (by omega), ln_n (by omega), Nat.add_sub_cancel_left]
theorem cpt_low {c : Int32} (h : low c) : cpt c = false := decide_eq_false (fun z => by
  have h1 := i_le.mp h.1
  have h2 := i_le.mp z.2
  have e1 : (97 : Int32).toInt = 97 := by decide
  have e2 : (90 : Int32).toInt = 90 := by decide
  omega)
theorem sgn_low {SG : List (List Int32)} {c : Int32} (h : low c) : sgn SG c = [c] := by
  unfold sgn; rw [cpt_low h]; rfl
theorem sgn_len {S : Bk} {c : Int32} (hw : wfB S) (h : low c ∨ (65 ≤ c ∧ c ≤ 90)) : 1 ≤ (sgn S.2.2.2.1 c).length ∧ (sgn S.2.2.2.1 c).length ≤ 2 ∧ ∀ x ∈ sgn S.2.2.2.1 c, low x := by
  rcases h with h | h
  · rw [sgn_low h]; exact ⟨Nat.le_refl 1, Nat.le_succ 1, fun x hx => by rw [List.mem_singleton.mp hx]; exact h⟩
  · obtain ⟨s, hs, h1, -⟩ := cpt_n h
    rw [h1, sgn_c hs]
    exact hw.2.2.2.2.2.2.2.1 s hs
theorem flS_len {S : Bk} (hw : wfB S) : ∀ snd : List Int32, (∀ c ∈ snd, low c ∨ (65 ≤ c ∧ c ≤ 90)) → snd.length ≤ (flS S.2.2.2.1 snd).length ∧ (flS S.2.2.2.1 snd).length ≤ 2 * snd.length ∧ ∀ x ∈ flS S.2.2.2.1 snd, low x
  | [], _ => ⟨Nat.le_refl _, Nat.le_refl _, fun _ h => absurd h List.not_mem_nil⟩
  | c :: cs, h => by
    obtain ⟨h1, h2, h3⟩ := flS_len hw cs (fun x hx => h x (List.mem_cons_of_mem _ hx))
    obtain ⟨h4, h5, h6⟩ := sgn_len hw (h c List.mem_cons_self)
    have e : flS S.2.2.2.1 (c :: cs) = sgn S.2.2.2.1 c ++ flS S.2.2.2.1 cs := List.flatMap_cons
    rw [e, List.length_append, List.length_cons]
    refine ⟨by omega, by omega, fun x hx => ?_⟩
    rcases List.mem_append.mp hx with hx | hx
    · exact h6 x hx
    · exact h3 x hx
theorem adS_eq {S : Bk} (hw : wfB S) : ∀ (snd sp : List Int32), (∀ c ∈ snd, low c ∨ (65 ≤ c ∧ c ≤ 90)) → sp.length + 2 * snd.length ≤ 25 → adS S.2.2.2.1 sp snd = sp ++ flS S.2.2.2.1 snd
  | [], sp, _, _ => (List.append_nil _).symm
  | c :: cs, sp, h, hl => by
    obtain ⟨h4, h5, h6⟩ := sgn_len hw (h c List.mem_cons_self)
    rw [List.length_cons] at hl
    show adS S.2.2.2.1 (aaL 25 sp (sgn S.2.2.2.1 c)) cs = _
    rw [ad_all, List.take_of_length_le (by omega), adS_eq hw cs _ (fun x hx => h x (List.mem_cons_of_mem _ hx)) (by rw [List.length_append]; omega), List.append_assoc]
    rfl
theorem wr1_n {S : Bk} {xs : List Int32} {kd : Int32} (hw : wfB S) (hL : ∀ x ∈ xs, low x) (hk : ¬ kd = 1) : wr1 S.2.2.2.1 (hrW S xs).1 kd = flS S.2.2.2.1 (hrW S xs).1 := by
  have h := hrW_ok hw hL
  unfold wr1
  rw [if_neg hk, adS_eq hw _ _ h.2.1 (by have := h.1; simp only [List.length_nil]; omega), List.nil_append]
theorem wr1_1 {SG : List (List Int32)} {snd : List Int32} : wr1 SG snd 1 = [] := rfl
theorem wr2_0 {xs : List Int32} (hx : xs.length ≤ 25) : wr2 [] xs = xs := by
  unfold wr2
  rw [if_pos (show ([] : List Int32).length = 0 from rfl), ad_all, List.nil_append, List.take_of_length_le (by simpa using hx)]
theorem wr2_n {sp xs : List Int32} (h : ¬ sp.length = 0) : wr2 sp xs = sp := if_neg h
theorem wr3_2 {sp : List Int32} (h : sp.length < 25) : wr3 sp 2 = sp ++ [39] := by
  unfold wr3; rw [if_pos rfl, adL_lt h]
theorem wr3_n {sp : List Int32} {kd : Int32} (h : ¬ kd = 2) : wr3 sp kd = sp := if_neg h
/-- the letters of a new spelling without its mark -/
def bare (S : Bk) (xs : List Int32) (kd : Int32) : List Int32 := wr2 (wr1 S.2.2.2.1 (hrW S xs).1 kd) xs
theorem bare_ok {S : Bk} {xs : List Int32} {kd : Int32} (hw : wfB S) (hL : ∀ x ∈ xs, low x) (hx : 1 ≤ xs.length ∧ xs.length ≤ 12) : 1 ≤ (bare S xs kd).length ∧ (bare S xs kd).length ≤ 24 ∧ ∀ x ∈ bare S xs kd, low x := by
  unfold bare
  by_cases hk : kd = 1
  · subst hk
    rw [wr1_1, wr2_0 (by omega)]
    exact ⟨hx.1, by omega, hL⟩
  · rw [wr1_n hw hL hk]
    have h := hrW_ok hw hL
    obtain ⟨h1, h2, h3⟩ := flS_len hw _ h.2.1
    have := h.1
    by_cases h0 : (flS S.2.2.2.1 (hrW S xs).1).length = 0
    · rw [List.length_eq_zero_iff.mp h0, wr2_0 (by omega)]
      exact ⟨hx.1, by omega, hL⟩
    · rw [wr2_n h0]
      exact ⟨by omega, by omega, h3⟩
theorem spW_bare {S : Bk} {xs : List Int32} {kd : Int32} : spW S xs kd = wr3 (bare S xs kd) kd := rfl
theorem spW_len {S : Bk} {xs : List Int32} {kd : Int32} (hw : wfB S) (hL : ∀ x ∈ xs, low x) (hx : 1 ≤ xs.length ∧ xs.length ≤ 12) : 1 ≤ (spW S xs kd).length ∧ (spW S xs kd).length ≤ 25 := by
  obtain ⟨h1, h2, h3⟩ := bare_ok (kd := kd) hw hL hx
  rw [spW_bare]
  unfold wr3
  split
  · rw [adL_lt (by omega), len1n]; omega
  · omega
theorem in65 {c : Int32} : inB c.toInt64 65 90 = cpt c := inB_i (v := c) (lo := 65) (hi := 90)
theorem in97 {c : Int32} : inB c.toInt64 97 122 = sm c := inB_i (v := c) (lo := 97) (hi := 122)
def usS (S : Bk) : Nat → List Int32
  | 0 => List.replicate 30 0
  | k + 1 => incL (usS S k) (hrW S (nthW S k)).2.2
theorem usS_len (S : Bk) : ∀ k, (usS S k).length = 30
  | 0 => List.length_replicate
  | k + 1 => by
    show (incL _ _).length = 30
    rw [incL_len, usS_len S k]
theorem flS_add {SG : List (List Int32)} {snd : List Int32} {k : Nat} (h : k < snd.length) : flS SG (snd.take (k + 1)) = flS SG (snd.take k) ++ sgn SG (snd.getD k (-5)) := by
  rw [← tk1 h]
  unfold flS
  rw [List.flatMap_append]
  simp only [List.flatMap_cons, List.flatMap_nil, List.append_nil]
theorem spW_1 {S : Bk} {xs : List Int32} (hx : xs.length ≤ 25) : spW S xs 1 = xs := by
  show wr3 (wr2 (wr1 _ _ 1) xs) 1 = xs
  rw [wr1_1, wr2_0 hx, wr3_n (by decide)]
theorem spW_n {S : Bk} {xs : List Int32} {kd : Int32} (hw : wfB S) (hL : ∀ x ∈ xs, low x) (hk : ¬ kd = 1) : spW S xs kd = wr3 (wr2 (flS S.2.2.2.1 (hrW S xs).1) xs) kd := by
  show wr3 (wr2 (wr1 _ _ kd) xs) kd = _
  rw [wr1_n hw hL hk]
theorem nI_z {n : Nat} (h : n < 1000000000) (h0 : nI n = 0) : n = 0 := (nI_eq (b := 0) (by omega) (by omega)).mp h0
