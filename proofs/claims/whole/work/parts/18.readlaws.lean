def sm (c : Int32) : Bool := decide (97 ≤ c ∧ c ≤ 122)
def cpt (c : Int32) : Bool := decide (65 ≤ c ∧ c ≤ 90)
def vw (c : Int32) : Bool := decide (c = 97 ∨ c = 101 ∨ c = 105 ∨ c = 111 ∨ c = 117)
def tkP (ts : List Int32) (P : Nat) (c : Int32) : Nat := if ts.getD P (-5) = c then P + 1 else P
def tlF : Nat → List Int32 → List Int32
  | 0, _ => []
  | _ + 1, [] => []
  | m + 1, c :: cs => if sm c = true then c :: tlF m cs else []
theorem tlF_len : ∀ (m : Nat) (cs : List Int32), (tlF m cs).length ≤ m ∧ (tlF m cs).length ≤ cs.length
  | 0, cs => ⟨Nat.le_refl _, Nat.zero_le _⟩
  | m + 1, [] => ⟨Nat.zero_le _, Nat.le_refl _⟩
  | m + 1, c :: cs => by
    unfold tlF
    have := tlF_len m cs
    by_cases h : sm c = true
    · rw [if_pos h, List.length_cons, List.length_cons]; omega
    · rw [if_neg h]; exact ⟨Nat.zero_le _, Nat.zero_le _⟩
theorem tl_le {ts : List Int32} {m P : Nat} (hP : P ≤ ts.length) : P + (tlF m (ts.drop P)).length ≤ ts.length := by
  have := (tlF_len m (ts.drop P)).2
  rw [List.length_drop] at this
  omega
theorem tlF_hit {ts : List Int32} {m p : Nat} (hs : sm (ts.getD p (-5)) = true) (hp : p < ts.length) : tlF (m + 1) (ts.drop p) = ts.getD p (-5) :: tlF m (ts.drop (p + 1)) := by
  rw [gd_in hp] at hs ⊢
  rw [List.drop_eq_getElem_cons hp]
  exact if_pos hs
theorem tlF_miss {ts : List Int32} {m p : Nat} (hs : sm (ts.getD p (-5)) = false) : tlF m (ts.drop p) = [] := by
  cases m with
  | zero => rfl
  | succ m =>
    by_cases hp : p < ts.length
    · rw [gd_in hp] at hs
      rw [List.drop_eq_getElem_cons hp]
      exact if_neg (by rw [hs]; exact Bool.false_ne_true)
    · rw [List.drop_eq_nil_of_le (by omega)]; rfl
theorem at_lt {ts : List Int32} {p : Nat} (h : ¬ ts.getD p (-5) = -5) : p < ts.length := by
  by_cases hp : p < ts.length
  · exact hp
  · exact absurd (gd_out (by omega)) h
theorem sm_at {ts : List Int32} {p : Nat} (hs : sm (ts.getD p (-5)) = true) : p < ts.length := at_lt (fun z => by rw [z] at hs; exact absurd hs (by decide))
theorem tk_le {ts : List Int32} {P : Nat} {c : Int32} (hP : P ≤ ts.length) (hc : ¬ c = -5) : tkP ts P c ≤ ts.length := by
  unfold tkP
  by_cases h : ts.getD P (-5) = c
  · rw [if_pos h]; exact at_lt (by rw [h]; exact hc)
  · rw [if_neg h]; exact hP
def sndOk (c : Int32) : Bool := decide (c = 95) || cpt c
def sdOf (c : Int32) : Int32 := if c = 94 then 1 else if c = 36 then 2 else if c = 43 then 3 else if c = 45 then 4 else if c = 60 then 5 else 0
/-- place, entry, sound, side, kind, letters -/
abbrev Rs : Type := Nat × Int32 × Int32 × Int32 × Int32 × List Int32
def tLet (ts : List Int32) (m : Nat) (S : Rs) : Bool × Rs := (decide (0 < (tlF m (ts.drop S.1)).length), (S.1 + (tlF m (ts.drop S.1)).length, S.2.1, S.2.2.1, S.2.2.2.1, S.2.2.2.2.1, tlF m (ts.drop S.1)))
def tTake (ts : List Int32) (c : Int32) (S : Rs) : Bool × Rs := (decide (ts.getD S.1 (-5) = c), (tkP ts S.1 c, S.2))
def sndP (ts : List Int32) (P : Nat) : Nat := if sndOk (ts.getD P (-5)) = true then P + 1 else P
def sndV (ts : List Int32) (P : Nat) (s : Int32) : Int32 := if sndOk (ts.getD P (-5)) = true then (if ts.getD P (-5) = 95 then 0 else ts.getD P (-5)) else s
def tSound (ts : List Int32) (S : Rs) : Bool × Rs := (sndOk (ts.getD S.1 (-5)), (sndP ts S.1, S.2.1, sndV ts S.1 S.2.2.1, S.2.2.2))
def sdP (ts : List Int32) (P : Nat) : Nat := if sdOf (ts.getD P (-5)) = 0 then P else P + 1
def tSide (ts : List Int32) (S : Rs) : Int32 × Rs := (sdOf (ts.getD S.1 (-5)), (sdP ts S.1, S.2))
theorem snd_at {ts : List Int32} {p : Nat} (hs : sndOk (ts.getD p (-5)) = true) : p < ts.length := at_lt (fun z => by rw [z] at hs; exact absurd hs (by decide))
theorem sndP_le {ts : List Int32} {P : Nat} (hP : P ≤ ts.length) : sndP ts P ≤ ts.length := by
  unfold sndP
  by_cases h : sndOk (ts.getD P (-5)) = true
  · rw [if_pos h]; exact snd_at h
  · rw [if_neg h]; exact hP
theorem sdP_le {ts : List Int32} {P : Nat} (hP : P ≤ ts.length) : sdP ts P ≤ ts.length := by
  unfold sdP
  by_cases h : sdOf (ts.getD P (-5)) = 0
  · rw [if_pos h]; exact hP
  · rw [if_neg h]; exact at_lt (fun z => h (by rw [z]; decide))
def tRule (ts : List Int32) (S : Rs) : Bool × Rs :=
  let a := tLet ts 4 (S.1, 0, S.2.2)
  if a.1 = true then
    let b := tTake ts 61 a.2
    if b.1 = true then
      let c := tSound ts b.2
      if c.1 = true then (true, (sdP ts c.2.1, c.2.2.1, c.2.2.2.1, sdOf (ts.getD c.2.1 (-5)), c.2.2.2.2.2)) else (false, c.2)
    else (false, b.2)
  else (false, a.2)
def tWord (ts : List Int32) (S : Rs) : Bool × Rs :=
  let a := tTake ts 58 (S.1, 1, S.2.2)
  if a.1 = true then
    let b := tLet ts 12 a.2
    if b.1 = true then
      let c := tTake ts 33 b.2
      if c.1 = true then (true, (c.2.1, c.2.2.1, c.2.2.2.1, c.2.2.2.2.1, 1, c.2.2.2.2.2.2))
      else
        let d := tTake ts 39 c.2
        if d.1 = true then (true, (d.2.1, d.2.2.1, d.2.2.2.1, d.2.2.2.2.1, 2, d.2.2.2.2.2.2)) else (true, (d.2.1, d.2.2.1, d.2.2.2.1, d.2.2.2.2.1, 0, d.2.2.2.2.2.2))
    else (false, b.2)
  else (false, a.2)
def tSign (ts : List Int32) (S : Rs) : Bool × Rs :=
  let a := tSound ts (S.1, 2, S.2.2)
  if a.1 = true then
    let b := tTake ts 61 a.2
    if b.1 = true then tLet ts 2 b.2 else (false, b.2)
  else (false, a.2)
def tEntry (ts : List Int32) (S : Rs) : Bool × Rs :=
  if ts.getD S.1 (-5) = 58 then tWord ts S else if cpt (ts.getD S.1 (-5)) = true then tSign ts S else tRule ts S
theorem sm_f1 {c : Int32} (h : c < 97) : bI (sm c) = 0 := by
  unfold sm; rw [decide_eq_false (fun z => by rw [i_lt] at h; have := i_le.mp z.1; omega)]; rfl
theorem sm_f2 {c : Int32} (h : 122 < c) : bI (sm c) = 0 := by
  unfold sm; rw [decide_eq_false (fun z => by rw [i_lt] at h; have := i_le.mp z.2; omega)]; rfl
theorem sm_t {c : Int32} (h1 : ¬ c < 97) (h2 : ¬ 122 < c) : bI (sm c) = 1 := by
  rw [i_lt] at h1 h2
  unfold sm; rw [decide_eq_true ⟨i_le.mpr (by omega), i_le.mpr (by omega)⟩]; rfl
theorem cpt_f1 {c : Int32} (h : c < 65) : bI (cpt c) = 0 := by
  unfold cpt; rw [decide_eq_false (fun z => by rw [i_lt] at h; have := i_le.mp z.1; omega)]; rfl
theorem cpt_f2 {c : Int32} (h : 90 < c) : bI (cpt c) = 0 := by
  unfold cpt; rw [decide_eq_false (fun z => by rw [i_lt] at h; have := i_le.mp z.2; omega)]; rfl
theorem cpt_t {c : Int32} (h1 : ¬ c < 65) (h2 : ¬ 90 < c) : bI (cpt c) = 1 := by
  rw [i_lt] at h1 h2
  unfold cpt; rw [decide_eq_true ⟨i_le.mpr (by omega), i_le.mpr (by omega)⟩]; rfl
theorem adL_lt {cap : Nat} {xs : List Int32} {v : Int32} (h : xs.length < cap) : adL cap xs v = xs ++ [v] := if_pos h
theorem end_0 {P : Nat} {ts : List Int32} (hP : P ≤ ts.length) (hN : ts.length < 1000000000) (h : nI P < nI ts.length) : bI (decide (ts.length ≤ P)) = 0 := by
  rw [nI_ltI (by omega) (by omega)] at h
  rw [decide_eq_false (by omega)]; rfl
theorem end_1 {P : Nat} {ts : List Int32} (hP : P ≤ ts.length) (hN : ts.length < 1000000000) (h : ¬ nI P < nI ts.length) : bI (decide (ts.length ≤ P)) = 1 := by
  rw [nI_ltI (by omega) (by omega)] at h
  rw [decide_eq_true (by omega)]; rfl
theorem pos_0 {xs : List Int32} (hN : xs.length < 1000000000) (h : nI xs.length ≤ 0) : bI (decide (0 < xs.length)) = 0 := by
  rw [decide_eq_false (fun z => nI_nle z (by omega) h)]; rfl
theorem pos_1 {xs : List Int32} (h : ¬ nI xs.length ≤ 0) : bI (decide (0 < xs.length)) = 1 := by
  have : 0 < xs.length := Nat.pos_of_ne_zero (fun z => h (by rw [z]; decide))
  rw [decide_eq_true this]; rfl
