def tbm (S : Bk) (v : Sv) (k : Nat) : Bool := decide (S.2.2.2.2.2.getD k (-5) = 0) && !cbk v.2.2.1 k
def mkS (S : Bk) (v : Sv) : Nat → Bk
  | 0 => S
  | k + 1 => if tbm (mkS S v k) v k = true then kindB (mkS S v k) (nI k) 2 else mkS S v k
theorem mkS_t {S : Bk} {v : Sv} {k : Nat} (h : tbm (mkS S v k) v k = true) : mkS S v (k + 1) = kindB (mkS S v k) (nI k) 2 := if_pos h
theorem mkS_f {S : Bk} {v : Sv} {k : Nat} (h : tbm (mkS S v k) v k = false) : mkS S v (k + 1) = mkS S v k := if_neg (by rw [h]; exact Bool.false_ne_true)
theorem mkS_wl (S : Bk) (v : Sv) : ∀ k, (mkS S v k).2.2.2.2.1 = S.2.2.2.2.1
  | 0 => rfl
  | k + 1 => by
    by_cases h : tbm (mkS S v k) v k = true
    · rw [mkS_t h]; exact mkS_wl S v k
    · rw [mkS_f (by simpa using h)]; exact mkS_wl S v k
def sMark (o : Ob) : Int32 × Ob := if nI (cntR (tbm o.2.2.1 (svy o.2.2.1)) o.2.2.1.2.2.2.2.1.length) = 0 then (-5, o) else (nI (cntR (tbm o.2.2.1 (svy o.2.2.1)) o.2.2.1.2.2.2.2.1.length), act o (mkS o.2.2.1 (svy o.2.2.1) o.2.2.1.2.2.2.2.1.length))
def kndW (S : Bk) (l : List Int32) : Int32 := if opI (fdo l S.2.2.2.2.1 0) = -5 then 0 else gt S.2.2.2.2.2 (opI (fdo l S.2.2.2.2.1 0))
def bk1 (m : Bool) (l : List Int32) : List Int32 := if m = true then adL 25 l 39 else l
def bk2 (S : Bk) (m : Bool) (l : List Int32) : List Int32 := if opI (fdo (bk1 m l) (svy S).2.2.1 0) = -5 then (if m = true then (bk1 m l).dropLast else bk1 m l) else aaL 25 [] (ln S.2.2.2.2.1 (opI (fdo (bk1 m l) (svy S).2.2.1 0)))
def outW (S : Bk) (b m : Bool) (l : List Int32) : List Int32 := if b = true then bk2 S m l else spW S l (kndW S l)
def cvm (b : Bool) : Nat := if b = true then 24 else 12
def cvk (ts : List Int32) (b : Bool) (P : Nat) : Bool := b && decide (ts.getD P (-5) = 39)
def cvq (ts : List Int32) (b : Bool) (P : Nat) : Nat := if b = true then tkP ts P 39 else P
def cvF (ts : List Int32) (S : Bk) (b : Bool) : Nat → Nat → List Int32 → Bool × Nat × List Int32
  | 0, P, ns => (true, P, ns)
  | n + 1, P, ns =>
    if (tlF (cvm b) (ts.drop P)).length = 0 then (false, P + (tlF (cvm b) (ts.drop P)).length, ns) else
    if ts.getD (cvq ts b (P + (tlF (cvm b) (ts.drop P)).length)) (-5) = 32 then cvF ts S b n (cvq ts b (P + (tlF (cvm b) (ts.drop P)).length) + 1) (adL 400 (aaL 400 ns (outW S b (cvk ts b (P + (tlF (cvm b) (ts.drop P)).length)) (tlF (cvm b) (ts.drop P)))) 32)
    else (true, cvq ts b (P + (tlF (cvm b) (ts.drop P)).length), aaL 400 ns (outW S b (cvk ts b (P + (tlF (cvm b) (ts.drop P)).length)) (tlF (cvm b) (ts.drop P))))
def sConv (o : Ob) (b : Bool) : Int32 × Ob :=
  if (cvF o.1 o.2.2.1 b 60 0 []).1 = true ∧ o.1.length ≤ (cvF o.1 o.2.2.1 b 60 0 []).2.1 then (nI (aaL 400 [] (cvF o.1 o.2.2.1 b 60 0 []).2.2).length, (o.1, aaL 400 [] (cvF o.1 o.2.2.1 b 60 0 []).2.2, o.2.2)) else (-100 - nI (cvF o.1 o.2.2.1 b 60 0 []).2.1, o)
theorem cvF_0 {ts : List Int32} {S : Bk} {b : Bool} {k P : Nat} {ns : List Int32} (hk : k < 60) (h : (tlF (cvm b) (ts.drop P)).length = 0) : cvF ts S b (60 - k) P ns = (false, P + (tlF (cvm b) (ts.drop P)).length, ns) := by
  rw [show 60 - k = (60 - (k + 1)) + 1 by omega]
  exact if_pos h
theorem cvF_1 {ts : List Int32} {S : Bk} {b : Bool} {k P : Nat} {ns : List Int32} (hk : k < 60) (h : ¬ (tlF (cvm b) (ts.drop P)).length = 0) (h2 : ts.getD (cvq ts b (P + (tlF (cvm b) (ts.drop P)).length)) (-5) = 32) : cvF ts S b (60 - k) P ns = cvF ts S b (60 - (k + 1)) (cvq ts b (P + (tlF (cvm b) (ts.drop P)).length) + 1) (adL 400 (aaL 400 ns (outW S b (cvk ts b (P + (tlF (cvm b) (ts.drop P)).length)) (tlF (cvm b) (ts.drop P)))) 32) := by
  rw [show 60 - k = (60 - (k + 1)) + 1 by omega]
  exact (if_neg h).trans (if_pos h2)
theorem cvF_2 {ts : List Int32} {S : Bk} {b : Bool} {k P : Nat} {ns : List Int32} (hk : k < 60) (h : ¬ (tlF (cvm b) (ts.drop P)).length = 0) (h2 : ¬ ts.getD (cvq ts b (P + (tlF (cvm b) (ts.drop P)).length)) (-5) = 32) : cvF ts S b (60 - k) P ns = (true, cvq ts b (P + (tlF (cvm b) (ts.drop P)).length), aaL 400 ns (outW S b (cvk ts b (P + (tlF (cvm b) (ts.drop P)).length)) (tlF (cvm b) (ts.drop P)))) := by
  rw [show 60 - k = (60 - (k + 1)) + 1 by omega]
  exact (if_neg h).trans (if_neg h2)
theorem tkP_t {ts : List Int32} {P : Nat} {c : Int32} (h : ts.getD P (-5) = c) : tkP ts P c = P + 1 := if_pos h
theorem tkP_f {ts : List Int32} {P : Nat} {c : Int32} (h : ¬ ts.getD P (-5) = c) : tkP ts P c = P := if_neg h
theorem cvq_le {ts : List Int32} {b : Bool} {P : Nat} (hP : P ≤ ts.length) : cvq ts b P ≤ ts.length := by
  unfold cvq
  split
  · exact tk_le hP (by decide)
  · exact hP
abbrev Er : Type := Bool × Rs × Bk × Bool × Nat
def reF (ts : List Int32) : Nat → Rs → Bk → Bool → Nat → Er
  | 0, st, D, nw, n => (true, st, D, nw, n)
  | f + 1, st, D, nw, n =>
    if (tEntry ts st).1 = true then
      (if (tTake ts 44 (tEntry ts st).2).1 = true then reF ts f (tTake ts 44 (tEntry ts st).2).2 (addEnt 60 50 D (tEntry ts st).2.2.2.2.2.2 (tEntry ts st).2.2.1 (tEntry ts st).2.2.2.1 (tEntry ts st).2.2.2.2.1 (tEntry ts st).2.2.2.2.2.1) (newEnt D (tEntry ts st).2.2.2.2.2.2 (tEntry ts st).2.2.1 (tEntry ts st).2.2.2.2.1 && nw) (n + 1)
       else (true, (tTake ts 44 (tEntry ts st).2).2, addEnt 60 50 D (tEntry ts st).2.2.2.2.2.2 (tEntry ts st).2.2.1 (tEntry ts st).2.2.2.1 (tEntry ts st).2.2.2.2.1 (tEntry ts st).2.2.2.2.2.1, newEnt D (tEntry ts st).2.2.2.2.2.2 (tEntry ts st).2.2.1 (tEntry ts st).2.2.2.2.1 && nw, n + 1))
    else (false, (tEntry ts st).2, D, nw, n)
theorem reF_0 {ts : List Int32} {k n : Nat} {st : Rs} {D : Bk} {nw : Bool} (hk : k < 60) (h : (tEntry ts st).1 = false) : reF ts (60 - k) st D nw n = (false, (tEntry ts st).2, D, nw, n) := by
  rw [show 60 - k = (60 - (k + 1)) + 1 by omega]
  exact if_neg (by rw [h]; exact Bool.false_ne_true)
theorem reF_1 {ts : List Int32} {k n : Nat} {st : Rs} {D : Bk} {nw : Bool} (hk : k < 60) (h : (tEntry ts st).1 = true) (h2 : (tTake ts 44 (tEntry ts st).2).1 = true) : reF ts (60 - k) st D nw n = reF ts (60 - (k + 1)) (tTake ts 44 (tEntry ts st).2).2 (addEnt 60 50 D (tEntry ts st).2.2.2.2.2.2 (tEntry ts st).2.2.1 (tEntry ts st).2.2.2.1 (tEntry ts st).2.2.2.2.1 (tEntry ts st).2.2.2.2.2.1) (newEnt D (tEntry ts st).2.2.2.2.2.2 (tEntry ts st).2.2.1 (tEntry ts st).2.2.2.2.1 && nw) (n + 1) := by
  rw [show 60 - k = (60 - (k + 1)) + 1 by omega]
  exact (if_pos h).trans (if_pos h2)
theorem reF_2 {ts : List Int32} {k n : Nat} {st : Rs} {D : Bk} {nw : Bool} (hk : k < 60) (h : (tEntry ts st).1 = true) (h2 : (tTake ts 44 (tEntry ts st).2).1 = false) : reF ts (60 - k) st D nw n = (true, (tTake ts 44 (tEntry ts st).2).2, addEnt 60 50 D (tEntry ts st).2.2.2.2.2.2 (tEntry ts st).2.2.1 (tEntry ts st).2.2.2.1 (tEntry ts st).2.2.2.2.1 (tEntry ts st).2.2.2.2.2.1, newEnt D (tEntry ts st).2.2.2.2.2.2 (tEntry ts st).2.2.1 (tEntry ts st).2.2.2.2.1 && nw, n + 1) := by
  rw [show 60 - k = (60 - (k + 1)) + 1 by omega]
  exact (if_pos h).trans (if_neg (by rw [h2]; exact Bool.false_ne_true))
def sRead2 (o : Ob) (r : Er) : Int32 × Ob :=
  if r.1 = true ∧ o.1.length ≤ r.2.1.1 then
    (if r.2.2.2.1 = true then (if nI r.2.2.1.1.length ≤ 30 ∧ nI r.2.2.1.2.2.2.2.1.length ≤ 20 then (nI r.2.2.2.2, act o (cpB 30 20 r.2.2.1)) else (-3, o)) else (-4, o))
  else (-100 - nI r.2.1.1, o)
def sRead (o : Ob) (q : Int32 × Int32 × Int32 × Int32 × List Int32) : Int32 × Ob := sRead2 o (reF o.1 60 (0, q) (cpB 60 50 o.2.2.1) true 0)
theorem tRule_le {ts : List Int32} {S : Rs} (hP : S.1 ≤ ts.length) : (tRule ts S).2.1 ≤ ts.length := by
  unfold tRule
  dsimp only
  have a1 : (tLet ts 4 (S.1, 0, S.2.2)).2.1 ≤ ts.length := tl_le (m := 4) hP
  have a2 : (tTake ts 61 (tLet ts 4 (S.1, 0, S.2.2)).2).2.1 ≤ ts.length := tk_le a1 (by decide)
  have a3 : (tSound ts (tTake ts 61 (tLet ts 4 (S.1, 0, S.2.2)).2).2).2.1 ≤ ts.length := sndP_le a2
  split
  · split
    · split
      · exact sdP_le a3
      · exact a3
    · exact a2
  · exact a1
theorem tWord_le {ts : List Int32} {S : Rs} (hP : S.1 ≤ ts.length) : (tWord ts S).2.1 ≤ ts.length := by
  unfold tWord
  dsimp only
  have a1 : (tTake ts 58 (S.1, 1, S.2.2)).2.1 ≤ ts.length := tk_le hP (by decide)
  have a2 : (tLet ts 12 (tTake ts 58 (S.1, 1, S.2.2)).2).2.1 ≤ ts.length := tl_le (m := 12) a1
  have a3 : (tTake ts 33 (tLet ts 12 (tTake ts 58 (S.1, 1, S.2.2)).2).2).2.1 ≤ ts.length := tk_le a2 (by decide)
  have a4 : (tTake ts 39 (tTake ts 33 (tLet ts 12 (tTake ts 58 (S.1, 1, S.2.2)).2).2).2).2.1 ≤ ts.length := tk_le a3 (by decide)
  split
  · split
    · split
      · exact a3
      · split
        · exact a4
        · exact a4
    · exact a2
  · exact a1
theorem tSign_le {ts : List Int32} {S : Rs} (hP : S.1 ≤ ts.length) : (tSign ts S).2.1 ≤ ts.length := by
  unfold tSign
  dsimp only
  have a1 : (tSound ts (S.1, 2, S.2.2)).2.1 ≤ ts.length := sndP_le hP
  have a2 : (tTake ts 61 (tSound ts (S.1, 2, S.2.2)).2).2.1 ≤ ts.length := tk_le a1 (by decide)
  split
  · split
    · exact tl_le (m := 2) a2
    · exact a2
  · exact a1
theorem tEnt_le {ts : List Int32} {S : Rs} (hP : S.1 ≤ ts.length) : (tEntry ts S).2.1 ≤ ts.length := by
  unfold tEntry
  split
  · exact tWord_le hP
  · split
    · exact tSign_le hP
    · exact tRule_le hP
theorem bI_and {a b : Bool} (h1 : ¬ bI a = 0) (h2 : ¬ bI b = 0) : bI (a && b) = 1 := by rw [bI_1 h1, bI_1 h2]; rfl
theorem bI_and0 {a b : Bool} (h1 : bI a = 0) : bI (a && b) = 0 := by rw [bI_0 h1]; rfl
theorem bI_and1 {a b : Bool} (h1 : bI b = 0) : bI (a && b) = 0 := by rw [bI_0 h1, Bool.and_false]; rfl
theorem sRd_f1 {o : Ob} {r : Er} (h : r.1 = false) : sRead2 o r = (-100 - nI r.2.1.1, o) := if_neg (fun z => by rw [h] at z; exact Bool.false_ne_true z.1)
theorem sRd_f2 {o : Ob} {r : Er} (h : ¬ o.1.length ≤ r.2.1.1) : sRead2 o r = (-100 - nI r.2.1.1, o) := if_neg (fun z => h z.2)
theorem sRd_4 {o : Ob} {r : Er} (h1 : r.1 = true) (h2 : o.1.length ≤ r.2.1.1) (h3 : r.2.2.2.1 = false) : sRead2 o r = (-4, o) := (if_pos ⟨h1, h2⟩).trans (if_neg (by rw [h3]; exact Bool.false_ne_true))
theorem sRd_3 {o : Ob} {r : Er} (h1 : r.1 = true) (h2 : o.1.length ≤ r.2.1.1) (h3 : r.2.2.2.1 = true) (h4 : ¬ (nI r.2.2.1.1.length ≤ 30 ∧ nI r.2.2.1.2.2.2.2.1.length ≤ 20)) : sRead2 o r = (-3, o) := (if_pos ⟨h1, h2⟩).trans ((if_pos h3).trans (if_neg h4))
theorem sRd_1 {o : Ob} {r : Er} (h1 : r.1 = true) (h2 : o.1.length ≤ r.2.1.1) (h3 : r.2.2.2.1 = true) (h4 : nI r.2.2.1.1.length ≤ 30 ∧ nI r.2.2.1.2.2.2.2.1.length ≤ 20) : sRead2 o r = (nI r.2.2.2.2, act o (cpB 30 20 r.2.2.1)) := (if_pos ⟨h1, h2⟩).trans ((if_pos h3).trans (if_pos h4))
theorem and_f1 {a b : Bool} (h : bI a = 0) : (a && b) = false := by rw [bI_0 h]; rfl
theorem and_f2 {a b : Bool} (h : bI b = 0) : (a && b) = false := by rw [bI_0 h, Bool.and_false]
theorem and_t {a b : Bool} (h1 : ¬ bI a = 0) (h2 : ¬ bI b = 0) : (a && b) = true := by rw [bI_1 h1, bI_1 h2]; rfl
